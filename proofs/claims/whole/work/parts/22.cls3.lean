/-! The class: dangerous tows; boats, sections, contracts, pages. -/
noncomputable def rDk (S : cS) (a : Nat) (lo : Int32) (more : Option Nat) (pl k : Nat) : Bool := match rSeen S a lo more k with
  | none => false
  | some b => decide (cUl S b (rSeen S a lo more (k + pl)) = 1 ∨ (¬ (k + 1) % pl = 0 ∧ cUl S b (rSeen S a lo more (k + 1)) = 1))
noncomputable def rDg (S : cS) (a : Nat) (lo : Int32) (more : Option Nat) (pl : Nat) : Nat → Bool
  | 0 => false
  | j + 1 => rDg S a lo more pl j || rDk S a lo more pl j
theorem rDg_t {S : cS} {a : Nat} {lo : Int32} {more : Option Nat} {pl k : Nat} (h : rDk S a lo more pl k = true) : ∀ n, k < n → rDg S a lo more pl n = true
  | 0, hk => by omega
  | n + 1, hk => by
    show (rDg S a lo more pl n || rDk S a lo more pl n) = true
    by_cases e : k = n
    · subst e
      rw [h]
      simp
    · rw [rDg_t h n (by omega)]
      rfl
theorem rSeen_b {S : cS} {a : Nat} {lo : Int32} {more : Option Nat} (hR : rOk S a) (hm : ∀ c, more = some c → cK S c = 2) (k : Nat) : ∀ c, rSeen S a lo more k = some c → cK S c = 2 := by
  intro c h
  unfold rSeen at h
  generalize (if lo ≠ -1 ∧ lo ≤ nI k then k + 1 else k) = z at h
  split at h
  · exact hm c h
  · split at h
    · rename_i q
      cases h
      exact (hR.2.2.2 _ q).2
    · cases h
theorem cUl_01 (S : cS) (a : Nat) (b : Option Nat) : cUl S a b = 0 ∨ cUl S a b = 1 := by
  unfold cUl
  split
  · exact Or.inl rfl
  · split <;> simp
def rPc (S : cS) (a : Nat) : Nat := (cFi S a 504).toNatClampNeg

def tbX4_isDangerous : List (Nat × xHint) := [(0, .aload_n 0, 0, 0, 0, []), (1, .getfield 9, 5, 4, 0, []), (4, .iconst 1, 0, 0, 0, []), (5, .if_icmp .ge 5, 10, 0, 0, []), (8, .iconst 0, 0, 0, 0, []), (9, .ireturn, 1, 0, 0, []), (10, .iconst 0, 0, 0, 0, []), (11, .istore_n 3, 3, 0, 0, []), (12, .iload_n 3, 3, 0, 0, []), (13, .aload_n 0, 0, 0, 0, []), (14, .getfield 18, 5, 5, 2, []), (17, .invokevirtual 34, 0, 1, 0, []), (20, .if_icmp .gt 88, 108, 0, 0, []), (23, .aload_n 0, 0, 0, 0, []), (24, .iload_n 3, 3, 0, 0, []), (25, .iload_n 1, 1, 0, 0, []), (26, .aload_n 2, 2, 0, 0, []), (27, .invokevirtual 78, 1, 4, 5, []), (30, .astore 4, 4, 0, 0, []), (32, .aload 4, 4, 0, 0, []), (34, .ifnonnull 6, 40, 0, 0, []), (37, .goto 65, 102, 0, 0, []), (40, .iload_n 3, 3, 0, 0, []), (41, .iconst 1, 0, 0, 0, []), (42, .iadd, 0, 0, 0, []), (43, .aload_n 0, 0, 0, 0, []), (44, .getfield 9, 5, 4, 0, []), (47, .irem, 0, 0, 0, []), (48, .ifCond .ne 7, 55, 0, 0, []), (51, .iconst 1, 0, 0, 0, []), (52, .goto 4, 56, 0, 0, []), (55, .iconst 0, 0, 0, 0, []), (56, .istore 5, 5, 0, 0, []), (58, .aload 4, 4, 0, 0, []), (60, .aload_n 0, 0, 0, 0, []), (61, .iload_n 3, 3, 0, 0, []), (62, .aload_n 0, 0, 0, 0, []), (63, .getfield 9, 5, 4, 0, []), (66, .iadd, 0, 0, 0, []), (67, .iload_n 1, 1, 0, 0, []), (68, .aload_n 2, 2, 0, 0, []), (69, .invokevirtual 78, 1, 4, 5, []), (72, .invokevirtual 82, 2, 2, 1, []), (75, .ifCond .ne 25, 100, 0, 0, []), (78, .iload 5, 5, 0, 0, []), (80, .ifCond .ne 22, 102, 0, 0, []), (83, .aload 4, 4, 0, 0, []), (85, .aload_n 0, 0, 0, 0, []), (86, .iload_n 3, 3, 0, 0, []), (87, .iconst 1, 0, 0, 0, []), (88, .iadd, 0, 0, 0, []), (89, .iload_n 1, 1, 0, 0, []), (90, .aload_n 2, 2, 0, 0, []), (91, .invokevirtual 78, 1, 4, 5, []), (94, .invokevirtual 82, 2, 2, 1, []), (97, .ifCond .eq 5, 102, 0, 0, []), (100, .iconst 1, 0, 0, 0, []), (101, .ireturn, 1, 0, 0, []), (102, .iinc 3 1, 3, 0, 0, []), (105, .goto (-93), 12, 0, 0, []), (108, .iconst 0, 0, 0, 0, []), (109, .ireturn, 1, 0, 0, [])]
def clX4_isDangerous : List (Instr × Nat × Nat × Nat) := [(.invokevirtual 34, 0, 1, 0), (.invokevirtual 78, 1, 4, 5), (.invokevirtual 82, 2, 2, 1)]
def thX4_isDangerous : List (Nat × Nat) := []
theorem ckX4_isDangerous : tbX4_isDangerous.all (xRow RX4 cX4_isDangerous wsX4_isDangerous vwCl [5] clX4_isDangerous thX4_isDangerous 6 (yX4_isDangerous.name == "<init>") (some .boolean)) = true := xRow_q 0xac03a3ffa7010384ac040500995200b64e00b62c1b60041d2a041916009a051519009a5200b64e00b62c1b600900b42a1d2a04190536030400a70407009a700900b42a60041d4100a70600c70419043a4e00b62c1b1d2a5800a32200b61200b42a1d3e03ac030500a2040900b42a 110 (by decide +kernel) (by decide +kernel)
theorem usX4_isDangerous : xUse wsX4_isDangerous vwCl [5] = true := xUse_g rfl (lw_good lwl_X4_isDangerous lwl_X40 (by decide +kernel)) xUse_n
theorem tbX4_isDangerous_0 {k : Instr → Nat → Nat → Nat → List Nat → Prop} : xse (xFind tbX4_isDangerous 0) k = k (.aload_n 0) 0 0 0 [] := rfl
theorem tbX4_isDangerous_1 {k : Instr → Nat → Nat → Nat → List Nat → Prop} : xse (xFind tbX4_isDangerous 1) k = k (.getfield 9) 5 4 0 [] := rfl
theorem tbX4_isDangerous_4 {k : Instr → Nat → Nat → Nat → List Nat → Prop} : xse (xFind tbX4_isDangerous 4) k = k (.iconst 1) 0 0 0 [] := rfl
theorem tbX4_isDangerous_5 {k : Instr → Nat → Nat → Nat → List Nat → Prop} : xse (xFind tbX4_isDangerous 5) k = k (.if_icmp .ge 5) 10 0 0 [] := rfl
theorem tbX4_isDangerous_8 {k : Instr → Nat → Nat → Nat → List Nat → Prop} : xse (xFind tbX4_isDangerous 8) k = k (.iconst 0) 0 0 0 [] := rfl
theorem tbX4_isDangerous_9 {k : Instr → Nat → Nat → Nat → List Nat → Prop} : xse (xFind tbX4_isDangerous 9) k = k (.ireturn) 1 0 0 [] := rfl
theorem tbX4_isDangerous_10 {k : Instr → Nat → Nat → Nat → List Nat → Prop} : xse (xFind tbX4_isDangerous 10) k = k (.iconst 0) 0 0 0 [] := rfl
theorem tbX4_isDangerous_11 {k : Instr → Nat → Nat → Nat → List Nat → Prop} : xse (xFind tbX4_isDangerous 11) k = k (.istore_n 3) 3 0 0 [] := rfl
theorem tbX4_isDangerous_12 {k : Instr → Nat → Nat → Nat → List Nat → Prop} : xse (xFind tbX4_isDangerous 12) k = k (.iload_n 3) 3 0 0 [] := rfl
theorem tbX4_isDangerous_13 {k : Instr → Nat → Nat → Nat → List Nat → Prop} : xse (xFind tbX4_isDangerous 13) k = k (.aload_n 0) 0 0 0 [] := rfl
theorem tbX4_isDangerous_14 {k : Instr → Nat → Nat → Nat → List Nat → Prop} : xse (xFind tbX4_isDangerous 14) k = k (.getfield 18) 5 5 2 [] := rfl
theorem tbX4_isDangerous_17 {k : Instr → Nat → Nat → Nat → List Nat → Prop} : xse (xFind tbX4_isDangerous 17) k = k (.invokevirtual 34) 0 1 0 [] := rfl
theorem tbX4_isDangerous_20 {k : Instr → Nat → Nat → Nat → List Nat → Prop} : xse (xFind tbX4_isDangerous 20) k = k (.if_icmp .gt 88) 108 0 0 [] := rfl
theorem tbX4_isDangerous_23 {k : Instr → Nat → Nat → Nat → List Nat → Prop} : xse (xFind tbX4_isDangerous 23) k = k (.aload_n 0) 0 0 0 [] := rfl
theorem tbX4_isDangerous_24 {k : Instr → Nat → Nat → Nat → List Nat → Prop} : xse (xFind tbX4_isDangerous 24) k = k (.iload_n 3) 3 0 0 [] := rfl
theorem tbX4_isDangerous_25 {k : Instr → Nat → Nat → Nat → List Nat → Prop} : xse (xFind tbX4_isDangerous 25) k = k (.iload_n 1) 1 0 0 [] := rfl
theorem tbX4_isDangerous_26 {k : Instr → Nat → Nat → Nat → List Nat → Prop} : xse (xFind tbX4_isDangerous 26) k = k (.aload_n 2) 2 0 0 [] := rfl
theorem tbX4_isDangerous_27 {k : Instr → Nat → Nat → Nat → List Nat → Prop} : xse (xFind tbX4_isDangerous 27) k = k (.invokevirtual 78) 1 4 5 [] := rfl
theorem tbX4_isDangerous_30 {k : Instr → Nat → Nat → Nat → List Nat → Prop} : xse (xFind tbX4_isDangerous 30) k = k (.astore 4) 4 0 0 [] := rfl
theorem tbX4_isDangerous_32 {k : Instr → Nat → Nat → Nat → List Nat → Prop} : xse (xFind tbX4_isDangerous 32) k = k (.aload 4) 4 0 0 [] := rfl
theorem tbX4_isDangerous_34 {k : Instr → Nat → Nat → Nat → List Nat → Prop} : xse (xFind tbX4_isDangerous 34) k = k (.ifnonnull 6) 40 0 0 [] := rfl
theorem tbX4_isDangerous_37 {k : Instr → Nat → Nat → Nat → List Nat → Prop} : xse (xFind tbX4_isDangerous 37) k = k (.goto 65) 102 0 0 [] := rfl
theorem tbX4_isDangerous_40 {k : Instr → Nat → Nat → Nat → List Nat → Prop} : xse (xFind tbX4_isDangerous 40) k = k (.iload_n 3) 3 0 0 [] := rfl
theorem tbX4_isDangerous_41 {k : Instr → Nat → Nat → Nat → List Nat → Prop} : xse (xFind tbX4_isDangerous 41) k = k (.iconst 1) 0 0 0 [] := rfl
theorem tbX4_isDangerous_42 {k : Instr → Nat → Nat → Nat → List Nat → Prop} : xse (xFind tbX4_isDangerous 42) k = k (.iadd) 0 0 0 [] := rfl
theorem tbX4_isDangerous_43 {k : Instr → Nat → Nat → Nat → List Nat → Prop} : xse (xFind tbX4_isDangerous 43) k = k (.aload_n 0) 0 0 0 [] := rfl
theorem tbX4_isDangerous_44 {k : Instr → Nat → Nat → Nat → List Nat → Prop} : xse (xFind tbX4_isDangerous 44) k = k (.getfield 9) 5 4 0 [] := rfl
theorem tbX4_isDangerous_47 {k : Instr → Nat → Nat → Nat → List Nat → Prop} : xse (xFind tbX4_isDangerous 47) k = k (.irem) 0 0 0 [] := rfl
theorem tbX4_isDangerous_48 {k : Instr → Nat → Nat → Nat → List Nat → Prop} : xse (xFind tbX4_isDangerous 48) k = k (.ifCond .ne 7) 55 0 0 [] := rfl
theorem tbX4_isDangerous_51 {k : Instr → Nat → Nat → Nat → List Nat → Prop} : xse (xFind tbX4_isDangerous 51) k = k (.iconst 1) 0 0 0 [] := rfl
theorem tbX4_isDangerous_52 {k : Instr → Nat → Nat → Nat → List Nat → Prop} : xse (xFind tbX4_isDangerous 52) k = k (.goto 4) 56 0 0 [] := rfl
theorem tbX4_isDangerous_55 {k : Instr → Nat → Nat → Nat → List Nat → Prop} : xse (xFind tbX4_isDangerous 55) k = k (.iconst 0) 0 0 0 [] := rfl
theorem tbX4_isDangerous_56 {k : Instr → Nat → Nat → Nat → List Nat → Prop} : xse (xFind tbX4_isDangerous 56) k = k (.istore 5) 5 0 0 [] := rfl
theorem tbX4_isDangerous_58 {k : Instr → Nat → Nat → Nat → List Nat → Prop} : xse (xFind tbX4_isDangerous 58) k = k (.aload 4) 4 0 0 [] := rfl
theorem tbX4_isDangerous_60 {k : Instr → Nat → Nat → Nat → List Nat → Prop} : xse (xFind tbX4_isDangerous 60) k = k (.aload_n 0) 0 0 0 [] := rfl
theorem tbX4_isDangerous_61 {k : Instr → Nat → Nat → Nat → List Nat → Prop} : xse (xFind tbX4_isDangerous 61) k = k (.iload_n 3) 3 0 0 [] := rfl
theorem tbX4_isDangerous_62 {k : Instr → Nat → Nat → Nat → List Nat → Prop} : xse (xFind tbX4_isDangerous 62) k = k (.aload_n 0) 0 0 0 [] := rfl
theorem tbX4_isDangerous_63 {k : Instr → Nat → Nat → Nat → List Nat → Prop} : xse (xFind tbX4_isDangerous 63) k = k (.getfield 9) 5 4 0 [] := rfl
theorem tbX4_isDangerous_66 {k : Instr → Nat → Nat → Nat → List Nat → Prop} : xse (xFind tbX4_isDangerous 66) k = k (.iadd) 0 0 0 [] := rfl
theorem tbX4_isDangerous_67 {k : Instr → Nat → Nat → Nat → List Nat → Prop} : xse (xFind tbX4_isDangerous 67) k = k (.iload_n 1) 1 0 0 [] := rfl
theorem tbX4_isDangerous_68 {k : Instr → Nat → Nat → Nat → List Nat → Prop} : xse (xFind tbX4_isDangerous 68) k = k (.aload_n 2) 2 0 0 [] := rfl
theorem tbX4_isDangerous_69 {k : Instr → Nat → Nat → Nat → List Nat → Prop} : xse (xFind tbX4_isDangerous 69) k = k (.invokevirtual 78) 1 4 5 [] := rfl
theorem tbX4_isDangerous_72 {k : Instr → Nat → Nat → Nat → List Nat → Prop} : xse (xFind tbX4_isDangerous 72) k = k (.invokevirtual 82) 2 2 1 [] := rfl
theorem tbX4_isDangerous_75 {k : Instr → Nat → Nat → Nat → List Nat → Prop} : xse (xFind tbX4_isDangerous 75) k = k (.ifCond .ne 25) 100 0 0 [] := rfl
theorem tbX4_isDangerous_78 {k : Instr → Nat → Nat → Nat → List Nat → Prop} : xse (xFind tbX4_isDangerous 78) k = k (.iload 5) 5 0 0 [] := rfl
theorem tbX4_isDangerous_80 {k : Instr → Nat → Nat → Nat → List Nat → Prop} : xse (xFind tbX4_isDangerous 80) k = k (.ifCond .ne 22) 102 0 0 [] := rfl
theorem tbX4_isDangerous_83 {k : Instr → Nat → Nat → Nat → List Nat → Prop} : xse (xFind tbX4_isDangerous 83) k = k (.aload 4) 4 0 0 [] := rfl
theorem tbX4_isDangerous_85 {k : Instr → Nat → Nat → Nat → List Nat → Prop} : xse (xFind tbX4_isDangerous 85) k = k (.aload_n 0) 0 0 0 [] := rfl
theorem tbX4_isDangerous_86 {k : Instr → Nat → Nat → Nat → List Nat → Prop} : xse (xFind tbX4_isDangerous 86) k = k (.iload_n 3) 3 0 0 [] := rfl
theorem tbX4_isDangerous_87 {k : Instr → Nat → Nat → Nat → List Nat → Prop} : xse (xFind tbX4_isDangerous 87) k = k (.iconst 1) 0 0 0 [] := rfl
theorem tbX4_isDangerous_88 {k : Instr → Nat → Nat → Nat → List Nat → Prop} : xse (xFind tbX4_isDangerous 88) k = k (.iadd) 0 0 0 [] := rfl
theorem tbX4_isDangerous_89 {k : Instr → Nat → Nat → Nat → List Nat → Prop} : xse (xFind tbX4_isDangerous 89) k = k (.iload_n 1) 1 0 0 [] := rfl
theorem tbX4_isDangerous_90 {k : Instr → Nat → Nat → Nat → List Nat → Prop} : xse (xFind tbX4_isDangerous 90) k = k (.aload_n 2) 2 0 0 [] := rfl
theorem tbX4_isDangerous_91 {k : Instr → Nat → Nat → Nat → List Nat → Prop} : xse (xFind tbX4_isDangerous 91) k = k (.invokevirtual 78) 1 4 5 [] := rfl
theorem tbX4_isDangerous_94 {k : Instr → Nat → Nat → Nat → List Nat → Prop} : xse (xFind tbX4_isDangerous 94) k = k (.invokevirtual 82) 2 2 1 [] := rfl
theorem tbX4_isDangerous_97 {k : Instr → Nat → Nat → Nat → List Nat → Prop} : xse (xFind tbX4_isDangerous 97) k = k (.ifCond .eq 5) 102 0 0 [] := rfl
theorem tbX4_isDangerous_100 {k : Instr → Nat → Nat → Nat → List Nat → Prop} : xse (xFind tbX4_isDangerous 100) k = k (.iconst 1) 0 0 0 [] := rfl
theorem tbX4_isDangerous_101 {k : Instr → Nat → Nat → Nat → List Nat → Prop} : xse (xFind tbX4_isDangerous 101) k = k (.ireturn) 1 0 0 [] := rfl
theorem tbX4_isDangerous_102 {k : Instr → Nat → Nat → Nat → List Nat → Prop} : xse (xFind tbX4_isDangerous 102) k = k (.iinc 3 1) 3 0 0 [] := rfl
theorem tbX4_isDangerous_105 {k : Instr → Nat → Nat → Nat → List Nat → Prop} : xse (xFind tbX4_isDangerous 105) k = k (.goto (-93)) 12 0 0 [] := rfl
theorem tbX4_isDangerous_108 {k : Instr → Nat → Nat → Nat → List Nat → Prop} : xse (xFind tbX4_isDangerous 108) k = k (.iconst 0) 0 0 0 [] := rfl
theorem tbX4_isDangerous_109 {k : Instr → Nat → Nat → Nat → List Nat → Prop} : xse (xFind tbX4_isDangerous 109) k = k (.ireturn) 1 0 0 [] := rfl

def spX4_isDangerous (W9 : xWd) : xSp cS := (fun av S => (0, 0), fun av S K => ∃ (a : Nat) (lo : Int32) (more : Option Nat), av = [.ref a, .int lo, va_rf more] ∧ (rOk S a ∧ (∀ c, more = some c → cK S c = 2) ∧ (cFi S a 504 = nI (rPc S a) ∧ 0 < rPc S a ∧ rPc S a ≤ 4) ∧ K (rI (bi (rDg S a lo more (rPc S a) (rN S a + 1) = true))) S))
theorem spcX4_isDangerous {av : List Value} {S : cS} {W9 : xWd} : (spX4_isDangerous W9).1 av S = (0, 0) := rfl
theorem spwX4_isDangerous {S : cS} {W9 : xWd} {K : xRes → cS → Prop} {a : Nat} {lo : Int32} {more : Option Nat} : (spX4_isDangerous W9).2 [.ref a, .int lo, va_rf more] S K = (rOk S a ∧ (∀ c, more = some c → cK S c = 2) ∧ (cFi S a 504 = nI (rPc S a) ∧ 0 < rPc S a ∧ rPc S a ≤ 4) ∧ K (rI (bi (rDg S a lo more (rPc S a) (rN S a + 1) = true))) S) :=
  propext ⟨fun h => by
    simp only [spX4_isDangerous] at h
    obtain ⟨_, _, _, e, h⟩ := h
    simp only [List.cons.injEq, Value.int.injEq, Value.ref.injEq, rf_eq, and_true, true_and] at e
    obtain ⟨rfl, rfl, rfl⟩ := e
    exact h, fun h => ⟨_, _, _, rfl, h⟩⟩

def callX4_isDangerous (W9 : xWd) : Nat → Option (xSp cS) := fun n => match n with | 0 => some (spJx4a65c_size_8abf5 W9) | 1 => some (spX4_seenAt W9) | 2 => some (spX0_isDangerousBeside W9) | _ => none

theorem callX4_isDangerous_0 {W9 : xWd} {k : xSp cS → Prop} : xcs (callX4_isDangerous W9 0) k = k (spJx4a65c_size_8abf5 W9) := rfl

theorem callX4_isDangerous_1 {W9 : xWd} {k : xSp cS → Prop} : xcs (callX4_isDangerous W9 1) k = k (spX4_seenAt W9) := rfl

theorem callX4_isDangerous_2 {W9 : xWd} {k : xSp cS → Prop} : xcs (callX4_isDangerous W9 2) k = k (spX0_isDangerousBeside W9) := rfl

theorem crX4_isDangerous (l : Launch) (hl : l.stackTraces = false) (W9 : xWd) : xCallsOK l W9 (cI) (callX4_isDangerous W9) clX4_isDangerous RX4 wsX4_isDangerous 4 88 6 := by
  intro E A p e R s m args below meth c hI hF hL X
  exact List.forall_mem_cons.mpr ⟨⟨_, rfl, xCR_V X (by rw [hI]; exact (semJx4a65c_size_8abf5 l hl W9)) gX4_isDangerous_Jx4a65c_size_8abf5 rfl rfl (by decide +kernel) (by rw [hF, hL]; decide)⟩,
    List.forall_mem_cons.mpr ⟨⟨_, rfl, xCR_V X (by rw [hI]; exact (semX4_seenAt l hl W9)) gX4_isDangerous_X4_seenAt rfl rfl (by decide +kernel) (by rw [hF, hL]; decide)⟩,
    List.forall_mem_cons.mpr ⟨⟨_, rfl, xCR_V X (by rw [hI]; exact (semX0_isDangerousBeside l hl W9)) gX4_isDangerous_X0_isDangerousBeside rfl rfl (by decide +kernel) (by rw [hF, hL]; decide)⟩,
    fun _ h => nomatch h⟩⟩⟩

set_option maxHeartbeats 4000000 in
set_option maxRecDepth 20000 in
theorem semX4_isDangerous (l : Launch) (hl : l.stackTraces = false) (W9 : xWd) : xSem l W9 (cI) yX4_isDangerous wsX4_isDangerous 4 88 (spX4_isDangerous W9) := by
  refine xSem_of (call := callX4_isDangerous W9) (thrf := fun _ => "") cI_law (by decide +kernel) rfl ckX4_isDangerous usX4_isDangerous (crX4_isDangerous l hl W9) xThrOK_nil ?_ ?_
  · intro av S KF h
    obtain ⟨a, lo, more, rfl, h⟩ := h
    exact ⟨by intro v hv; simp only [List.mem_cons, List.not_mem_nil, or_false] at hv; rcases hv with rfl | rfl | rfl <;> first | rfl | exact cat_rf, Nat.le_of_ble_eq_true rfl⟩
  intro av S KF h G hG
  obtain ⟨a, lo, more, rfl, h⟩ := h
  rw [show (spX4_isDangerous W9).1 _ S = _ from spcX4_isDangerous] at hG
  try dsimp only at hG
  change G 0 [some (.ref a), some (.int lo), some (va_rf more), none, none, none] [] S 0 0
  obtain ⟨hR, hm, ⟨p1, p2, p3⟩, h⟩ := h

  obtain ⟨f1, f2, f3, f4, f5, f6⟩ := rOk_facts hR
  generalize rPc S a = n at *
  have hb := fun k => rSeen_b (lo := lo) hR hm k
  have eC : (1 ≤ nI n) = True := by rw [show (1 : Int32) = nI 1 from rfl, le_nI (by omega) (by omega)]; simp; omega
  have loop := xloop hG 12 [true, true, true, true, false, false] (fun j lv st S2 cs ss => lv = [some (.ref a), some (.int lo), some (va_rf more), some (.int (nI j)), none, none] ∧ st = [] ∧ S = S2 ∧ cs = 0 ∧ ss = 0 ∧ rDg S a lo more n j = false) (rN S a + 1) (by
      rintro j hj lv st S2 cs ss ⟨rfl, rfl, rfl, rfl, rfl, hd⟩ fu hfu
      have e0 : (nI (rN S a) < nI j) = False := by rw [lt_nI (by omega) (by omega)]; simp; omega
      have v1 := xin_nI (show j < 60 by omega) (show 60 ≤ 1000 by omega)
      have v2 := xin_nI (show j + n < 60 by omega) (show 60 ≤ 1000 by omega)
      have v3 := xin_nI (show j + 1 < 60 by omega) (show 60 ≤ 1000 by omega)
      have e1 : ¬ nI n = 0 := nI_ne0 p2 (by omega)
      have e2 : nI (j + 1) - nI (j + 1) / nI n * nI n = nI ((j + 1) % n) := pk_rem (by omega) p2 (by omega)
      have hlt := Nat.mod_lt (j + 1) p2
      have e3 : (nI ((j + 1) % n) = 0) = ((j + 1) % n = 0) := by rw [show (0 : Int32) = nI 0 from rfl, eq_nI (by omega) (by omega)]
      have hstep : rDg S a lo more n (j + 1) = (rDg S a lo more n j || rDk S a lo more n j) := rfl
      rw [hd, Bool.false_or] at hstep
      cases hs : rSeen S a lo more j with
      | none =>
        have hk : rDk S a lo more n j = false := by unfold rDk; rw [hs]
        rw [hk] at hstep
        simp only [↓callX4_isDangerous_0, ↓callX4_isDangerous_1, ↓callX4_isDangerous_2, ↓cg_5_4, ↓cg_5_5, cisa, ki_0, ki_1, ↓vm_aload, ↓vm_aload_n, ↓vm_astore, ↓vm_getfield, ↓vm_goto, ↓vm_iadd, ↓vm_iconst, ↓vm_ifCond_eq, ↓vm_ifCond_ne, ↓vm_if_icmp_ge, ↓vm_if_icmp_gt, ↓vm_ifnonnull, ↓vm_iinc, ↓vm_iload, ↓vm_iload_n, ↓vm_invokevirtual, ↓vm_irem, ↓vm_ireturn, ↓vm_istore, ↓vm_istore_n, ↓xc_1, ↓xc_2, ↓xc_4, ↓tbX4_isDangerous_0, ↓tbX4_isDangerous_1, ↓tbX4_isDangerous_4, ↓tbX4_isDangerous_5, ↓tbX4_isDangerous_8, ↓tbX4_isDangerous_9, ↓tbX4_isDangerous_10, ↓tbX4_isDangerous_11, ↓tbX4_isDangerous_12, ↓tbX4_isDangerous_13, ↓tbX4_isDangerous_14, ↓tbX4_isDangerous_17, ↓tbX4_isDangerous_20, ↓tbX4_isDangerous_23, ↓tbX4_isDangerous_24, ↓tbX4_isDangerous_25, ↓tbX4_isDangerous_26, ↓tbX4_isDangerous_27, ↓tbX4_isDangerous_30, ↓tbX4_isDangerous_32, ↓tbX4_isDangerous_34, ↓tbX4_isDangerous_37, ↓tbX4_isDangerous_40, ↓tbX4_isDangerous_41, ↓tbX4_isDangerous_42, ↓tbX4_isDangerous_43, ↓tbX4_isDangerous_44, ↓tbX4_isDangerous_47, ↓tbX4_isDangerous_48, ↓tbX4_isDangerous_51, ↓tbX4_isDangerous_52, ↓tbX4_isDangerous_55, ↓tbX4_isDangerous_56, ↓tbX4_isDangerous_58, ↓tbX4_isDangerous_60, ↓tbX4_isDangerous_61, ↓tbX4_isDangerous_62, ↓tbX4_isDangerous_63, ↓tbX4_isDangerous_66, ↓tbX4_isDangerous_67, ↓tbX4_isDangerous_68, ↓tbX4_isDangerous_69, ↓tbX4_isDangerous_72, ↓tbX4_isDangerous_75, ↓tbX4_isDangerous_78, ↓tbX4_isDangerous_80, ↓tbX4_isDangerous_83, ↓tbX4_isDangerous_85, ↓tbX4_isDangerous_86, ↓tbX4_isDangerous_87, ↓tbX4_isDangerous_88, ↓tbX4_isDangerous_89, ↓tbX4_isDangerous_90, ↓tbX4_isDangerous_91, ↓tbX4_isDangerous_94, ↓tbX4_isDangerous_97, ↓tbX4_isDangerous_100, ↓tbX4_isDangerous_101, ↓tbX4_isDangerous_102, ↓tbX4_isDangerous_105, ↓tbX4_isDangerous_108, ↓tbX4_isDangerous_109, hfu, xstep0, xJ1_hit, xJ1_go, xJ2_hit1, xJ2_hit2, xJ2_go, ↓xif_t, ↓xif_f, seval, ↓xca_eq, ↓xre_l, ↓xre_r, xmask_t, xmask_f, xmask_nil, ↓xst_eq, xX_eq, eI_eq, eMc_eq, eMs_eq, eF_eq, eThr_eq, ↓xS1_mk, ↓xSI_mk, ↓xSR_mk, ↓xLI_0, ↓xLI_s, ↓xLR_0, ↓xLR_s, vRef_ref, vRef_null, vRef_rf, cat_int, cat_ref, cat_null, cat_rf, rf_some, rf_none, rf_null, rf_eq, rf_ref, ref_rf, ref_null, ref_ref, xOk_0, xOk_1, xOk_2r, xOk_2n, xOk_2f, vOpt_rf, vOpt_ref, vOpt_null, List.set_cons_zero, List.set_cons_succ, List.take_succ_cons, List.take_zero, List.drop_succ_cons, List.drop_zero, List.reverse_cons, List.reverse_nil, List.nil_append, List.cons_append, List.append_nil, List.length_cons, List.length_nil, List.map_cons, List.map_nil, List.sum_cons, List.sum_nil, Option.toList_some, Option.toList_none, xRecv_mk, true_and, and_true, true_implies, Nat.reduceAdd, Nat.reduceLeDiff, Nat.zero_le, Nat.le_refl, Nat.add_zero, Nat.zero_add, reduceIte, not_true_eq_false, not_false_eq_true, false_implies, and_self, implies_true, eq_self, Nat.reduceEqDiff, List.cons.injEq, xsn_1, xsn_2, false_and, and_false, or_false, false_or, or_true, true_or, xsn_3, xsn_4, ↓spwJx4a65c_size_8abf5, spcJx4a65c_size_8abf5, ↓spwX4_seenAt, spcX4_seenAt, ↓spwX0_isDangerousBeside, spcX0_isDangerousBeside, f1, f2, f3, f5, e0, hR, v1, ix_nI (show j < 1000 by omega), hs, nI1, hstep]
        try simp only [xif_e]
      | some b =>
        have hkb := hb j b hs
        have hkk : rDk S a lo more n j = decide (cUl S b (rSeen S a lo more (j + n)) = 1 ∨ (¬ (j + 1) % n = 0 ∧ cUl S b (rSeen S a lo more (j + 1)) = 1)) := by unfold rDk; rw [hs]
        have u1 := cUl_01 S b (rSeen S a lo more (j + n))
        have u2 := cUl_01 S b (rSeen S a lo more (j + 1))
        by_cases c : cUl S b (rSeen S a lo more (j + n)) = 1 ∨ (¬ (j + 1) % n = 0 ∧ cUl S b (rSeen S a lo more (j + 1)) = 1)
        · have hk1 : rDk S a lo more n j = true := by rw [hkk]; exact decide_eq_true c
          have hK1 : KF (rI 1) S := by
            have z := rDg_t hk1 (rN S a + 1) hj
            rw [z] at h
            exact h
          simp only [↓callX4_isDangerous_0, ↓callX4_isDangerous_1, ↓callX4_isDangerous_2, ↓cg_5_4, ↓cg_5_5, cisa, ki_0, ki_1, ↓vm_aload, ↓vm_aload_n, ↓vm_astore, ↓vm_getfield, ↓vm_goto, ↓vm_iadd, ↓vm_iconst, ↓vm_ifCond_eq, ↓vm_ifCond_ne, ↓vm_if_icmp_ge, ↓vm_if_icmp_gt, ↓vm_ifnonnull, ↓vm_iinc, ↓vm_iload, ↓vm_iload_n, ↓vm_invokevirtual, ↓vm_irem, ↓vm_ireturn, ↓vm_istore, ↓vm_istore_n, ↓xc_1, ↓xc_2, ↓xc_4, ↓tbX4_isDangerous_0, ↓tbX4_isDangerous_1, ↓tbX4_isDangerous_4, ↓tbX4_isDangerous_5, ↓tbX4_isDangerous_8, ↓tbX4_isDangerous_9, ↓tbX4_isDangerous_10, ↓tbX4_isDangerous_11, ↓tbX4_isDangerous_12, ↓tbX4_isDangerous_13, ↓tbX4_isDangerous_14, ↓tbX4_isDangerous_17, ↓tbX4_isDangerous_20, ↓tbX4_isDangerous_23, ↓tbX4_isDangerous_24, ↓tbX4_isDangerous_25, ↓tbX4_isDangerous_26, ↓tbX4_isDangerous_27, ↓tbX4_isDangerous_30, ↓tbX4_isDangerous_32, ↓tbX4_isDangerous_34, ↓tbX4_isDangerous_37, ↓tbX4_isDangerous_40, ↓tbX4_isDangerous_41, ↓tbX4_isDangerous_42, ↓tbX4_isDangerous_43, ↓tbX4_isDangerous_44, ↓tbX4_isDangerous_47, ↓tbX4_isDangerous_48, ↓tbX4_isDangerous_51, ↓tbX4_isDangerous_52, ↓tbX4_isDangerous_55, ↓tbX4_isDangerous_56, ↓tbX4_isDangerous_58, ↓tbX4_isDangerous_60, ↓tbX4_isDangerous_61, ↓tbX4_isDangerous_62, ↓tbX4_isDangerous_63, ↓tbX4_isDangerous_66, ↓tbX4_isDangerous_67, ↓tbX4_isDangerous_68, ↓tbX4_isDangerous_69, ↓tbX4_isDangerous_72, ↓tbX4_isDangerous_75, ↓tbX4_isDangerous_78, ↓tbX4_isDangerous_80, ↓tbX4_isDangerous_83, ↓tbX4_isDangerous_85, ↓tbX4_isDangerous_86, ↓tbX4_isDangerous_87, ↓tbX4_isDangerous_88, ↓tbX4_isDangerous_89, ↓tbX4_isDangerous_90, ↓tbX4_isDangerous_91, ↓tbX4_isDangerous_94, ↓tbX4_isDangerous_97, ↓tbX4_isDangerous_100, ↓tbX4_isDangerous_101, ↓tbX4_isDangerous_102, ↓tbX4_isDangerous_105, ↓tbX4_isDangerous_108, ↓tbX4_isDangerous_109, hfu, xstep0, xJ1_hit, xJ1_go, xJ2_hit1, xJ2_hit2, xJ2_go, ↓xif_t, ↓xif_f, seval, ↓xca_eq, ↓xre_l, ↓xre_r, xmask_t, xmask_f, xmask_nil, ↓xst_eq, xX_eq, eI_eq, eMc_eq, eMs_eq, eF_eq, eThr_eq, ↓xS1_mk, ↓xSI_mk, ↓xSR_mk, ↓xLI_0, ↓xLI_s, ↓xLR_0, ↓xLR_s, vRef_ref, vRef_null, vRef_rf, cat_int, cat_ref, cat_null, cat_rf, rf_some, rf_none, rf_null, rf_eq, rf_ref, ref_rf, ref_null, ref_ref, xOk_0, xOk_1, xOk_2r, xOk_2n, xOk_2f, vOpt_rf, vOpt_ref, vOpt_null, List.set_cons_zero, List.set_cons_succ, List.take_succ_cons, List.take_zero, List.drop_succ_cons, List.drop_zero, List.reverse_cons, List.reverse_nil, List.nil_append, List.cons_append, List.append_nil, List.length_cons, List.length_nil, List.map_cons, List.map_nil, List.sum_cons, List.sum_nil, Option.toList_some, Option.toList_none, xRecv_mk, true_and, and_true, true_implies, Nat.reduceAdd, Nat.reduceLeDiff, Nat.zero_le, Nat.le_refl, Nat.add_zero, Nat.zero_add, reduceIte, not_true_eq_false, not_false_eq_true, false_implies, and_self, implies_true, eq_self, Nat.reduceEqDiff, List.cons.injEq, xsn_1, xsn_2, false_and, and_false, or_false, false_or, or_true, true_or, xsn_3, xsn_4, ↓spwJx4a65c_size_8abf5, spcJx4a65c_size_8abf5, ↓spwX4_seenAt, spcX4_seenAt, ↓spwX0_isDangerousBeside, spcX0_isDangerousBeside, f1, f2, f3, f5, p1, e0, hR, v1, v2, v3, ix_nI (show j < 1000 by omega), ix_nI (show j + n < 1000 by omega), ix_nI (show j + 1 < 1000 by omega), hs, hkb, e1, e2, e3, add_nI, nI1]
          try simp only [xif_e]
          repeat' (first | with_reducible apply And.intro | with_reducible intro _)
          all_goals grind
        · have hk1 : rDk S a lo more n j = false := by rw [hkk]; exact decide_eq_false c
          rw [hk1] at hstep
          simp only [↓callX4_isDangerous_0, ↓callX4_isDangerous_1, ↓callX4_isDangerous_2, ↓cg_5_4, ↓cg_5_5, cisa, ki_0, ki_1, ↓vm_aload, ↓vm_aload_n, ↓vm_astore, ↓vm_getfield, ↓vm_goto, ↓vm_iadd, ↓vm_iconst, ↓vm_ifCond_eq, ↓vm_ifCond_ne, ↓vm_if_icmp_ge, ↓vm_if_icmp_gt, ↓vm_ifnonnull, ↓vm_iinc, ↓vm_iload, ↓vm_iload_n, ↓vm_invokevirtual, ↓vm_irem, ↓vm_ireturn, ↓vm_istore, ↓vm_istore_n, ↓xc_1, ↓xc_2, ↓xc_4, ↓tbX4_isDangerous_0, ↓tbX4_isDangerous_1, ↓tbX4_isDangerous_4, ↓tbX4_isDangerous_5, ↓tbX4_isDangerous_8, ↓tbX4_isDangerous_9, ↓tbX4_isDangerous_10, ↓tbX4_isDangerous_11, ↓tbX4_isDangerous_12, ↓tbX4_isDangerous_13, ↓tbX4_isDangerous_14, ↓tbX4_isDangerous_17, ↓tbX4_isDangerous_20, ↓tbX4_isDangerous_23, ↓tbX4_isDangerous_24, ↓tbX4_isDangerous_25, ↓tbX4_isDangerous_26, ↓tbX4_isDangerous_27, ↓tbX4_isDangerous_30, ↓tbX4_isDangerous_32, ↓tbX4_isDangerous_34, ↓tbX4_isDangerous_37, ↓tbX4_isDangerous_40, ↓tbX4_isDangerous_41, ↓tbX4_isDangerous_42, ↓tbX4_isDangerous_43, ↓tbX4_isDangerous_44, ↓tbX4_isDangerous_47, ↓tbX4_isDangerous_48, ↓tbX4_isDangerous_51, ↓tbX4_isDangerous_52, ↓tbX4_isDangerous_55, ↓tbX4_isDangerous_56, ↓tbX4_isDangerous_58, ↓tbX4_isDangerous_60, ↓tbX4_isDangerous_61, ↓tbX4_isDangerous_62, ↓tbX4_isDangerous_63, ↓tbX4_isDangerous_66, ↓tbX4_isDangerous_67, ↓tbX4_isDangerous_68, ↓tbX4_isDangerous_69, ↓tbX4_isDangerous_72, ↓tbX4_isDangerous_75, ↓tbX4_isDangerous_78, ↓tbX4_isDangerous_80, ↓tbX4_isDangerous_83, ↓tbX4_isDangerous_85, ↓tbX4_isDangerous_86, ↓tbX4_isDangerous_87, ↓tbX4_isDangerous_88, ↓tbX4_isDangerous_89, ↓tbX4_isDangerous_90, ↓tbX4_isDangerous_91, ↓tbX4_isDangerous_94, ↓tbX4_isDangerous_97, ↓tbX4_isDangerous_100, ↓tbX4_isDangerous_101, ↓tbX4_isDangerous_102, ↓tbX4_isDangerous_105, ↓tbX4_isDangerous_108, ↓tbX4_isDangerous_109, hfu, xstep0, xJ1_hit, xJ1_go, xJ2_hit1, xJ2_hit2, xJ2_go, ↓xif_t, ↓xif_f, seval, ↓xca_eq, ↓xre_l, ↓xre_r, xmask_t, xmask_f, xmask_nil, ↓xst_eq, xX_eq, eI_eq, eMc_eq, eMs_eq, eF_eq, eThr_eq, ↓xS1_mk, ↓xSI_mk, ↓xSR_mk, ↓xLI_0, ↓xLI_s, ↓xLR_0, ↓xLR_s, vRef_ref, vRef_null, vRef_rf, cat_int, cat_ref, cat_null, cat_rf, rf_some, rf_none, rf_null, rf_eq, rf_ref, ref_rf, ref_null, ref_ref, xOk_0, xOk_1, xOk_2r, xOk_2n, xOk_2f, vOpt_rf, vOpt_ref, vOpt_null, List.set_cons_zero, List.set_cons_succ, List.take_succ_cons, List.take_zero, List.drop_succ_cons, List.drop_zero, List.reverse_cons, List.reverse_nil, List.nil_append, List.cons_append, List.append_nil, List.length_cons, List.length_nil, List.map_cons, List.map_nil, List.sum_cons, List.sum_nil, Option.toList_some, Option.toList_none, xRecv_mk, true_and, and_true, true_implies, Nat.reduceAdd, Nat.reduceLeDiff, Nat.zero_le, Nat.le_refl, Nat.add_zero, Nat.zero_add, reduceIte, not_true_eq_false, not_false_eq_true, false_implies, and_self, implies_true, eq_self, Nat.reduceEqDiff, List.cons.injEq, xsn_1, xsn_2, false_and, and_false, or_false, false_or, or_true, true_or, xsn_3, xsn_4, ↓spwJx4a65c_size_8abf5, spcJx4a65c_size_8abf5, ↓spwX4_seenAt, spcX4_seenAt, ↓spwX0_isDangerousBeside, spcX0_isDangerousBeside, f1, f2, f3, f5, p1, e0, hR, v1, v2, v3, ix_nI (show j < 1000 by omega), ix_nI (show j + n < 1000 by omega), ix_nI (show j + 1 < 1000 by omega), hs, hkb, e1, e2, e3, add_nI, nI1, hstep]
          try simp only [xif_e]
          repeat' (first | with_reducible apply And.intro | with_reducible intro _)
          all_goals grind) (by
      rintro lv st S2 cs ss ⟨rfl, rfl, rfl, rfl, rfl, hd⟩ fu hfu
      have e0 : (nI (rN S a) < nI (rN S a + 1)) = True := by rw [lt_nI (by omega) (by omega)]; simp
      rw [hd] at h
      simp only [↓callX4_isDangerous_0, ↓callX4_isDangerous_1, ↓callX4_isDangerous_2, ↓cg_5_4, ↓cg_5_5, cisa, ki_0, ki_1, ↓vm_aload, ↓vm_aload_n, ↓vm_astore, ↓vm_getfield, ↓vm_goto, ↓vm_iadd, ↓vm_iconst, ↓vm_ifCond_eq, ↓vm_ifCond_ne, ↓vm_if_icmp_ge, ↓vm_if_icmp_gt, ↓vm_ifnonnull, ↓vm_iinc, ↓vm_iload, ↓vm_iload_n, ↓vm_invokevirtual, ↓vm_irem, ↓vm_ireturn, ↓vm_istore, ↓vm_istore_n, ↓xc_1, ↓xc_2, ↓xc_4, ↓tbX4_isDangerous_0, ↓tbX4_isDangerous_1, ↓tbX4_isDangerous_4, ↓tbX4_isDangerous_5, ↓tbX4_isDangerous_8, ↓tbX4_isDangerous_9, ↓tbX4_isDangerous_10, ↓tbX4_isDangerous_11, ↓tbX4_isDangerous_12, ↓tbX4_isDangerous_13, ↓tbX4_isDangerous_14, ↓tbX4_isDangerous_17, ↓tbX4_isDangerous_20, ↓tbX4_isDangerous_23, ↓tbX4_isDangerous_24, ↓tbX4_isDangerous_25, ↓tbX4_isDangerous_26, ↓tbX4_isDangerous_27, ↓tbX4_isDangerous_30, ↓tbX4_isDangerous_32, ↓tbX4_isDangerous_34, ↓tbX4_isDangerous_37, ↓tbX4_isDangerous_40, ↓tbX4_isDangerous_41, ↓tbX4_isDangerous_42, ↓tbX4_isDangerous_43, ↓tbX4_isDangerous_44, ↓tbX4_isDangerous_47, ↓tbX4_isDangerous_48, ↓tbX4_isDangerous_51, ↓tbX4_isDangerous_52, ↓tbX4_isDangerous_55, ↓tbX4_isDangerous_56, ↓tbX4_isDangerous_58, ↓tbX4_isDangerous_60, ↓tbX4_isDangerous_61, ↓tbX4_isDangerous_62, ↓tbX4_isDangerous_63, ↓tbX4_isDangerous_66, ↓tbX4_isDangerous_67, ↓tbX4_isDangerous_68, ↓tbX4_isDangerous_69, ↓tbX4_isDangerous_72, ↓tbX4_isDangerous_75, ↓tbX4_isDangerous_78, ↓tbX4_isDangerous_80, ↓tbX4_isDangerous_83, ↓tbX4_isDangerous_85, ↓tbX4_isDangerous_86, ↓tbX4_isDangerous_87, ↓tbX4_isDangerous_88, ↓tbX4_isDangerous_89, ↓tbX4_isDangerous_90, ↓tbX4_isDangerous_91, ↓tbX4_isDangerous_94, ↓tbX4_isDangerous_97, ↓tbX4_isDangerous_100, ↓tbX4_isDangerous_101, ↓tbX4_isDangerous_102, ↓tbX4_isDangerous_105, ↓tbX4_isDangerous_108, ↓tbX4_isDangerous_109, hfu, xstep0, xJ1_hit, xJ1_go, xJ2_hit1, xJ2_hit2, xJ2_go, ↓xif_t, ↓xif_f, seval, ↓xca_eq, ↓xre_l, ↓xre_r, xmask_t, xmask_f, xmask_nil, ↓xst_eq, xX_eq, eI_eq, eMc_eq, eMs_eq, eF_eq, eThr_eq, ↓xS1_mk, ↓xSI_mk, ↓xSR_mk, ↓xLI_0, ↓xLI_s, ↓xLR_0, ↓xLR_s, vRef_ref, vRef_null, vRef_rf, cat_int, cat_ref, cat_null, cat_rf, rf_some, rf_none, rf_null, rf_eq, rf_ref, ref_rf, ref_null, ref_ref, xOk_0, xOk_1, xOk_2r, xOk_2n, xOk_2f, vOpt_rf, vOpt_ref, vOpt_null, List.set_cons_zero, List.set_cons_succ, List.take_succ_cons, List.take_zero, List.drop_succ_cons, List.drop_zero, List.reverse_cons, List.reverse_nil, List.nil_append, List.cons_append, List.append_nil, List.length_cons, List.length_nil, List.map_cons, List.map_nil, List.sum_cons, List.sum_nil, Option.toList_some, Option.toList_none, xRecv_mk, true_and, and_true, true_implies, Nat.reduceAdd, Nat.reduceLeDiff, Nat.zero_le, Nat.le_refl, Nat.add_zero, Nat.zero_add, reduceIte, not_true_eq_false, not_false_eq_true, false_implies, and_self, implies_true, eq_self, Nat.reduceEqDiff, List.cons.injEq, xsn_1, xsn_2, false_and, and_false, or_false, false_or, or_true, true_or, xsn_3, xsn_4, ↓spwJx4a65c_size_8abf5, spcJx4a65c_size_8abf5, ↓spwX4_seenAt, spcX4_seenAt, ↓spwX0_isDangerousBeside, spcX0_isDangerousBeside, f1, f2, f3, f5, e0]
      try simp only [xif_e]
      exact h)
  refine xgo hG (mb := [true, true, true, true, false, false]) (loop 0 (Nat.zero_le _)) (pc := 0) (fun fu hfu => ?_)
  simp only [↓callX4_isDangerous_0, ↓callX4_isDangerous_1, ↓callX4_isDangerous_2, ↓cg_5_4, ↓cg_5_5, cisa, ki_0, ki_1, ↓vm_aload, ↓vm_aload_n, ↓vm_astore, ↓vm_getfield, ↓vm_goto, ↓vm_iadd, ↓vm_iconst, ↓vm_ifCond_eq, ↓vm_ifCond_ne, ↓vm_if_icmp_ge, ↓vm_if_icmp_gt, ↓vm_ifnonnull, ↓vm_iinc, ↓vm_iload, ↓vm_iload_n, ↓vm_invokevirtual, ↓vm_irem, ↓vm_ireturn, ↓vm_istore, ↓vm_istore_n, ↓xc_1, ↓xc_2, ↓xc_4, ↓tbX4_isDangerous_0, ↓tbX4_isDangerous_1, ↓tbX4_isDangerous_4, ↓tbX4_isDangerous_5, ↓tbX4_isDangerous_8, ↓tbX4_isDangerous_9, ↓tbX4_isDangerous_10, ↓tbX4_isDangerous_11, ↓tbX4_isDangerous_12, ↓tbX4_isDangerous_13, ↓tbX4_isDangerous_14, ↓tbX4_isDangerous_17, ↓tbX4_isDangerous_20, ↓tbX4_isDangerous_23, ↓tbX4_isDangerous_24, ↓tbX4_isDangerous_25, ↓tbX4_isDangerous_26, ↓tbX4_isDangerous_27, ↓tbX4_isDangerous_30, ↓tbX4_isDangerous_32, ↓tbX4_isDangerous_34, ↓tbX4_isDangerous_37, ↓tbX4_isDangerous_40, ↓tbX4_isDangerous_41, ↓tbX4_isDangerous_42, ↓tbX4_isDangerous_43, ↓tbX4_isDangerous_44, ↓tbX4_isDangerous_47, ↓tbX4_isDangerous_48, ↓tbX4_isDangerous_51, ↓tbX4_isDangerous_52, ↓tbX4_isDangerous_55, ↓tbX4_isDangerous_56, ↓tbX4_isDangerous_58, ↓tbX4_isDangerous_60, ↓tbX4_isDangerous_61, ↓tbX4_isDangerous_62, ↓tbX4_isDangerous_63, ↓tbX4_isDangerous_66, ↓tbX4_isDangerous_67, ↓tbX4_isDangerous_68, ↓tbX4_isDangerous_69, ↓tbX4_isDangerous_72, ↓tbX4_isDangerous_75, ↓tbX4_isDangerous_78, ↓tbX4_isDangerous_80, ↓tbX4_isDangerous_83, ↓tbX4_isDangerous_85, ↓tbX4_isDangerous_86, ↓tbX4_isDangerous_87, ↓tbX4_isDangerous_88, ↓tbX4_isDangerous_89, ↓tbX4_isDangerous_90, ↓tbX4_isDangerous_91, ↓tbX4_isDangerous_94, ↓tbX4_isDangerous_97, ↓tbX4_isDangerous_100, ↓tbX4_isDangerous_101, ↓tbX4_isDangerous_102, ↓tbX4_isDangerous_105, ↓tbX4_isDangerous_108, ↓tbX4_isDangerous_109, hfu, xstep0, xJ1_hit, xJ1_go, xJ2_hit1, xJ2_hit2, xJ2_go, ↓xif_t, ↓xif_f, seval, ↓xca_eq, ↓xre_l, ↓xre_r, xmask_t, xmask_f, xmask_nil, ↓xst_eq, xX_eq, eI_eq, eMc_eq, eMs_eq, eF_eq, eThr_eq, ↓xS1_mk, ↓xSI_mk, ↓xSR_mk, ↓xLI_0, ↓xLI_s, ↓xLR_0, ↓xLR_s, vRef_ref, vRef_null, vRef_rf, cat_int, cat_ref, cat_null, cat_rf, rf_some, rf_none, rf_null, rf_eq, rf_ref, ref_rf, ref_null, ref_ref, xOk_0, xOk_1, xOk_2r, xOk_2n, xOk_2f, vOpt_rf, vOpt_ref, vOpt_null, List.set_cons_zero, List.set_cons_succ, List.take_succ_cons, List.take_zero, List.drop_succ_cons, List.drop_zero, List.reverse_cons, List.reverse_nil, List.nil_append, List.cons_append, List.append_nil, List.length_cons, List.length_nil, List.map_cons, List.map_nil, List.sum_cons, List.sum_nil, Option.toList_some, Option.toList_none, xRecv_mk, true_and, and_true, true_implies, Nat.reduceAdd, Nat.reduceLeDiff, Nat.zero_le, Nat.le_refl, Nat.add_zero, Nat.zero_add, reduceIte, not_true_eq_false, not_false_eq_true, false_implies, and_self, implies_true, eq_self, Nat.reduceEqDiff, List.cons.injEq, xsn_1, xsn_2, false_and, and_false, or_false, false_or, or_true, true_or, xsn_3, xsn_4, ↓spwJx4a65c_size_8abf5, spcJx4a65c_size_8abf5, ↓spwX4_seenAt, spcX4_seenAt, ↓spwX0_isDangerousBeside, spcX0_isDangerousBeside, f1, p1, eC]
  try simp only [xif_e]
  repeat' (first | rfl | apply And.intro)

def tbX0_isOutermostAt : List (Nat × xHint) := [(0, .aload_n 0, 0, 0, 0, []), (1, .iload_n 1, 1, 0, 0, []), (2, .invokevirtual 34, 0, 2, 1, []), (5, .ifCond .eq 18, 23, 0, 0, []), (8, .aload_n 0, 0, 0, 0, []), (9, .getfield 21, 1, 2, 2, []), (12, .aload_n 0, 0, 0, 0, []), (13, .invokevirtual 38, 1, 2, 5, []), (16, .ifCond .ne 7, 23, 0, 0, []), (19, .iconst 1, 0, 0, 0, []), (20, .goto 4, 24, 0, 0, []), (23, .iconst 0, 0, 0, 0, []), (24, .ireturn, 1, 0, 0, [])]
def clX0_isOutermostAt : List (Instr × Nat × Nat × Nat) := [(.invokevirtual 34, 0, 2, 1), (.invokevirtual 38, 1, 2, 5)]
def thX0_isOutermostAt : List (Nat × Nat) := []
theorem ckX0_isOutermostAt : tbX0_isOutermostAt.all (xRow RX0 cX0_isOutermostAt wsX0_isOutermostAt vwCl [1] clX0_isOutermostAt thX0_isOutermostAt 2 (yX0_isOutermostAt.name == "<init>") (some .boolean)) = true := xRow_q 0xac030400a70407009a2600b62a1500b42a1200992200b61b2a 25 (by decide +kernel) (by decide +kernel)
theorem usX0_isOutermostAt : xUse wsX0_isOutermostAt vwCl [1] = true := xUse_g rfl (lw_good lwl_X0_isOutermostAt lwl_X00 (by decide +kernel)) xUse_n
theorem tbX0_isOutermostAt_0 {k : Instr → Nat → Nat → Nat → List Nat → Prop} : xse (xFind tbX0_isOutermostAt 0) k = k (.aload_n 0) 0 0 0 [] := rfl
theorem tbX0_isOutermostAt_1 {k : Instr → Nat → Nat → Nat → List Nat → Prop} : xse (xFind tbX0_isOutermostAt 1) k = k (.iload_n 1) 1 0 0 [] := rfl
theorem tbX0_isOutermostAt_2 {k : Instr → Nat → Nat → Nat → List Nat → Prop} : xse (xFind tbX0_isOutermostAt 2) k = k (.invokevirtual 34) 0 2 1 [] := rfl
theorem tbX0_isOutermostAt_5 {k : Instr → Nat → Nat → Nat → List Nat → Prop} : xse (xFind tbX0_isOutermostAt 5) k = k (.ifCond .eq 18) 23 0 0 [] := rfl
theorem tbX0_isOutermostAt_8 {k : Instr → Nat → Nat → Nat → List Nat → Prop} : xse (xFind tbX0_isOutermostAt 8) k = k (.aload_n 0) 0 0 0 [] := rfl
theorem tbX0_isOutermostAt_9 {k : Instr → Nat → Nat → Nat → List Nat → Prop} : xse (xFind tbX0_isOutermostAt 9) k = k (.getfield 21) 1 2 2 [] := rfl
theorem tbX0_isOutermostAt_12 {k : Instr → Nat → Nat → Nat → List Nat → Prop} : xse (xFind tbX0_isOutermostAt 12) k = k (.aload_n 0) 0 0 0 [] := rfl
theorem tbX0_isOutermostAt_13 {k : Instr → Nat → Nat → Nat → List Nat → Prop} : xse (xFind tbX0_isOutermostAt 13) k = k (.invokevirtual 38) 1 2 5 [] := rfl
theorem tbX0_isOutermostAt_16 {k : Instr → Nat → Nat → Nat → List Nat → Prop} : xse (xFind tbX0_isOutermostAt 16) k = k (.ifCond .ne 7) 23 0 0 [] := rfl
theorem tbX0_isOutermostAt_19 {k : Instr → Nat → Nat → Nat → List Nat → Prop} : xse (xFind tbX0_isOutermostAt 19) k = k (.iconst 1) 0 0 0 [] := rfl
theorem tbX0_isOutermostAt_20 {k : Instr → Nat → Nat → Nat → List Nat → Prop} : xse (xFind tbX0_isOutermostAt 20) k = k (.goto 4) 24 0 0 [] := rfl
theorem tbX0_isOutermostAt_23 {k : Instr → Nat → Nat → Nat → List Nat → Prop} : xse (xFind tbX0_isOutermostAt 23) k = k (.iconst 0) 0 0 0 [] := rfl
theorem tbX0_isOutermostAt_24 {k : Instr → Nat → Nat → Nat → List Nat → Prop} : xse (xFind tbX0_isOutermostAt 24) k = k (.ireturn) 1 0 0 [] := rfl

def spX0_isOutermostAt (W9 : xWd) : xSp cS := (fun av S => (0, 0), fun av S K => ∃ (a : Nat) (p : Int32), av = [.ref a, .int p] ∧ (cK S a = 2 ∧ cIn S a 102 6 ∧ rOk S (cRf S a 102) ∧ rHas S (cRf S a 102) a ∧ K (rI (bi ((cFi S (cRf S a 102) 500 = -1 ∧ cFi S (cRf S a 102) 501 = p) ∧ rBh S (cRf S a 102) a 0 = 0))) S))
theorem spcX0_isOutermostAt {av : List Value} {S : cS} {W9 : xWd} : (spX0_isOutermostAt W9).1 av S = (0, 0) := rfl
theorem spwX0_isOutermostAt {S : cS} {W9 : xWd} {K : xRes → cS → Prop} {a : Nat} {p : Int32} : (spX0_isOutermostAt W9).2 [.ref a, .int p] S K = (cK S a = 2 ∧ cIn S a 102 6 ∧ rOk S (cRf S a 102) ∧ rHas S (cRf S a 102) a ∧ K (rI (bi ((cFi S (cRf S a 102) 500 = -1 ∧ cFi S (cRf S a 102) 501 = p) ∧ rBh S (cRf S a 102) a 0 = 0))) S) :=
  propext ⟨fun h => by
    simp only [spX0_isOutermostAt] at h
    obtain ⟨_, _, e, h⟩ := h
    simp only [List.cons.injEq, Value.int.injEq, Value.ref.injEq, rf_eq, and_true, true_and] at e
    obtain ⟨rfl, rfl⟩ := e
    exact h, fun h => ⟨_, _, rfl, h⟩⟩

def callX0_isOutermostAt (W9 : xWd) : Nat → Option (xSp cS) := fun n => match n with | 0 => some (spX0_isTiedAt W9) | 1 => some (spX4_behind W9) | _ => none

theorem callX0_isOutermostAt_0 {W9 : xWd} {k : xSp cS → Prop} : xcs (callX0_isOutermostAt W9 0) k = k (spX0_isTiedAt W9) := rfl

theorem callX0_isOutermostAt_1 {W9 : xWd} {k : xSp cS → Prop} : xcs (callX0_isOutermostAt W9 1) k = k (spX4_behind W9) := rfl

theorem crX0_isOutermostAt (l : Launch) (hl : l.stackTraces = false) (W9 : xWd) : xCallsOK l W9 (cI) (callX0_isOutermostAt W9) clX0_isOutermostAt RX0 wsX0_isOutermostAt 6 131 2 := by
  intro E A p e R s m args below meth c hI hF hL X
  exact List.forall_mem_cons.mpr ⟨⟨_, rfl, xCR_V X (by rw [hI]; exact (semX0_isTiedAt l hl W9)) gX0_isOutermostAt_X0_isTiedAt rfl rfl (by decide +kernel) (by rw [hF, hL]; decide)⟩,
    List.forall_mem_cons.mpr ⟨⟨_, rfl, xCR_V X (by rw [hI]; exact (semX4_behind l hl W9)) gX0_isOutermostAt_X4_behind rfl rfl (by decide +kernel) (by rw [hF, hL]; decide)⟩,
    fun _ h => nomatch h⟩⟩

set_option maxHeartbeats 4000000 in
set_option maxRecDepth 20000 in
theorem semX0_isOutermostAt (l : Launch) (hl : l.stackTraces = false) (W9 : xWd) : xSem l W9 (cI) yX0_isOutermostAt wsX0_isOutermostAt 6 131 (spX0_isOutermostAt W9) := by
  refine xSem_of (call := callX0_isOutermostAt W9) (thrf := fun _ => "") cI_law (by decide +kernel) rfl ckX0_isOutermostAt usX0_isOutermostAt (crX0_isOutermostAt l hl W9) xThrOK_nil ?_ ?_
  · intro av S KF h
    obtain ⟨a, p, rfl, h⟩ := h
    exact ⟨by intro v hv; simp only [List.mem_cons, List.not_mem_nil, or_false] at hv; rcases hv with rfl | rfl <;> first | rfl | exact cat_rf, Nat.le_of_ble_eq_true rfl⟩
  intro av S KF h G hG
  obtain ⟨a, p, rfl, h⟩ := h
  rw [show (spX0_isOutermostAt W9).1 _ S = _ from spcX0_isOutermostAt] at hG
  try dsimp only at hG
  change G 0 [some (.ref a), some (.int p)] [] S 0 0
  obtain ⟨h0, h1, h2, h3, h⟩ := h
  obtain ⟨h11, h12⟩ := h1
  have h1 : cIn S a 102 6 := ⟨h11, h12⟩
  refine xgo0 hG (fun fu hfu => ?_)
  clear hG
  simp only [↓callX0_isOutermostAt_0, ↓callX0_isOutermostAt_1, ↓cg_1_2, cisa, ki_0, ki_1, ↓vm_aload_n, ↓vm_getfield, ↓vm_goto, ↓vm_iconst, ↓vm_ifCond_eq, ↓vm_ifCond_ne, ↓vm_iload_n, ↓vm_invokevirtual, ↓vm_ireturn, ↓xc_2, ↓tbX0_isOutermostAt_0, ↓tbX0_isOutermostAt_1, ↓tbX0_isOutermostAt_2, ↓tbX0_isOutermostAt_5, ↓tbX0_isOutermostAt_8, ↓tbX0_isOutermostAt_9, ↓tbX0_isOutermostAt_12, ↓tbX0_isOutermostAt_13, ↓tbX0_isOutermostAt_16, ↓tbX0_isOutermostAt_19, ↓tbX0_isOutermostAt_20, ↓tbX0_isOutermostAt_23, ↓tbX0_isOutermostAt_24, hfu, xstep0, xJ1_hit, xJ1_go, xJ2_hit1, xJ2_hit2, xJ2_go, ↓xif_t, ↓xif_f, seval, ↓xca_eq, ↓xre_l, ↓xre_r, xmask_t, xmask_f, xmask_nil, ↓xst_eq, xX_eq, eI_eq, eMc_eq, eMs_eq, eF_eq, eThr_eq, ↓xS1_mk, ↓xSI_mk, ↓xSR_mk, ↓xLI_0, ↓xLI_s, ↓xLR_0, ↓xLR_s, vRef_ref, vRef_null, vRef_rf, cat_int, cat_ref, cat_null, cat_rf, rf_some, rf_none, rf_null, rf_eq, rf_ref, ref_rf, ref_null, ref_ref, xOk_0, xOk_1, xOk_2r, xOk_2n, xOk_2f, vOpt_rf, vOpt_ref, vOpt_null, List.set_cons_zero, List.set_cons_succ, List.take_succ_cons, List.take_zero, List.drop_succ_cons, List.drop_zero, List.reverse_cons, List.reverse_nil, List.nil_append, List.cons_append, List.append_nil, List.length_cons, List.length_nil, List.map_cons, List.map_nil, List.sum_cons, List.sum_nil, Option.toList_some, Option.toList_none, xRecv_mk, true_and, and_true, true_implies, Nat.reduceAdd, Nat.reduceLeDiff, Nat.zero_le, Nat.le_refl, Nat.add_zero, Nat.zero_add, reduceIte, not_true_eq_false, not_false_eq_true, false_implies, and_self, implies_true, eq_self, Nat.reduceEqDiff, List.cons.injEq, xsn_1, xsn_2, false_and, and_false, or_false, false_or, or_true, true_or, xsn_3, xsn_4, h0, h1, h11, h12, h2, h3, bi_0, ↓spwX0_isTiedAt, spcX0_isTiedAt, ↓spwX4_behind, spcX4_behind]
  try simp only [xif_e]
  grind [bi]

def tbX1_isUnderWay : List (Nat × xHint) := [(0, .aload_n 0, 0, 0, 0, []), (1, .getfield 15, 2, 7, 0, []), (4, .iconst (-1), 0, 0, 0, []), (5, .if_icmp .eq 7, 12, 0, 0, []), (8, .iconst 1, 0, 0, 0, []), (9, .goto 4, 13, 0, 0, []), (12, .iconst 0, 0, 0, 0, []), (13, .ireturn, 1, 0, 0, [])]
def clX1_isUnderWay : List (Instr × Nat × Nat × Nat) := []
def thX1_isUnderWay : List (Nat × Nat) := []
theorem ckX1_isUnderWay : tbX1_isUnderWay.all (xRow RX1 cX1_isUnderWay wsX1_isUnderWay vwCl [2] clX1_isUnderWay thX1_isUnderWay 1 (yX1_isUnderWay.name == "<init>") (some .boolean)) = true := xRow_q 0xac030400a70407009f020f00b42a 14 (by decide +kernel) (by decide +kernel)
theorem usX1_isUnderWay : xUse wsX1_isUnderWay vwCl [2] = true := xUse_g rfl (lw_good lwl_X1_isUnderWay lwl_X10 (by decide +kernel)) xUse_n
theorem tbX1_isUnderWay_0 {k : Instr → Nat → Nat → Nat → List Nat → Prop} : xse (xFind tbX1_isUnderWay 0) k = k (.aload_n 0) 0 0 0 [] := rfl
theorem tbX1_isUnderWay_1 {k : Instr → Nat → Nat → Nat → List Nat → Prop} : xse (xFind tbX1_isUnderWay 1) k = k (.getfield 15) 2 7 0 [] := rfl
theorem tbX1_isUnderWay_4 {k : Instr → Nat → Nat → Nat → List Nat → Prop} : xse (xFind tbX1_isUnderWay 4) k = k (.iconst (-1)) 0 0 0 [] := rfl
theorem tbX1_isUnderWay_5 {k : Instr → Nat → Nat → Nat → List Nat → Prop} : xse (xFind tbX1_isUnderWay 5) k = k (.if_icmp .eq 7) 12 0 0 [] := rfl
theorem tbX1_isUnderWay_8 {k : Instr → Nat → Nat → Nat → List Nat → Prop} : xse (xFind tbX1_isUnderWay 8) k = k (.iconst 1) 0 0 0 [] := rfl
theorem tbX1_isUnderWay_9 {k : Instr → Nat → Nat → Nat → List Nat → Prop} : xse (xFind tbX1_isUnderWay 9) k = k (.goto 4) 13 0 0 [] := rfl
theorem tbX1_isUnderWay_12 {k : Instr → Nat → Nat → Nat → List Nat → Prop} : xse (xFind tbX1_isUnderWay 12) k = k (.iconst 0) 0 0 0 [] := rfl
theorem tbX1_isUnderWay_13 {k : Instr → Nat → Nat → Nat → List Nat → Prop} : xse (xFind tbX1_isUnderWay 13) k = k (.ireturn) 1 0 0 [] := rfl

def spX1_isUnderWay (W9 : xWd) : xSp cS := (fun av S => (0, 0), fun av S K => ∃ (a : Nat), av = [.ref a] ∧ (cK S a = 3 ∧ K (rI (bi (¬ cFi S a 207 = -1))) S))
theorem spcX1_isUnderWay {av : List Value} {S : cS} {W9 : xWd} : (spX1_isUnderWay W9).1 av S = (0, 0) := rfl
theorem spwX1_isUnderWay {S : cS} {W9 : xWd} {K : xRes → cS → Prop} {a : Nat} : (spX1_isUnderWay W9).2 [.ref a] S K = (cK S a = 3 ∧ K (rI (bi (¬ cFi S a 207 = -1))) S) :=
  propext ⟨fun h => by
    simp only [spX1_isUnderWay] at h
    obtain ⟨_, e, h⟩ := h
    simp only [List.cons.injEq, Value.int.injEq, Value.ref.injEq, rf_eq, and_true, true_and] at e
    obtain rfl := e
    exact h, fun h => ⟨_, rfl, h⟩⟩

set_option maxHeartbeats 4000000 in
set_option maxRecDepth 20000 in
theorem semX1_isUnderWay (l : Launch) (hl : l.stackTraces = false) (W9 : xWd) : xSem l W9 (cI) yX1_isUnderWay wsX1_isUnderWay 0 0 (spX1_isUnderWay W9) := by
  refine xSem_of (call := fun _ => none) (thrf := fun _ => "") cI_law (by decide +kernel) rfl ckX1_isUnderWay usX1_isUnderWay xCallsOK_nil xThrOK_nil ?_ ?_
  · intro av S KF h
    obtain ⟨a, rfl, h⟩ := h
    exact ⟨by intro v hv; simp only [List.mem_cons, List.not_mem_nil, or_false] at hv; rcases hv with rfl <;> first | rfl | exact cat_rf, Nat.le_of_ble_eq_true rfl⟩
  intro av S KF h G hG
  obtain ⟨a, rfl, h⟩ := h
  rw [show (spX1_isUnderWay W9).1 _ S = _ from spcX1_isUnderWay] at hG
  try dsimp only at hG
  change G 0 [some (.ref a)] [] S 0 0
  obtain ⟨h0, h⟩ := h
  refine xgo0 hG (fun fu hfu => ?_)
  clear hG
  simp only [↓cg_2_7, ki_0, ki_1, ki_m1, ↓vm_aload_n, ↓vm_getfield, ↓vm_goto, ↓vm_iconst, ↓vm_if_icmp_eq, ↓vm_ireturn, ↓tbX1_isUnderWay_0, ↓tbX1_isUnderWay_1, ↓tbX1_isUnderWay_4, ↓tbX1_isUnderWay_5, ↓tbX1_isUnderWay_8, ↓tbX1_isUnderWay_9, ↓tbX1_isUnderWay_12, ↓tbX1_isUnderWay_13, hfu, xstep0, xJ1_hit, xJ1_go, xJ2_hit1, xJ2_hit2, xJ2_go, ↓xif_t, ↓xif_f, seval, ↓xca_eq, ↓xre_l, ↓xre_r, xmask_t, xmask_f, xmask_nil, ↓xst_eq, xX_eq, eI_eq, eMc_eq, eMs_eq, eF_eq, eThr_eq, ↓xS1_mk, ↓xSI_mk, ↓xSR_mk, ↓xLI_0, ↓xLI_s, ↓xLR_0, ↓xLR_s, vRef_ref, vRef_null, vRef_rf, cat_int, cat_ref, cat_null, cat_rf, rf_some, rf_none, rf_null, rf_eq, rf_ref, ref_rf, ref_null, ref_ref, xOk_0, xOk_1, xOk_2r, xOk_2n, xOk_2f, vOpt_rf, vOpt_ref, vOpt_null, List.set_cons_zero, List.set_cons_succ, List.take_succ_cons, List.take_zero, List.drop_succ_cons, List.drop_zero, List.reverse_cons, List.reverse_nil, List.nil_append, List.cons_append, List.append_nil, List.length_cons, List.length_nil, List.map_cons, List.map_nil, List.sum_cons, List.sum_nil, Option.toList_some, Option.toList_none, xRecv_mk, true_and, and_true, true_implies, Nat.reduceAdd, Nat.reduceLeDiff, Nat.zero_le, Nat.le_refl, Nat.add_zero, Nat.zero_add, reduceIte, not_true_eq_false, not_false_eq_true, false_implies, and_self, implies_true, eq_self, Nat.reduceEqDiff, List.cons.injEq, xsn_1, xsn_2, false_and, and_false, or_false, false_or, or_true, true_or, xsn_3, xsn_4, h0]
  try simp only [xif_e]
  grind [bi]

def tbX1_isBoundUp : List (Nat × xHint) := [(0, .aload_n 0, 0, 0, 0, []), (1, .getfield 18, 2, 10, 0, []), (4, .aload_n 0, 0, 0, 0, []), (5, .getfield 9, 2, 6, 0, []), (8, .if_icmp .le 7, 15, 0, 0, []), (11, .iconst 1, 0, 0, 0, []), (12, .goto 4, 16, 0, 0, []), (15, .iconst 0, 0, 0, 0, []), (16, .ireturn, 1, 0, 0, [])]
def clX1_isBoundUp : List (Instr × Nat × Nat × Nat) := []
def thX1_isBoundUp : List (Nat × Nat) := []
theorem ckX1_isBoundUp : tbX1_isBoundUp.all (xRow RX1 cX1_isBoundUp wsX1_isBoundUp vwCl [2] clX1_isBoundUp thX1_isBoundUp 1 (yX1_isBoundUp.name == "<init>") (some .boolean)) = true := xRow_q 0xac030400a7040700a40900b42a1200b42a 17 (by decide +kernel) (by decide +kernel)
theorem usX1_isBoundUp : xUse wsX1_isBoundUp vwCl [2] = true := xUse_g rfl (lw_good lwl_X1_isBoundUp lwl_X10 (by decide +kernel)) xUse_n
theorem tbX1_isBoundUp_0 {k : Instr → Nat → Nat → Nat → List Nat → Prop} : xse (xFind tbX1_isBoundUp 0) k = k (.aload_n 0) 0 0 0 [] := rfl
theorem tbX1_isBoundUp_1 {k : Instr → Nat → Nat → Nat → List Nat → Prop} : xse (xFind tbX1_isBoundUp 1) k = k (.getfield 18) 2 10 0 [] := rfl
theorem tbX1_isBoundUp_4 {k : Instr → Nat → Nat → Nat → List Nat → Prop} : xse (xFind tbX1_isBoundUp 4) k = k (.aload_n 0) 0 0 0 [] := rfl
theorem tbX1_isBoundUp_5 {k : Instr → Nat → Nat → Nat → List Nat → Prop} : xse (xFind tbX1_isBoundUp 5) k = k (.getfield 9) 2 6 0 [] := rfl
theorem tbX1_isBoundUp_8 {k : Instr → Nat → Nat → Nat → List Nat → Prop} : xse (xFind tbX1_isBoundUp 8) k = k (.if_icmp .le 7) 15 0 0 [] := rfl
theorem tbX1_isBoundUp_11 {k : Instr → Nat → Nat → Nat → List Nat → Prop} : xse (xFind tbX1_isBoundUp 11) k = k (.iconst 1) 0 0 0 [] := rfl
theorem tbX1_isBoundUp_12 {k : Instr → Nat → Nat → Nat → List Nat → Prop} : xse (xFind tbX1_isBoundUp 12) k = k (.goto 4) 16 0 0 [] := rfl
theorem tbX1_isBoundUp_15 {k : Instr → Nat → Nat → Nat → List Nat → Prop} : xse (xFind tbX1_isBoundUp 15) k = k (.iconst 0) 0 0 0 [] := rfl
theorem tbX1_isBoundUp_16 {k : Instr → Nat → Nat → Nat → List Nat → Prop} : xse (xFind tbX1_isBoundUp 16) k = k (.ireturn) 1 0 0 [] := rfl

def spX1_isBoundUp (W9 : xWd) : xSp cS := (fun av S => (0, 0), fun av S K => ∃ (a : Nat), av = [.ref a] ∧ (cK S a = 3 ∧ K (rI (bi (cFi S a 206 < cFi S a 210))) S))
theorem spcX1_isBoundUp {av : List Value} {S : cS} {W9 : xWd} : (spX1_isBoundUp W9).1 av S = (0, 0) := rfl
theorem spwX1_isBoundUp {S : cS} {W9 : xWd} {K : xRes → cS → Prop} {a : Nat} : (spX1_isBoundUp W9).2 [.ref a] S K = (cK S a = 3 ∧ K (rI (bi (cFi S a 206 < cFi S a 210))) S) :=
  propext ⟨fun h => by
    simp only [spX1_isBoundUp] at h
    obtain ⟨_, e, h⟩ := h
    simp only [List.cons.injEq, Value.int.injEq, Value.ref.injEq, rf_eq, and_true, true_and] at e
    obtain rfl := e
    exact h, fun h => ⟨_, rfl, h⟩⟩

set_option maxHeartbeats 4000000 in
set_option maxRecDepth 20000 in
theorem semX1_isBoundUp (l : Launch) (hl : l.stackTraces = false) (W9 : xWd) : xSem l W9 (cI) yX1_isBoundUp wsX1_isBoundUp 0 0 (spX1_isBoundUp W9) := by
  refine xSem_of (call := fun _ => none) (thrf := fun _ => "") cI_law (by decide +kernel) rfl ckX1_isBoundUp usX1_isBoundUp xCallsOK_nil xThrOK_nil ?_ ?_
  · intro av S KF h
    obtain ⟨a, rfl, h⟩ := h
    exact ⟨by intro v hv; simp only [List.mem_cons, List.not_mem_nil, or_false] at hv; rcases hv with rfl <;> first | rfl | exact cat_rf, Nat.le_of_ble_eq_true rfl⟩
  intro av S KF h G hG
  obtain ⟨a, rfl, h⟩ := h
  rw [show (spX1_isBoundUp W9).1 _ S = _ from spcX1_isBoundUp] at hG
  try dsimp only at hG
  change G 0 [some (.ref a)] [] S 0 0
  obtain ⟨h0, h⟩ := h
  refine xgo0 hG (fun fu hfu => ?_)
  clear hG
  simp only [↓cg_2_10, ↓cg_2_6, ki_0, ki_1, ↓vm_aload_n, ↓vm_getfield, ↓vm_goto, ↓vm_iconst, ↓vm_if_icmp_le, ↓vm_ireturn, ↓tbX1_isBoundUp_0, ↓tbX1_isBoundUp_1, ↓tbX1_isBoundUp_4, ↓tbX1_isBoundUp_5, ↓tbX1_isBoundUp_8, ↓tbX1_isBoundUp_11, ↓tbX1_isBoundUp_12, ↓tbX1_isBoundUp_15, ↓tbX1_isBoundUp_16, hfu, xstep0, xJ1_hit, xJ1_go, xJ2_hit1, xJ2_hit2, xJ2_go, ↓xif_t, ↓xif_f, seval, ↓xca_eq, ↓xre_l, ↓xre_r, xmask_t, xmask_f, xmask_nil, ↓xst_eq, xX_eq, eI_eq, eMc_eq, eMs_eq, eF_eq, eThr_eq, ↓xS1_mk, ↓xSI_mk, ↓xSR_mk, ↓xLI_0, ↓xLI_s, ↓xLR_0, ↓xLR_s, vRef_ref, vRef_null, vRef_rf, cat_int, cat_ref, cat_null, cat_rf, rf_some, rf_none, rf_null, rf_eq, rf_ref, ref_rf, ref_null, ref_ref, xOk_0, xOk_1, xOk_2r, xOk_2n, xOk_2f, vOpt_rf, vOpt_ref, vOpt_null, List.set_cons_zero, List.set_cons_succ, List.take_succ_cons, List.take_zero, List.drop_succ_cons, List.drop_zero, List.reverse_cons, List.reverse_nil, List.nil_append, List.cons_append, List.append_nil, List.length_cons, List.length_nil, List.map_cons, List.map_nil, List.sum_cons, List.sum_nil, Option.toList_some, Option.toList_none, xRecv_mk, true_and, and_true, true_implies, Nat.reduceAdd, Nat.reduceLeDiff, Nat.zero_le, Nat.le_refl, Nat.add_zero, Nat.zero_add, reduceIte, not_true_eq_false, not_false_eq_true, false_implies, and_self, implies_true, eq_self, Nat.reduceEqDiff, List.cons.injEq, xsn_1, xsn_2, false_and, and_false, or_false, false_or, or_true, true_or, xsn_3, xsn_4, h0]
  try simp only [xif_e]
  grind [bi]

def tbX1_pointAhead : List (Nat × xHint) := [(0, .aload_n 0, 0, 0, 0, []), (1, .getfield 43, 2, 8, 1, []), (4, .ifCond .eq 12, 16, 0, 0, []), (7, .aload_n 0, 0, 0, 0, []), (8, .getfield 15, 2, 7, 0, []), (11, .iconst 1, 0, 0, 0, []), (12, .iadd, 0, 0, 0, []), (13, .goto 7, 20, 0, 0, []), (16, .aload_n 0, 0, 0, 0, []), (17, .getfield 15, 2, 7, 0, []), (20, .ireturn, 0, 0, 0, [])]
def clX1_pointAhead : List (Instr × Nat × Nat × Nat) := []
def thX1_pointAhead : List (Nat × Nat) := []
theorem ckX1_pointAhead : tbX1_pointAhead.all (xRow RX1 cX1_pointAhead wsX1_pointAhead vwCl [2] clX1_pointAhead thX1_pointAhead 1 (yX1_pointAhead.name == "<init>") (some .int)) = true := xRow_q 0xac0f00b42a0700a760040f00b42a0c00992b00b42a 21 (by decide +kernel) (by decide +kernel)
theorem usX1_pointAhead : xUse wsX1_pointAhead vwCl [2] = true := xUse_g rfl (lw_good lwl_X1_pointAhead lwl_X10 (by decide +kernel)) xUse_n
theorem tbX1_pointAhead_0 {k : Instr → Nat → Nat → Nat → List Nat → Prop} : xse (xFind tbX1_pointAhead 0) k = k (.aload_n 0) 0 0 0 [] := rfl
theorem tbX1_pointAhead_1 {k : Instr → Nat → Nat → Nat → List Nat → Prop} : xse (xFind tbX1_pointAhead 1) k = k (.getfield 43) 2 8 1 [] := rfl
theorem tbX1_pointAhead_4 {k : Instr → Nat → Nat → Nat → List Nat → Prop} : xse (xFind tbX1_pointAhead 4) k = k (.ifCond .eq 12) 16 0 0 [] := rfl
theorem tbX1_pointAhead_7 {k : Instr → Nat → Nat → Nat → List Nat → Prop} : xse (xFind tbX1_pointAhead 7) k = k (.aload_n 0) 0 0 0 [] := rfl
theorem tbX1_pointAhead_8 {k : Instr → Nat → Nat → Nat → List Nat → Prop} : xse (xFind tbX1_pointAhead 8) k = k (.getfield 15) 2 7 0 [] := rfl
theorem tbX1_pointAhead_11 {k : Instr → Nat → Nat → Nat → List Nat → Prop} : xse (xFind tbX1_pointAhead 11) k = k (.iconst 1) 0 0 0 [] := rfl
theorem tbX1_pointAhead_12 {k : Instr → Nat → Nat → Nat → List Nat → Prop} : xse (xFind tbX1_pointAhead 12) k = k (.iadd) 0 0 0 [] := rfl
theorem tbX1_pointAhead_13 {k : Instr → Nat → Nat → Nat → List Nat → Prop} : xse (xFind tbX1_pointAhead 13) k = k (.goto 7) 20 0 0 [] := rfl
theorem tbX1_pointAhead_16 {k : Instr → Nat → Nat → Nat → List Nat → Prop} : xse (xFind tbX1_pointAhead 16) k = k (.aload_n 0) 0 0 0 [] := rfl
theorem tbX1_pointAhead_17 {k : Instr → Nat → Nat → Nat → List Nat → Prop} : xse (xFind tbX1_pointAhead 17) k = k (.getfield 15) 2 7 0 [] := rfl
theorem tbX1_pointAhead_20 {k : Instr → Nat → Nat → Nat → List Nat → Prop} : xse (xFind tbX1_pointAhead 20) k = k (.ireturn) 0 0 0 [] := rfl

def spX1_pointAhead (W9 : xWd) : xSp cS := (fun av S => (0, 0), fun av S K => ∃ (a : Nat), av = [.ref a] ∧ (cK S a = 3 ∧ K (rI (if cFi S a 208 = 0 then cFi S a 207 else cFi S a 207 + 1)) S))
theorem spcX1_pointAhead {av : List Value} {S : cS} {W9 : xWd} : (spX1_pointAhead W9).1 av S = (0, 0) := rfl
theorem spwX1_pointAhead {S : cS} {W9 : xWd} {K : xRes → cS → Prop} {a : Nat} : (spX1_pointAhead W9).2 [.ref a] S K = (cK S a = 3 ∧ K (rI (if cFi S a 208 = 0 then cFi S a 207 else cFi S a 207 + 1)) S) :=
  propext ⟨fun h => by
    simp only [spX1_pointAhead] at h
    obtain ⟨_, e, h⟩ := h
    simp only [List.cons.injEq, Value.int.injEq, Value.ref.injEq, rf_eq, and_true, true_and] at e
    obtain rfl := e
    exact h, fun h => ⟨_, rfl, h⟩⟩

set_option maxHeartbeats 4000000 in
set_option maxRecDepth 20000 in
theorem semX1_pointAhead (l : Launch) (hl : l.stackTraces = false) (W9 : xWd) : xSem l W9 (cI) yX1_pointAhead wsX1_pointAhead 0 0 (spX1_pointAhead W9) := by
  refine xSem_of (call := fun _ => none) (thrf := fun _ => "") cI_law (by decide +kernel) rfl ckX1_pointAhead usX1_pointAhead xCallsOK_nil xThrOK_nil ?_ ?_
  · intro av S KF h
    obtain ⟨a, rfl, h⟩ := h
    exact ⟨by intro v hv; simp only [List.mem_cons, List.not_mem_nil, or_false] at hv; rcases hv with rfl <;> first | rfl | exact cat_rf, Nat.le_of_ble_eq_true rfl⟩
  intro av S KF h G hG
  obtain ⟨a, rfl, h⟩ := h
  rw [show (spX1_pointAhead W9).1 _ S = _ from spcX1_pointAhead] at hG
  try dsimp only at hG
  change G 0 [some (.ref a)] [] S 0 0
  obtain ⟨h0, h⟩ := h
  refine xgo0 hG (fun fu hfu => ?_)
  clear hG
  simp only [↓cg_2_7, ↓cg_2_8, ki_1, ↓vm_aload_n, ↓vm_getfield, ↓vm_goto, ↓vm_iadd, ↓vm_iconst, ↓vm_ifCond_eq, ↓vm_ireturn, ↓tbX1_pointAhead_0, ↓tbX1_pointAhead_1, ↓tbX1_pointAhead_4, ↓tbX1_pointAhead_7, ↓tbX1_pointAhead_8, ↓tbX1_pointAhead_11, ↓tbX1_pointAhead_12, ↓tbX1_pointAhead_13, ↓tbX1_pointAhead_16, ↓tbX1_pointAhead_17, ↓tbX1_pointAhead_20, hfu, xstep0, xJ1_hit, xJ1_go, xJ2_hit1, xJ2_hit2, xJ2_go, ↓xif_t, ↓xif_f, seval, ↓xca_eq, ↓xre_l, ↓xre_r, xmask_t, xmask_f, xmask_nil, ↓xst_eq, xX_eq, eI_eq, eMc_eq, eMs_eq, eF_eq, eThr_eq, ↓xS1_mk, ↓xSI_mk, ↓xSR_mk, ↓xLI_0, ↓xLI_s, ↓xLR_0, ↓xLR_s, vRef_ref, vRef_null, vRef_rf, cat_int, cat_ref, cat_null, cat_rf, rf_some, rf_none, rf_null, rf_eq, rf_ref, ref_rf, ref_null, ref_ref, xOk_0, xOk_1, xOk_2r, xOk_2n, xOk_2f, vOpt_rf, vOpt_ref, vOpt_null, List.set_cons_zero, List.set_cons_succ, List.take_succ_cons, List.take_zero, List.drop_succ_cons, List.drop_zero, List.reverse_cons, List.reverse_nil, List.nil_append, List.cons_append, List.append_nil, List.length_cons, List.length_nil, List.map_cons, List.map_nil, List.sum_cons, List.sum_nil, Option.toList_some, Option.toList_none, xRecv_mk, true_and, and_true, true_implies, Nat.reduceAdd, Nat.reduceLeDiff, Nat.zero_le, Nat.le_refl, Nat.add_zero, Nat.zero_add, reduceIte, not_true_eq_false, not_false_eq_true, false_implies, and_self, implies_true, eq_self, Nat.reduceEqDiff, List.cons.injEq, xsn_1, xsn_2, false_and, and_false, or_false, false_or, or_true, true_or, xsn_3, xsn_4, h0]
  try simp only [xif_e]
  grind

def tbX1_push : List (Nat × xHint) := [(0, .iload_n 2, 2, 0, 0, []), (1, .ifCond .le 10, 11, 0, 0, []), (4, .iload_n 2, 2, 0, 0, []), (5, .bipush 10, 0, 0, 0, []), (7, .idiv, 0, 0, 0, []), (8, .goto 4, 12, 0, 0, []), (11, .iconst 0, 0, 0, 0, []), (12, .istore_n 3, 3, 0, 0, []), (13, .aload_n 0, 0, 0, 0, []), (14, .getfield 28, 2, 1, 0, []), (17, .iload_n 1, 1, 0, 0, []), (18, .ifCond .eq 8, 26, 0, 0, []), (21, .bipush 8, 0, 0, 0, []), (23, .goto 5, 28, 0, 0, []), (26, .bipush 12, 0, 0, 0, []), (28, .imul, 0, 0, 0, []), (29, .aload_n 0, 0, 0, 0, []), (30, .getfield 28, 2, 1, 0, []), (33, .iload_n 3, 3, 0, 0, []), (34, .imul, 0, 0, 0, []), (35, .isub, 0, 0, 0, []), (36, .ireturn, 0, 0, 0, [])]
def clX1_push : List (Instr × Nat × Nat × Nat) := []
def thX1_push : List (Nat × Nat) := []
theorem ckX1_push : tbX1_push.all (xRow RX1 cX1_push wsX1_push vwCl [2] clX1_push thX1_push 4 (yX1_push.name == "<init>") (some .int)) = true := xRow_q 0xac64681d1c00b42a680c100500a708100800991b1c00b42a3e030400a76c0a101c0a009e1c 37 (by decide +kernel) (by decide +kernel)
theorem usX1_push : xUse wsX1_push vwCl [2] = true := xUse_g rfl (lw_good lwl_X1_push lwl_X10 (by decide +kernel)) xUse_n
theorem tbX1_push_0 {k : Instr → Nat → Nat → Nat → List Nat → Prop} : xse (xFind tbX1_push 0) k = k (.iload_n 2) 2 0 0 [] := rfl
theorem tbX1_push_1 {k : Instr → Nat → Nat → Nat → List Nat → Prop} : xse (xFind tbX1_push 1) k = k (.ifCond .le 10) 11 0 0 [] := rfl
theorem tbX1_push_4 {k : Instr → Nat → Nat → Nat → List Nat → Prop} : xse (xFind tbX1_push 4) k = k (.iload_n 2) 2 0 0 [] := rfl
theorem tbX1_push_5 {k : Instr → Nat → Nat → Nat → List Nat → Prop} : xse (xFind tbX1_push 5) k = k (.bipush 10) 0 0 0 [] := rfl
theorem tbX1_push_7 {k : Instr → Nat → Nat → Nat → List Nat → Prop} : xse (xFind tbX1_push 7) k = k (.idiv) 0 0 0 [] := rfl
theorem tbX1_push_8 {k : Instr → Nat → Nat → Nat → List Nat → Prop} : xse (xFind tbX1_push 8) k = k (.goto 4) 12 0 0 [] := rfl
theorem tbX1_push_11 {k : Instr → Nat → Nat → Nat → List Nat → Prop} : xse (xFind tbX1_push 11) k = k (.iconst 0) 0 0 0 [] := rfl
theorem tbX1_push_12 {k : Instr → Nat → Nat → Nat → List Nat → Prop} : xse (xFind tbX1_push 12) k = k (.istore_n 3) 3 0 0 [] := rfl
theorem tbX1_push_13 {k : Instr → Nat → Nat → Nat → List Nat → Prop} : xse (xFind tbX1_push 13) k = k (.aload_n 0) 0 0 0 [] := rfl
theorem tbX1_push_14 {k : Instr → Nat → Nat → Nat → List Nat → Prop} : xse (xFind tbX1_push 14) k = k (.getfield 28) 2 1 0 [] := rfl
theorem tbX1_push_17 {k : Instr → Nat → Nat → Nat → List Nat → Prop} : xse (xFind tbX1_push 17) k = k (.iload_n 1) 1 0 0 [] := rfl
theorem tbX1_push_18 {k : Instr → Nat → Nat → Nat → List Nat → Prop} : xse (xFind tbX1_push 18) k = k (.ifCond .eq 8) 26 0 0 [] := rfl
theorem tbX1_push_21 {k : Instr → Nat → Nat → Nat → List Nat → Prop} : xse (xFind tbX1_push 21) k = k (.bipush 8) 0 0 0 [] := rfl
theorem tbX1_push_23 {k : Instr → Nat → Nat → Nat → List Nat → Prop} : xse (xFind tbX1_push 23) k = k (.goto 5) 28 0 0 [] := rfl
theorem tbX1_push_26 {k : Instr → Nat → Nat → Nat → List Nat → Prop} : xse (xFind tbX1_push 26) k = k (.bipush 12) 0 0 0 [] := rfl
theorem tbX1_push_28 {k : Instr → Nat → Nat → Nat → List Nat → Prop} : xse (xFind tbX1_push 28) k = k (.imul) 0 0 0 [] := rfl
theorem tbX1_push_29 {k : Instr → Nat → Nat → Nat → List Nat → Prop} : xse (xFind tbX1_push 29) k = k (.aload_n 0) 0 0 0 [] := rfl
theorem tbX1_push_30 {k : Instr → Nat → Nat → Nat → List Nat → Prop} : xse (xFind tbX1_push 30) k = k (.getfield 28) 2 1 0 [] := rfl
theorem tbX1_push_33 {k : Instr → Nat → Nat → Nat → List Nat → Prop} : xse (xFind tbX1_push 33) k = k (.iload_n 3) 3 0 0 [] := rfl
theorem tbX1_push_34 {k : Instr → Nat → Nat → Nat → List Nat → Prop} : xse (xFind tbX1_push 34) k = k (.imul) 0 0 0 [] := rfl
theorem tbX1_push_35 {k : Instr → Nat → Nat → Nat → List Nat → Prop} : xse (xFind tbX1_push 35) k = k (.isub) 0 0 0 [] := rfl
theorem tbX1_push_36 {k : Instr → Nat → Nat → Nat → List Nat → Prop} : xse (xFind tbX1_push 36) k = k (.ireturn) 0 0 0 [] := rfl

def spX1_push (W9 : xWd) : xSp cS := (fun av S => (0, 0), fun av S K => ∃ (a : Nat) (u : Int32) (s : Int32), av = [.ref a, .int u, .int s] ∧ ((u = 0 ∨ u = 1) ∧ (cK S a = 3 ∧ K (rI (cFi S a 201 * (if u = 0 then 12 else 8) - cFi S a 201 * (if 0 < s then s / 10 else 0))) S)))
theorem spcX1_push {av : List Value} {S : cS} {W9 : xWd} : (spX1_push W9).1 av S = (0, 0) := rfl
theorem spwX1_push {S : cS} {W9 : xWd} {K : xRes → cS → Prop} {a : Nat} {u : Int32} {s : Int32} : (spX1_push W9).2 [.ref a, .int u, .int s] S K = ((u = 0 ∨ u = 1) ∧ (cK S a = 3 ∧ K (rI (cFi S a 201 * (if u = 0 then 12 else 8) - cFi S a 201 * (if 0 < s then s / 10 else 0))) S)) :=
  propext ⟨fun h => by
    simp only [spX1_push] at h
    obtain ⟨_, _, _, e, h⟩ := h
    simp only [List.cons.injEq, Value.int.injEq, Value.ref.injEq, rf_eq, and_true, true_and] at e
    obtain ⟨rfl, rfl, rfl⟩ := e
    exact h, fun h => ⟨_, _, _, rfl, h⟩⟩

set_option maxHeartbeats 4000000 in
set_option maxRecDepth 20000 in
theorem semX1_push (l : Launch) (hl : l.stackTraces = false) (W9 : xWd) : xSem l W9 (cI) yX1_push wsX1_push 0 0 (spX1_push W9) := by
  refine xSem_of (call := fun _ => none) (thrf := fun _ => "") cI_law (by decide +kernel) rfl ckX1_push usX1_push xCallsOK_nil xThrOK_nil ?_ ?_
  · intro av S KF h
    obtain ⟨a, u, s, rfl, h⟩ := h
    exact ⟨by intro v hv; simp only [List.mem_cons, List.not_mem_nil, or_false] at hv; rcases hv with rfl | rfl | rfl <;> first | rfl | exact cat_rf, Nat.le_of_ble_eq_true rfl⟩
  intro av S KF h G hG
  obtain ⟨a, u, s, rfl, h⟩ := h
  rw [show (spX1_push W9).1 _ S = _ from spcX1_push] at hG
  try dsimp only at hG
  change G 0 [some (.ref a), some (.int u), some (.int s), none] [] S 0 0
  obtain ⟨hu, h0, h⟩ := h
  refine xgo0 hG (fun fu hfu => ?_)
  clear hG
  simp only [↓cg_2_1, kb_10, kb_12, kb_8, kc_10, kc_12, kc_8, ki_0, ↓vm_aload_n, ↓vm_bipush, ↓vm_getfield, ↓vm_goto, ↓vm_iconst, ↓vm_idiv, ↓vm_ifCond_eq, ↓vm_ifCond_le, ↓vm_iload_n, ↓vm_imul, ↓vm_ireturn, ↓vm_istore_n, ↓vm_isub, ↓tbX1_push_0, ↓tbX1_push_1, ↓tbX1_push_4, ↓tbX1_push_5, ↓tbX1_push_7, ↓tbX1_push_8, ↓tbX1_push_11, ↓tbX1_push_12, ↓tbX1_push_13, ↓tbX1_push_14, ↓tbX1_push_17, ↓tbX1_push_18, ↓tbX1_push_21, ↓tbX1_push_23, ↓tbX1_push_26, ↓tbX1_push_28, ↓tbX1_push_29, ↓tbX1_push_30, ↓tbX1_push_33, ↓tbX1_push_34, ↓tbX1_push_35, ↓tbX1_push_36, hfu, xstep0, xJ1_hit, xJ1_go, xJ2_hit1, xJ2_hit2, xJ2_go, ↓xif_t, ↓xif_f, seval, ↓xca_eq, ↓xre_l, ↓xre_r, xmask_t, xmask_f, xmask_nil, ↓xst_eq, xX_eq, eI_eq, eMc_eq, eMs_eq, eF_eq, eThr_eq, ↓xS1_mk, ↓xSI_mk, ↓xSR_mk, ↓xLI_0, ↓xLI_s, ↓xLR_0, ↓xLR_s, vRef_ref, vRef_null, vRef_rf, cat_int, cat_ref, cat_null, cat_rf, rf_some, rf_none, rf_null, rf_eq, rf_ref, ref_rf, ref_null, ref_ref, xOk_0, xOk_1, xOk_2r, xOk_2n, xOk_2f, vOpt_rf, vOpt_ref, vOpt_null, List.set_cons_zero, List.set_cons_succ, List.take_succ_cons, List.take_zero, List.drop_succ_cons, List.drop_zero, List.reverse_cons, List.reverse_nil, List.nil_append, List.cons_append, List.append_nil, List.length_cons, List.length_nil, List.map_cons, List.map_nil, List.sum_cons, List.sum_nil, Option.toList_some, Option.toList_none, xRecv_mk, true_and, and_true, true_implies, Nat.reduceAdd, Nat.reduceLeDiff, Nat.zero_le, Nat.le_refl, Nat.add_zero, Nat.zero_add, reduceIte, not_true_eq_false, not_false_eq_true, false_implies, and_self, implies_true, eq_self, Nat.reduceEqDiff, List.cons.injEq, xsn_1, xsn_2, false_and, and_false, or_false, false_or, or_true, true_or, xsn_3, xsn_4, h0]
  try simp only [xif_e]
  grind

def tbX1_beginHour : List (Nat × xHint) := [(0, .aload_n 0, 0, 0, 0, []), (1, .dup, 0, 0, 0, []), (2, .getfield 47, 2, 5, 0, []), (5, .aload_n 0, 0, 0, 0, []), (6, .getfield 47, 2, 5, 0, []), (9, .aload_n 0, 0, 0, 0, []), (10, .getfield 31, 2, 2, 0, []), (13, .invokestatic 50, 0, 2, 0, []), (16, .isub, 0, 0, 0, []), (17, .putfield 47, 2, 5, 0, []), (20, .aload_n 0, 0, 0, 0, []), (21, .iconst 0, 0, 0, 0, []), (22, .putfield 56, 2, 13, 0, []), (25, .return_, 0, 0, 0, [])]
def clX1_beginHour : List (Instr × Nat × Nat × Nat) := [(.invokestatic 50, 0, 2, 0)]
def thX1_beginHour : List (Nat × Nat) := []
theorem ckX1_beginHour : tbX1_beginHour.all (xRow RX1 cX1_beginHour wsX1_beginHour vwCl [2] clX1_beginHour thX1_beginHour 1 (yX1_beginHour.name == "<init>") none) = true := xRow_q 0xb13800b5032a2f00b5643200b81f00b42a2f00b42a2f00b4592a 26 (by decide +kernel) (by decide +kernel)
theorem usX1_beginHour : xUse wsX1_beginHour vwCl [2] = true := xUse_g rfl (lw_good lwl_X1_beginHour lwl_X10 (by decide +kernel)) xUse_n
theorem tbX1_beginHour_0 {k : Instr → Nat → Nat → Nat → List Nat → Prop} : xse (xFind tbX1_beginHour 0) k = k (.aload_n 0) 0 0 0 [] := rfl
theorem tbX1_beginHour_1 {k : Instr → Nat → Nat → Nat → List Nat → Prop} : xse (xFind tbX1_beginHour 1) k = k (.dup) 0 0 0 [] := rfl
theorem tbX1_beginHour_2 {k : Instr → Nat → Nat → Nat → List Nat → Prop} : xse (xFind tbX1_beginHour 2) k = k (.getfield 47) 2 5 0 [] := rfl
theorem tbX1_beginHour_5 {k : Instr → Nat → Nat → Nat → List Nat → Prop} : xse (xFind tbX1_beginHour 5) k = k (.aload_n 0) 0 0 0 [] := rfl
theorem tbX1_beginHour_6 {k : Instr → Nat → Nat → Nat → List Nat → Prop} : xse (xFind tbX1_beginHour 6) k = k (.getfield 47) 2 5 0 [] := rfl
theorem tbX1_beginHour_9 {k : Instr → Nat → Nat → Nat → List Nat → Prop} : xse (xFind tbX1_beginHour 9) k = k (.aload_n 0) 0 0 0 [] := rfl
theorem tbX1_beginHour_10 {k : Instr → Nat → Nat → Nat → List Nat → Prop} : xse (xFind tbX1_beginHour 10) k = k (.getfield 31) 2 2 0 [] := rfl
theorem tbX1_beginHour_13 {k : Instr → Nat → Nat → Nat → List Nat → Prop} : xse (xFind tbX1_beginHour 13) k = k (.invokestatic 50) 0 2 0 [] := rfl
theorem tbX1_beginHour_16 {k : Instr → Nat → Nat → Nat → List Nat → Prop} : xse (xFind tbX1_beginHour 16) k = k (.isub) 0 0 0 [] := rfl
theorem tbX1_beginHour_17 {k : Instr → Nat → Nat → Nat → List Nat → Prop} : xse (xFind tbX1_beginHour 17) k = k (.putfield 47) 2 5 0 [] := rfl
theorem tbX1_beginHour_20 {k : Instr → Nat → Nat → Nat → List Nat → Prop} : xse (xFind tbX1_beginHour 20) k = k (.aload_n 0) 0 0 0 [] := rfl
theorem tbX1_beginHour_21 {k : Instr → Nat → Nat → Nat → List Nat → Prop} : xse (xFind tbX1_beginHour 21) k = k (.iconst 0) 0 0 0 [] := rfl
theorem tbX1_beginHour_22 {k : Instr → Nat → Nat → Nat → List Nat → Prop} : xse (xFind tbX1_beginHour 22) k = k (.putfield 56) 2 13 0 [] := rfl
theorem tbX1_beginHour_25 {k : Instr → Nat → Nat → Nat → List Nat → Prop} : xse (xFind tbX1_beginHour 25) k = k (.return_) 0 0 0 [] := rfl

def spX1_beginHour (W9 : xWd) : xSp cS := (fun av S => (0, 0), fun av S K => ∃ (a : Nat), av = [.ref a] ∧ (cK S a = 3 ∧ K rV (cSetI (cSetI S a 205 (cFi S a 205 - (if cFi S a 202 < cFi S a 205 then cFi S a 202 else cFi S a 205))) a 213 0)))
theorem spcX1_beginHour {av : List Value} {S : cS} {W9 : xWd} : (spX1_beginHour W9).1 av S = (0, 0) := rfl
theorem spwX1_beginHour {S : cS} {W9 : xWd} {K : xRes → cS → Prop} {a : Nat} : (spX1_beginHour W9).2 [.ref a] S K = (cK S a = 3 ∧ K rV (cSetI (cSetI S a 205 (cFi S a 205 - (if cFi S a 202 < cFi S a 205 then cFi S a 202 else cFi S a 205))) a 213 0)) :=
  propext ⟨fun h => by
    simp only [spX1_beginHour] at h
    obtain ⟨_, e, h⟩ := h
    simp only [List.cons.injEq, Value.int.injEq, Value.ref.injEq, rf_eq, and_true, true_and] at e
    obtain rfl := e
    exact h, fun h => ⟨_, rfl, h⟩⟩

def callX1_beginHour (W9 : xWd) : Nat → Option (xSp cS) := fun n => match n with | 0 => some (sp_min cS) | _ => none

theorem callX1_beginHour_0 {W9 : xWd} {k : xSp cS → Prop} : xcs (callX1_beginHour W9 0) k = k (sp_min cS) := rfl

theorem crX1_beginHour (l : Launch) (hl : l.stackTraces = false) (W9 : xWd) : xCallsOK l W9 (cI) (callX1_beginHour W9) clX1_beginHour RX1 wsX1_beginHour 1 21 1 := by
  intro E A p e R s m args below meth c hI hF hL X
  exact List.forall_mem_cons.mpr ⟨⟨_, rfl, xCR_min X (by decide +kernel) (by decide +kernel) (by decide +kernel) (by decide +kernel) (by rw [hF, hL]; decide)⟩,
    fun _ h => nomatch h⟩

set_option maxHeartbeats 4000000 in
set_option maxRecDepth 20000 in
theorem semX1_beginHour (l : Launch) (hl : l.stackTraces = false) (W9 : xWd) : xSem l W9 (cI) yX1_beginHour wsX1_beginHour 1 21 (spX1_beginHour W9) := by
  refine xSem_of (call := callX1_beginHour W9) (thrf := fun _ => "") cI_law (by decide +kernel) rfl ckX1_beginHour usX1_beginHour (crX1_beginHour l hl W9) xThrOK_nil ?_ ?_
  · intro av S KF h
    obtain ⟨a, rfl, h⟩ := h
    exact ⟨by intro v hv; simp only [List.mem_cons, List.not_mem_nil, or_false] at hv; rcases hv with rfl <;> first | rfl | exact cat_rf, Nat.le_of_ble_eq_true rfl⟩
  intro av S KF h G hG
  obtain ⟨a, rfl, h⟩ := h
  rw [show (spX1_beginHour W9).1 _ S = _ from spcX1_beginHour] at hG
  try dsimp only at hG
  change G 0 [some (.ref a)] [] S 0 0
  obtain ⟨h0, h⟩ := h
  refine xgo0 hG (fun fu hfu => ?_)
  clear hG
  simp only [↓callX1_beginHour_0, ↓cg_2_2, ↓cg_2_5, ↓cp_2_13, ↓cp_2_5, ki_0, ↓vm_aload_n, ↓vm_dup, ↓vm_getfield, ↓vm_iconst, ↓vm_invokestatic, ↓vm_isub, ↓vm_putfield, ↓vm_return_, ↓xc_2, ↓tbX1_beginHour_0, ↓tbX1_beginHour_1, ↓tbX1_beginHour_2, ↓tbX1_beginHour_5, ↓tbX1_beginHour_6, ↓tbX1_beginHour_9, ↓tbX1_beginHour_10, ↓tbX1_beginHour_13, ↓tbX1_beginHour_16, ↓tbX1_beginHour_17, ↓tbX1_beginHour_20, ↓tbX1_beginHour_21, ↓tbX1_beginHour_22, ↓tbX1_beginHour_25, hfu, xstep0, xJ1_hit, xJ1_go, xJ2_hit1, xJ2_hit2, xJ2_go, ↓xif_t, ↓xif_f, seval, ↓xca_eq, ↓xre_l, ↓xre_r, xmask_t, xmask_f, xmask_nil, ↓xst_eq, xX_eq, eI_eq, eMc_eq, eMs_eq, eF_eq, eThr_eq, ↓xS1_mk, ↓xSI_mk, ↓xSR_mk, ↓xLI_0, ↓xLI_s, ↓xLR_0, ↓xLR_s, vRef_ref, vRef_null, vRef_rf, cat_int, cat_ref, cat_null, cat_rf, rf_some, rf_none, rf_null, rf_eq, rf_ref, ref_rf, ref_null, ref_ref, xOk_0, xOk_1, xOk_2r, xOk_2n, xOk_2f, vOpt_rf, vOpt_ref, vOpt_null, List.set_cons_zero, List.set_cons_succ, List.take_succ_cons, List.take_zero, List.drop_succ_cons, List.drop_zero, List.reverse_cons, List.reverse_nil, List.nil_append, List.cons_append, List.append_nil, List.length_cons, List.length_nil, List.map_cons, List.map_nil, List.sum_cons, List.sum_nil, Option.toList_some, Option.toList_none, xRecv_mk, true_and, and_true, true_implies, Nat.reduceAdd, Nat.reduceLeDiff, Nat.zero_le, Nat.le_refl, Nat.add_zero, Nat.zero_add, reduceIte, not_true_eq_false, not_false_eq_true, false_implies, and_self, implies_true, eq_self, Nat.reduceEqDiff, List.cons.injEq, xsn_1, xsn_2, false_and, and_false, or_false, false_or, or_true, true_or, xsn_3, xsn_4, h0, cK_setI, ↓sp_min_w, sp_min_c]
  try simp only [xif_e]
  exact h

def tbX1_waitFor : List (Nat × xHint) := [(0, .aload_n 0, 0, 0, 0, []), (1, .iload_n 1, 1, 0, 0, []), (2, .putfield 56, 2, 13, 0, []), (5, .iload_n 1, 1, 0, 0, []), (6, .ifCond .lt 22, 28, 0, 0, []), (9, .iload_n 1, 1, 0, 0, []), (10, .aload_n 0, 0, 0, 0, []), (11, .getfield 21, 2, 14, 2, []), (14, .arraylength, 0, 0, 0, []), (15, .if_icmp .ge 13, 28, 0, 0, []), (18, .aload_n 0, 0, 0, 0, []), (19, .getfield 21, 2, 14, 2, []), (22, .iload_n 1, 1, 0, 0, []), (23, .dup2, 0, 0, 0, []), (24, .iaload, 0, 0, 0, []), (25, .iconst 1, 0, 0, 0, []), (26, .iadd, 0, 0, 0, []), (27, .iastore, 0, 0, 0, []), (28, .return_, 0, 0, 0, [])]
def clX1_waitFor : List (Instr × Nat × Nat × Nat) := []
def thX1_waitFor : List (Nat × Nat) := []
theorem ckX1_waitFor : tbX1_waitFor.all (xRow RX1 cX1_waitFor wsX1_waitFor vwCl [2] clX1_waitFor thX1_waitFor 2 (yX1_waitFor.name == "<init>") none) = true := xRow_q 0xb14f60042e5c1b1500b42a0d00a2be1500b42a1b16009b1b3800b51b2a 29 (by decide +kernel) (by decide +kernel)
theorem usX1_waitFor : xUse wsX1_waitFor vwCl [2] = true := xUse_g rfl (lw_good lwl_X1_waitFor lwl_X10 (by decide +kernel)) xUse_n
theorem tbX1_waitFor_0 {k : Instr → Nat → Nat → Nat → List Nat → Prop} : xse (xFind tbX1_waitFor 0) k = k (.aload_n 0) 0 0 0 [] := rfl
theorem tbX1_waitFor_1 {k : Instr → Nat → Nat → Nat → List Nat → Prop} : xse (xFind tbX1_waitFor 1) k = k (.iload_n 1) 1 0 0 [] := rfl
theorem tbX1_waitFor_2 {k : Instr → Nat → Nat → Nat → List Nat → Prop} : xse (xFind tbX1_waitFor 2) k = k (.putfield 56) 2 13 0 [] := rfl
theorem tbX1_waitFor_5 {k : Instr → Nat → Nat → Nat → List Nat → Prop} : xse (xFind tbX1_waitFor 5) k = k (.iload_n 1) 1 0 0 [] := rfl
theorem tbX1_waitFor_6 {k : Instr → Nat → Nat → Nat → List Nat → Prop} : xse (xFind tbX1_waitFor 6) k = k (.ifCond .lt 22) 28 0 0 [] := rfl
theorem tbX1_waitFor_9 {k : Instr → Nat → Nat → Nat → List Nat → Prop} : xse (xFind tbX1_waitFor 9) k = k (.iload_n 1) 1 0 0 [] := rfl
theorem tbX1_waitFor_10 {k : Instr → Nat → Nat → Nat → List Nat → Prop} : xse (xFind tbX1_waitFor 10) k = k (.aload_n 0) 0 0 0 [] := rfl
theorem tbX1_waitFor_11 {k : Instr → Nat → Nat → Nat → List Nat → Prop} : xse (xFind tbX1_waitFor 11) k = k (.getfield 21) 2 14 2 [] := rfl
theorem tbX1_waitFor_14 {k : Instr → Nat → Nat → Nat → List Nat → Prop} : xse (xFind tbX1_waitFor 14) k = k (.arraylength) 0 0 0 [] := rfl
theorem tbX1_waitFor_15 {k : Instr → Nat → Nat → Nat → List Nat → Prop} : xse (xFind tbX1_waitFor 15) k = k (.if_icmp .ge 13) 28 0 0 [] := rfl
theorem tbX1_waitFor_18 {k : Instr → Nat → Nat → Nat → List Nat → Prop} : xse (xFind tbX1_waitFor 18) k = k (.aload_n 0) 0 0 0 [] := rfl
theorem tbX1_waitFor_19 {k : Instr → Nat → Nat → Nat → List Nat → Prop} : xse (xFind tbX1_waitFor 19) k = k (.getfield 21) 2 14 2 [] := rfl
theorem tbX1_waitFor_22 {k : Instr → Nat → Nat → Nat → List Nat → Prop} : xse (xFind tbX1_waitFor 22) k = k (.iload_n 1) 1 0 0 [] := rfl
theorem tbX1_waitFor_23 {k : Instr → Nat → Nat → Nat → List Nat → Prop} : xse (xFind tbX1_waitFor 23) k = k (.dup2) 0 0 0 [] := rfl
theorem tbX1_waitFor_24 {k : Instr → Nat → Nat → Nat → List Nat → Prop} : xse (xFind tbX1_waitFor 24) k = k (.iaload) 0 0 0 [] := rfl
theorem tbX1_waitFor_25 {k : Instr → Nat → Nat → Nat → List Nat → Prop} : xse (xFind tbX1_waitFor 25) k = k (.iconst 1) 0 0 0 [] := rfl
theorem tbX1_waitFor_26 {k : Instr → Nat → Nat → Nat → List Nat → Prop} : xse (xFind tbX1_waitFor 26) k = k (.iadd) 0 0 0 [] := rfl
theorem tbX1_waitFor_27 {k : Instr → Nat → Nat → Nat → List Nat → Prop} : xse (xFind tbX1_waitFor 27) k = k (.iastore) 0 0 0 [] := rfl
theorem tbX1_waitFor_28 {k : Instr → Nat → Nat → Nat → List Nat → Prop} : xse (xFind tbX1_waitFor 28) k = k (.return_) 0 0 0 [] := rfl

def spX1_waitFor (W9 : xWd) : xSp cS := (fun av S => (0, 0), fun av S K => ∃ (a : Nat) (c : Int32), av = [.ref a, .int c] ∧ (cK S a = 3 ∧ cIn S a 214 11 ∧ cLen S (cRf S a 214) = 10 ∧ vp_in c 10 ∧ K rV (cAst (cSetI S a 213 c) (cRf S a 214) c.toNatClampNeg (cRi S (cRf S a 214) c.toNatClampNeg + 1))))
theorem spcX1_waitFor {av : List Value} {S : cS} {W9 : xWd} : (spX1_waitFor W9).1 av S = (0, 0) := rfl
theorem spwX1_waitFor {S : cS} {W9 : xWd} {K : xRes → cS → Prop} {a : Nat} {c : Int32} : (spX1_waitFor W9).2 [.ref a, .int c] S K = (cK S a = 3 ∧ cIn S a 214 11 ∧ cLen S (cRf S a 214) = 10 ∧ vp_in c 10 ∧ K rV (cAst (cSetI S a 213 c) (cRf S a 214) c.toNatClampNeg (cRi S (cRf S a 214) c.toNatClampNeg + 1))) :=
  propext ⟨fun h => by
    simp only [spX1_waitFor] at h
    obtain ⟨_, _, e, h⟩ := h
    simp only [List.cons.injEq, Value.int.injEq, Value.ref.injEq, rf_eq, and_true, true_and] at e
    obtain ⟨rfl, rfl⟩ := e
    exact h, fun h => ⟨_, _, rfl, h⟩⟩

set_option maxHeartbeats 4000000 in
set_option maxRecDepth 20000 in
theorem semX1_waitFor (l : Launch) (hl : l.stackTraces = false) (W9 : xWd) : xSem l W9 (cI) yX1_waitFor wsX1_waitFor 0 0 (spX1_waitFor W9) := by
  refine xSem_of (call := fun _ => none) (thrf := fun _ => "") cI_law (by decide +kernel) rfl ckX1_waitFor usX1_waitFor xCallsOK_nil xThrOK_nil ?_ ?_
  · intro av S KF h
    obtain ⟨a, c, rfl, h⟩ := h
    exact ⟨by intro v hv; simp only [List.mem_cons, List.not_mem_nil, or_false] at hv; rcases hv with rfl | rfl <;> first | rfl | exact cat_rf, Nat.le_of_ble_eq_true rfl⟩
  intro av S KF h G hG
  obtain ⟨a, c, rfl, h⟩ := h
  rw [show (spX1_waitFor W9).1 _ S = _ from spcX1_waitFor] at hG
  try dsimp only at hG
  change G 0 [some (.ref a), some (.int c)] [] S 0 0
  obtain ⟨h0, ⟨h1, h2⟩, h3, h4, h⟩ := h

  obtain ⟨k, hk, rfl⟩ := vp_in_of h4 (by omega)
  rw [ix_nI (by omega)] at h
  have e0 : (nI k < 0) = False := eq_false (nI_pos (by omega))
  have e1 : ((10 : Int32) ≤ nI k) = False := ge_nI hk (show 10 < 1000 by omega)
  refine xgo0 hG (fun fu hfu => ?_)
  simp only [↓cald_0, ↓calen, ↓cast_0, ↓cg_2_14, ↓cp_2_13, ki_1, ↓vm_aload_n, ↓vm_arraylength, ↓vm_dup2, ↓vm_getfield, ↓vm_iadd, ↓vm_iaload, ↓vm_iastore, ↓vm_iconst, ↓vm_ifCond_lt, ↓vm_if_icmp_ge, ↓vm_iload_n, ↓vm_putfield, ↓vm_return_, ↓tbX1_waitFor_0, ↓tbX1_waitFor_1, ↓tbX1_waitFor_2, ↓tbX1_waitFor_5, ↓tbX1_waitFor_6, ↓tbX1_waitFor_9, ↓tbX1_waitFor_10, ↓tbX1_waitFor_11, ↓tbX1_waitFor_14, ↓tbX1_waitFor_15, ↓tbX1_waitFor_18, ↓tbX1_waitFor_19, ↓tbX1_waitFor_22, ↓tbX1_waitFor_23, ↓tbX1_waitFor_24, ↓tbX1_waitFor_25, ↓tbX1_waitFor_26, ↓tbX1_waitFor_27, ↓tbX1_waitFor_28, hfu, xstep0, xJ1_hit, xJ1_go, xJ2_hit1, xJ2_hit2, xJ2_go, ↓xif_t, ↓xif_f, seval, ↓xca_eq, ↓xre_l, ↓xre_r, xmask_t, xmask_f, xmask_nil, ↓xst_eq, xX_eq, eI_eq, eMc_eq, eMs_eq, eF_eq, eThr_eq, ↓xS1_mk, ↓xSI_mk, ↓xSR_mk, ↓xLI_0, ↓xLI_s, ↓xLR_0, ↓xLR_s, vRef_ref, vRef_null, vRef_rf, cat_int, cat_ref, cat_null, cat_rf, rf_some, rf_none, rf_null, rf_eq, rf_ref, ref_rf, ref_null, ref_ref, xOk_0, xOk_1, xOk_2r, xOk_2n, xOk_2f, vOpt_rf, vOpt_ref, vOpt_null, List.set_cons_zero, List.set_cons_succ, List.take_succ_cons, List.take_zero, List.drop_succ_cons, List.drop_zero, List.reverse_cons, List.reverse_nil, List.nil_append, List.cons_append, List.append_nil, List.length_cons, List.length_nil, List.map_cons, List.map_nil, List.sum_cons, List.sum_nil, Option.toList_some, Option.toList_none, xRecv_mk, true_and, and_true, true_implies, Nat.reduceAdd, Nat.reduceLeDiff, Nat.zero_le, Nat.le_refl, Nat.add_zero, Nat.zero_add, reduceIte, not_true_eq_false, not_false_eq_true, false_implies, and_self, implies_true, eq_self, Nat.reduceEqDiff, List.cons.injEq, xsn_1, xsn_2, false_and, and_false, or_false, false_or, or_true, true_or, xsn_3, xsn_4, cK_setI, cFr_setI, cLen_setI, cRi_setI, h0, h1, h2, h3, h4, e0, e1, ix_nI (show k < 1000 by omega)]
  try simp only [xif_e]
  exact h

def tbX1_standAt : List (Nat × xHint) := [(0, .aload_n 0, 0, 0, 0, []), (1, .iload_n 1, 1, 0, 0, []), (2, .putfield 9, 2, 6, 0, []), (5, .aload_n 0, 0, 0, 0, []), (6, .iconst (-1), 0, 0, 0, []), (7, .putfield 15, 2, 7, 0, []), (10, .aload_n 0, 0, 0, 0, []), (11, .iconst 0, 0, 0, 0, []), (12, .putfield 59, 2, 9, 0, []), (15, .aload_n 0, 0, 0, 0, []), (16, .iload_n 2, 2, 0, 0, []), (17, .putfield 62, 2, 11, 0, []), (20, .aload_n 0, 0, 0, 0, []), (21, .getfield 18, 2, 10, 0, []), (24, .iload_n 1, 1, 0, 0, []), (25, .if_icmp .ne 8, 33, 0, 0, []), (28, .aload_n 0, 0, 0, 0, []), (29, .iconst (-1), 0, 0, 0, []), (30, .putfield 18, 2, 10, 0, []), (33, .return_, 0, 0, 0, [])]
def clX1_standAt : List (Instr × Nat × Nat × Nat) := []
def thX1_standAt : List (Nat × Nat) := []
theorem ckX1_standAt : tbX1_standAt.all (xRow RX1 cX1_standAt wsX1_standAt vwCl [2] clX1_standAt thX1_standAt 3 (yX1_standAt.name == "<init>") none) = true := xRow_q 0xb11200b5022a0800a01b1200b42a3e00b51c2a3b00b5032a0f00b5022a0900b51b2a 34 (by decide +kernel) (by decide +kernel)
theorem usX1_standAt : xUse wsX1_standAt vwCl [2] = true := xUse_g rfl (lw_good lwl_X1_standAt lwl_X10 (by decide +kernel)) xUse_n
theorem tbX1_standAt_0 {k : Instr → Nat → Nat → Nat → List Nat → Prop} : xse (xFind tbX1_standAt 0) k = k (.aload_n 0) 0 0 0 [] := rfl
theorem tbX1_standAt_1 {k : Instr → Nat → Nat → Nat → List Nat → Prop} : xse (xFind tbX1_standAt 1) k = k (.iload_n 1) 1 0 0 [] := rfl
theorem tbX1_standAt_2 {k : Instr → Nat → Nat → Nat → List Nat → Prop} : xse (xFind tbX1_standAt 2) k = k (.putfield 9) 2 6 0 [] := rfl
theorem tbX1_standAt_5 {k : Instr → Nat → Nat → Nat → List Nat → Prop} : xse (xFind tbX1_standAt 5) k = k (.aload_n 0) 0 0 0 [] := rfl
theorem tbX1_standAt_6 {k : Instr → Nat → Nat → Nat → List Nat → Prop} : xse (xFind tbX1_standAt 6) k = k (.iconst (-1)) 0 0 0 [] := rfl
theorem tbX1_standAt_7 {k : Instr → Nat → Nat → Nat → List Nat → Prop} : xse (xFind tbX1_standAt 7) k = k (.putfield 15) 2 7 0 [] := rfl
theorem tbX1_standAt_10 {k : Instr → Nat → Nat → Nat → List Nat → Prop} : xse (xFind tbX1_standAt 10) k = k (.aload_n 0) 0 0 0 [] := rfl
theorem tbX1_standAt_11 {k : Instr → Nat → Nat → Nat → List Nat → Prop} : xse (xFind tbX1_standAt 11) k = k (.iconst 0) 0 0 0 [] := rfl
theorem tbX1_standAt_12 {k : Instr → Nat → Nat → Nat → List Nat → Prop} : xse (xFind tbX1_standAt 12) k = k (.putfield 59) 2 9 0 [] := rfl
theorem tbX1_standAt_15 {k : Instr → Nat → Nat → Nat → List Nat → Prop} : xse (xFind tbX1_standAt 15) k = k (.aload_n 0) 0 0 0 [] := rfl
theorem tbX1_standAt_16 {k : Instr → Nat → Nat → Nat → List Nat → Prop} : xse (xFind tbX1_standAt 16) k = k (.iload_n 2) 2 0 0 [] := rfl
theorem tbX1_standAt_17 {k : Instr → Nat → Nat → Nat → List Nat → Prop} : xse (xFind tbX1_standAt 17) k = k (.putfield 62) 2 11 0 [] := rfl
theorem tbX1_standAt_20 {k : Instr → Nat → Nat → Nat → List Nat → Prop} : xse (xFind tbX1_standAt 20) k = k (.aload_n 0) 0 0 0 [] := rfl
theorem tbX1_standAt_21 {k : Instr → Nat → Nat → Nat → List Nat → Prop} : xse (xFind tbX1_standAt 21) k = k (.getfield 18) 2 10 0 [] := rfl
theorem tbX1_standAt_24 {k : Instr → Nat → Nat → Nat → List Nat → Prop} : xse (xFind tbX1_standAt 24) k = k (.iload_n 1) 1 0 0 [] := rfl
theorem tbX1_standAt_25 {k : Instr → Nat → Nat → Nat → List Nat → Prop} : xse (xFind tbX1_standAt 25) k = k (.if_icmp .ne 8) 33 0 0 [] := rfl
theorem tbX1_standAt_28 {k : Instr → Nat → Nat → Nat → List Nat → Prop} : xse (xFind tbX1_standAt 28) k = k (.aload_n 0) 0 0 0 [] := rfl
theorem tbX1_standAt_29 {k : Instr → Nat → Nat → Nat → List Nat → Prop} : xse (xFind tbX1_standAt 29) k = k (.iconst (-1)) 0 0 0 [] := rfl
theorem tbX1_standAt_30 {k : Instr → Nat → Nat → Nat → List Nat → Prop} : xse (xFind tbX1_standAt 30) k = k (.putfield 18) 2 10 0 [] := rfl
theorem tbX1_standAt_33 {k : Instr → Nat → Nat → Nat → List Nat → Prop} : xse (xFind tbX1_standAt 33) k = k (.return_) 0 0 0 [] := rfl

def spX1_standAt (W9 : xWd) : xSp cS := (fun av S => (0, 0), fun av S K => ∃ (a : Nat) (p : Int32) (o : Int32), av = [.ref a, .int p, .int o] ∧ (cK S a = 3 ∧ K rV (if cFi S a 210 = p then cSetI (cSetI (cSetI (cSetI (cSetI S a 206 p) a 207 (-1)) a 209 0) a 211 o) a 210 (-1) else cSetI (cSetI (cSetI (cSetI S a 206 p) a 207 (-1)) a 209 0) a 211 o)))
theorem spcX1_standAt {av : List Value} {S : cS} {W9 : xWd} : (spX1_standAt W9).1 av S = (0, 0) := rfl
theorem spwX1_standAt {S : cS} {W9 : xWd} {K : xRes → cS → Prop} {a : Nat} {p : Int32} {o : Int32} : (spX1_standAt W9).2 [.ref a, .int p, .int o] S K = (cK S a = 3 ∧ K rV (if cFi S a 210 = p then cSetI (cSetI (cSetI (cSetI (cSetI S a 206 p) a 207 (-1)) a 209 0) a 211 o) a 210 (-1) else cSetI (cSetI (cSetI (cSetI S a 206 p) a 207 (-1)) a 209 0) a 211 o)) :=
  propext ⟨fun h => by
    simp only [spX1_standAt] at h
    obtain ⟨_, _, _, e, h⟩ := h
    simp only [List.cons.injEq, Value.int.injEq, Value.ref.injEq, rf_eq, and_true, true_and] at e
    obtain ⟨rfl, rfl, rfl⟩ := e
    exact h, fun h => ⟨_, _, _, rfl, h⟩⟩

set_option maxHeartbeats 4000000 in
set_option maxRecDepth 20000 in
theorem semX1_standAt (l : Launch) (hl : l.stackTraces = false) (W9 : xWd) : xSem l W9 (cI) yX1_standAt wsX1_standAt 0 0 (spX1_standAt W9) := by
  refine xSem_of (call := fun _ => none) (thrf := fun _ => "") cI_law (by decide +kernel) rfl ckX1_standAt usX1_standAt xCallsOK_nil xThrOK_nil ?_ ?_
  · intro av S KF h
    obtain ⟨a, p, o, rfl, h⟩ := h
    exact ⟨by intro v hv; simp only [List.mem_cons, List.not_mem_nil, or_false] at hv; rcases hv with rfl | rfl | rfl <;> first | rfl | exact cat_rf, Nat.le_of_ble_eq_true rfl⟩
  intro av S KF h G hG
  obtain ⟨a, p, o, rfl, h⟩ := h
  rw [show (spX1_standAt W9).1 _ S = _ from spcX1_standAt] at hG
  try dsimp only at hG
  change G 0 [some (.ref a), some (.int p), some (.int o)] [] S 0 0
  obtain ⟨h0, h⟩ := h
  refine xgo0 hG (fun fu hfu => ?_)
  clear hG
  simp only [↓cg_2_10, ↓cp_2_10, ↓cp_2_11, ↓cp_2_6, ↓cp_2_7, ↓cp_2_9, ki_0, ki_m1, ↓vm_aload_n, ↓vm_getfield, ↓vm_iconst, ↓vm_if_icmp_ne, ↓vm_iload_n, ↓vm_putfield, ↓vm_return_, ↓tbX1_standAt_0, ↓tbX1_standAt_1, ↓tbX1_standAt_2, ↓tbX1_standAt_5, ↓tbX1_standAt_6, ↓tbX1_standAt_7, ↓tbX1_standAt_10, ↓tbX1_standAt_11, ↓tbX1_standAt_12, ↓tbX1_standAt_15, ↓tbX1_standAt_16, ↓tbX1_standAt_17, ↓tbX1_standAt_20, ↓tbX1_standAt_21, ↓tbX1_standAt_24, ↓tbX1_standAt_25, ↓tbX1_standAt_28, ↓tbX1_standAt_29, ↓tbX1_standAt_30, ↓tbX1_standAt_33, hfu, xstep0, xJ1_hit, xJ1_go, xJ2_hit1, xJ2_hit2, xJ2_go, ↓xif_t, ↓xif_f, seval, ↓xca_eq, ↓xre_l, ↓xre_r, xmask_t, xmask_f, xmask_nil, ↓xst_eq, xX_eq, eI_eq, eMc_eq, eMs_eq, eF_eq, eThr_eq, ↓xS1_mk, ↓xSI_mk, ↓xSR_mk, ↓xLI_0, ↓xLI_s, ↓xLR_0, ↓xLR_s, vRef_ref, vRef_null, vRef_rf, cat_int, cat_ref, cat_null, cat_rf, rf_some, rf_none, rf_null, rf_eq, rf_ref, ref_rf, ref_null, ref_ref, xOk_0, xOk_1, xOk_2r, xOk_2n, xOk_2f, vOpt_rf, vOpt_ref, vOpt_null, List.set_cons_zero, List.set_cons_succ, List.take_succ_cons, List.take_zero, List.drop_succ_cons, List.drop_zero, List.reverse_cons, List.reverse_nil, List.nil_append, List.cons_append, List.append_nil, List.length_cons, List.length_nil, List.map_cons, List.map_nil, List.sum_cons, List.sum_nil, Option.toList_some, Option.toList_none, xRecv_mk, true_and, and_true, true_implies, Nat.reduceAdd, Nat.reduceLeDiff, Nat.zero_le, Nat.le_refl, Nat.add_zero, Nat.zero_add, reduceIte, not_true_eq_false, not_false_eq_true, false_implies, and_self, implies_true, eq_self, Nat.reduceEqDiff, List.cons.injEq, xsn_1, xsn_2, false_and, and_false, or_false, false_or, or_true, true_or, xsn_3, xsn_4, h0, cK_setI, cFi_setI]
  try simp only [xif_e]
  grind

def tbX1_setOut : List (Nat × xHint) := [(0, .aload_n 0, 0, 0, 0, []), (1, .dup, 0, 0, 0, []), (2, .getfield 65, 2, 4, 0, []), (5, .aload_n 0, 0, 0, 0, []), (6, .getfield 28, 2, 1, 0, []), (9, .iload_n 3, 3, 0, 0, []), (10, .imul, 0, 0, 0, []), (11, .isub, 0, 0, 0, []), (12, .putfield 65, 2, 4, 0, []), (15, .aload_n 0, 0, 0, 0, []), (16, .iconst (-1), 0, 0, 0, []), (17, .putfield 9, 2, 6, 0, []), (20, .aload_n 0, 0, 0, 0, []), (21, .iload_n 1, 1, 0, 0, []), (22, .putfield 15, 2, 7, 0, []), (25, .aload_n 0, 0, 0, 0, []), (26, .iload_n 2, 2, 0, 0, []), (27, .putfield 43, 2, 8, 1, []), (30, .aload_n 0, 0, 0, 0, []), (31, .iload_n 3, 3, 0, 0, []), (32, .putfield 59, 2, 9, 0, []), (35, .return_, 0, 0, 0, [])]
def clX1_setOut : List (Instr × Nat × Nat × Nat) := []
def thX1_setOut : List (Nat × Nat) := []
theorem ckX1_setOut : tbX1_setOut.all (xRow RX1 cX1_setOut wsX1_setOut vwCl [2] clX1_setOut thX1_setOut 4 (yX1_setOut.name == "<init>") none) = true := xRow_q 0xb13b00b51d2a2b00b51c2a0f00b51b2a0900b5022a4100b564681d1c00b42a4100b4592a 36 (by decide +kernel) (by decide +kernel)
theorem usX1_setOut : xUse wsX1_setOut vwCl [2] = true := xUse_g rfl (lw_good lwl_X1_setOut lwl_X10 (by decide +kernel)) xUse_n
theorem tbX1_setOut_0 {k : Instr → Nat → Nat → Nat → List Nat → Prop} : xse (xFind tbX1_setOut 0) k = k (.aload_n 0) 0 0 0 [] := rfl
theorem tbX1_setOut_1 {k : Instr → Nat → Nat → Nat → List Nat → Prop} : xse (xFind tbX1_setOut 1) k = k (.dup) 0 0 0 [] := rfl
theorem tbX1_setOut_2 {k : Instr → Nat → Nat → Nat → List Nat → Prop} : xse (xFind tbX1_setOut 2) k = k (.getfield 65) 2 4 0 [] := rfl
theorem tbX1_setOut_5 {k : Instr → Nat → Nat → Nat → List Nat → Prop} : xse (xFind tbX1_setOut 5) k = k (.aload_n 0) 0 0 0 [] := rfl
theorem tbX1_setOut_6 {k : Instr → Nat → Nat → Nat → List Nat → Prop} : xse (xFind tbX1_setOut 6) k = k (.getfield 28) 2 1 0 [] := rfl
theorem tbX1_setOut_9 {k : Instr → Nat → Nat → Nat → List Nat → Prop} : xse (xFind tbX1_setOut 9) k = k (.iload_n 3) 3 0 0 [] := rfl
theorem tbX1_setOut_10 {k : Instr → Nat → Nat → Nat → List Nat → Prop} : xse (xFind tbX1_setOut 10) k = k (.imul) 0 0 0 [] := rfl
theorem tbX1_setOut_11 {k : Instr → Nat → Nat → Nat → List Nat → Prop} : xse (xFind tbX1_setOut 11) k = k (.isub) 0 0 0 [] := rfl
theorem tbX1_setOut_12 {k : Instr → Nat → Nat → Nat → List Nat → Prop} : xse (xFind tbX1_setOut 12) k = k (.putfield 65) 2 4 0 [] := rfl
theorem tbX1_setOut_15 {k : Instr → Nat → Nat → Nat → List Nat → Prop} : xse (xFind tbX1_setOut 15) k = k (.aload_n 0) 0 0 0 [] := rfl
theorem tbX1_setOut_16 {k : Instr → Nat → Nat → Nat → List Nat → Prop} : xse (xFind tbX1_setOut 16) k = k (.iconst (-1)) 0 0 0 [] := rfl
theorem tbX1_setOut_17 {k : Instr → Nat → Nat → Nat → List Nat → Prop} : xse (xFind tbX1_setOut 17) k = k (.putfield 9) 2 6 0 [] := rfl
theorem tbX1_setOut_20 {k : Instr → Nat → Nat → Nat → List Nat → Prop} : xse (xFind tbX1_setOut 20) k = k (.aload_n 0) 0 0 0 [] := rfl
theorem tbX1_setOut_21 {k : Instr → Nat → Nat → Nat → List Nat → Prop} : xse (xFind tbX1_setOut 21) k = k (.iload_n 1) 1 0 0 [] := rfl
theorem tbX1_setOut_22 {k : Instr → Nat → Nat → Nat → List Nat → Prop} : xse (xFind tbX1_setOut 22) k = k (.putfield 15) 2 7 0 [] := rfl
theorem tbX1_setOut_25 {k : Instr → Nat → Nat → Nat → List Nat → Prop} : xse (xFind tbX1_setOut 25) k = k (.aload_n 0) 0 0 0 [] := rfl
theorem tbX1_setOut_26 {k : Instr → Nat → Nat → Nat → List Nat → Prop} : xse (xFind tbX1_setOut 26) k = k (.iload_n 2) 2 0 0 [] := rfl
theorem tbX1_setOut_27 {k : Instr → Nat → Nat → Nat → List Nat → Prop} : xse (xFind tbX1_setOut 27) k = k (.putfield 43) 2 8 1 [] := rfl
theorem tbX1_setOut_30 {k : Instr → Nat → Nat → Nat → List Nat → Prop} : xse (xFind tbX1_setOut 30) k = k (.aload_n 0) 0 0 0 [] := rfl
theorem tbX1_setOut_31 {k : Instr → Nat → Nat → Nat → List Nat → Prop} : xse (xFind tbX1_setOut 31) k = k (.iload_n 3) 3 0 0 [] := rfl
theorem tbX1_setOut_32 {k : Instr → Nat → Nat → Nat → List Nat → Prop} : xse (xFind tbX1_setOut 32) k = k (.putfield 59) 2 9 0 [] := rfl
theorem tbX1_setOut_35 {k : Instr → Nat → Nat → Nat → List Nat → Prop} : xse (xFind tbX1_setOut 35) k = k (.return_) 0 0 0 [] := rfl

def spX1_setOut (W9 : xWd) : xSp cS := (fun av S => (0, 0), fun av S K => ∃ (a : Nat) (e : Int32) (u : Int32) (o : Int32), av = [.ref a, .int e, .int u, .int o] ∧ ((u = 0 ∨ u = 1) ∧ (cK S a = 3 ∧ K rV (cSetI (cSetI (cSetI (cSetI (cSetI S a 204 (cFi S a 204 - cFi S a 201 * o)) a 206 (-1)) a 207 e) a 208 u) a 209 o))))
theorem spcX1_setOut {av : List Value} {S : cS} {W9 : xWd} : (spX1_setOut W9).1 av S = (0, 0) := rfl
theorem spwX1_setOut {S : cS} {W9 : xWd} {K : xRes → cS → Prop} {a : Nat} {e : Int32} {u : Int32} {o : Int32} : (spX1_setOut W9).2 [.ref a, .int e, .int u, .int o] S K = ((u = 0 ∨ u = 1) ∧ (cK S a = 3 ∧ K rV (cSetI (cSetI (cSetI (cSetI (cSetI S a 204 (cFi S a 204 - cFi S a 201 * o)) a 206 (-1)) a 207 e) a 208 u) a 209 o))) :=
  propext ⟨fun h => by
    simp only [spX1_setOut] at h
    obtain ⟨_, _, _, _, e, h⟩ := h
    simp only [List.cons.injEq, Value.int.injEq, Value.ref.injEq, rf_eq, and_true, true_and] at e
    obtain ⟨rfl, rfl, rfl, rfl⟩ := e
    exact h, fun h => ⟨_, _, _, _, rfl, h⟩⟩

set_option maxHeartbeats 4000000 in
set_option maxRecDepth 20000 in
theorem semX1_setOut (l : Launch) (hl : l.stackTraces = false) (W9 : xWd) : xSem l W9 (cI) yX1_setOut wsX1_setOut 0 0 (spX1_setOut W9) := by
  refine xSem_of (call := fun _ => none) (thrf := fun _ => "") cI_law (by decide +kernel) rfl ckX1_setOut usX1_setOut xCallsOK_nil xThrOK_nil ?_ ?_
  · intro av S KF h
    obtain ⟨a, e, u, o, rfl, h⟩ := h
    exact ⟨by intro v hv; simp only [List.mem_cons, List.not_mem_nil, or_false] at hv; rcases hv with rfl | rfl | rfl | rfl <;> first | rfl | exact cat_rf, Nat.le_of_ble_eq_true rfl⟩
  intro av S KF h G hG
  obtain ⟨a, e, u, o, rfl, h⟩ := h
  rw [show (spX1_setOut W9).1 _ S = _ from spcX1_setOut] at hG
  try dsimp only at hG
  change G 0 [some (.ref a), some (.int e), some (.int u), some (.int o)] [] S 0 0
  obtain ⟨hu, h0, h⟩ := h
  refine xgo0 hG (fun fu hfu => ?_)
  clear hG
  simp only [↓cg_2_1, ↓cg_2_4, ↓cp_2_4, ↓cp_2_6, ↓cp_2_7, ↓cp_2_8, ↓cp_2_9, ki_m1, ↓vm_aload_n, ↓vm_dup, ↓vm_getfield, ↓vm_iconst, ↓vm_iload_n, ↓vm_imul, ↓vm_isub, ↓vm_putfield, ↓vm_return_, ↓tbX1_setOut_0, ↓tbX1_setOut_1, ↓tbX1_setOut_2, ↓tbX1_setOut_5, ↓tbX1_setOut_6, ↓tbX1_setOut_9, ↓tbX1_setOut_10, ↓tbX1_setOut_11, ↓tbX1_setOut_12, ↓tbX1_setOut_15, ↓tbX1_setOut_16, ↓tbX1_setOut_17, ↓tbX1_setOut_20, ↓tbX1_setOut_21, ↓tbX1_setOut_22, ↓tbX1_setOut_25, ↓tbX1_setOut_26, ↓tbX1_setOut_27, ↓tbX1_setOut_30, ↓tbX1_setOut_31, ↓tbX1_setOut_32, ↓tbX1_setOut_35, hfu, xstep0, xJ1_hit, xJ1_go, xJ2_hit1, xJ2_hit2, xJ2_go, ↓xif_t, ↓xif_f, seval, ↓xca_eq, ↓xre_l, ↓xre_r, xmask_t, xmask_f, xmask_nil, ↓xst_eq, xX_eq, eI_eq, eMc_eq, eMs_eq, eF_eq, eThr_eq, ↓xS1_mk, ↓xSI_mk, ↓xSR_mk, ↓xLI_0, ↓xLI_s, ↓xLR_0, ↓xLR_s, vRef_ref, vRef_null, vRef_rf, cat_int, cat_ref, cat_null, cat_rf, rf_some, rf_none, rf_null, rf_eq, rf_ref, ref_rf, ref_null, ref_ref, xOk_0, xOk_1, xOk_2r, xOk_2n, xOk_2f, vOpt_rf, vOpt_ref, vOpt_null, List.set_cons_zero, List.set_cons_succ, List.take_succ_cons, List.take_zero, List.drop_succ_cons, List.drop_zero, List.reverse_cons, List.reverse_nil, List.nil_append, List.cons_append, List.append_nil, List.length_cons, List.length_nil, List.map_cons, List.map_nil, List.sum_cons, List.sum_nil, Option.toList_some, Option.toList_none, xRecv_mk, true_and, and_true, true_implies, Nat.reduceAdd, Nat.reduceLeDiff, Nat.zero_le, Nat.le_refl, Nat.add_zero, Nat.zero_add, reduceIte, not_true_eq_false, not_false_eq_true, false_implies, and_self, implies_true, eq_self, Nat.reduceEqDiff, List.cons.injEq, xsn_1, xsn_2, false_and, and_false, or_false, false_or, or_true, true_or, xsn_3, xsn_4, h0, hu, cK_setI]
  try simp only [xif_e]
  exact h

def tbX1_agreesWith : List (Nat × xHint) := [(0, .aload_n 0, 0, 0, 0, []), (1, .getfield 68, 2, 12, 0, []), (4, .iconst 1, 0, 0, 0, []), (5, .aload_n 1, 1, 0, 0, []), (6, .getfield 25, 2, 0, 0, []), (9, .ishl, 0, 0, 0, []), (10, .iand, 0, 0, 0, []), (11, .ifCond .eq 7, 18, 0, 0, []), (14, .iconst 1, 0, 0, 0, []), (15, .goto 4, 19, 0, 0, []), (18, .iconst 0, 0, 0, 0, []), (19, .ireturn, 1, 0, 0, [])]
def clX1_agreesWith : List (Instr × Nat × Nat × Nat) := []
def thX1_agreesWith : List (Nat × Nat) := []
theorem ckX1_agreesWith : tbX1_agreesWith.all (xRow RX1 cX1_agreesWith wsX1_agreesWith vwCl [2] clX1_agreesWith thX1_agreesWith 2 (yX1_agreesWith.name == "<init>") (some .boolean)) = true := xRow_q 0xac030400a7040700997e781900b42b044400b42a 20 (by decide +kernel) (by decide +kernel)
theorem usX1_agreesWith : xUse wsX1_agreesWith vwCl [2] = true := xUse_g rfl (lw_good lwl_X1_agreesWith lwl_X10 (by decide +kernel)) xUse_n
theorem tbX1_agreesWith_0 {k : Instr → Nat → Nat → Nat → List Nat → Prop} : xse (xFind tbX1_agreesWith 0) k = k (.aload_n 0) 0 0 0 [] := rfl
theorem tbX1_agreesWith_1 {k : Instr → Nat → Nat → Nat → List Nat → Prop} : xse (xFind tbX1_agreesWith 1) k = k (.getfield 68) 2 12 0 [] := rfl
theorem tbX1_agreesWith_4 {k : Instr → Nat → Nat → Nat → List Nat → Prop} : xse (xFind tbX1_agreesWith 4) k = k (.iconst 1) 0 0 0 [] := rfl
theorem tbX1_agreesWith_5 {k : Instr → Nat → Nat → Nat → List Nat → Prop} : xse (xFind tbX1_agreesWith 5) k = k (.aload_n 1) 1 0 0 [] := rfl
theorem tbX1_agreesWith_6 {k : Instr → Nat → Nat → Nat → List Nat → Prop} : xse (xFind tbX1_agreesWith 6) k = k (.getfield 25) 2 0 0 [] := rfl
theorem tbX1_agreesWith_9 {k : Instr → Nat → Nat → Nat → List Nat → Prop} : xse (xFind tbX1_agreesWith 9) k = k (.ishl) 0 0 0 [] := rfl
theorem tbX1_agreesWith_10 {k : Instr → Nat → Nat → Nat → List Nat → Prop} : xse (xFind tbX1_agreesWith 10) k = k (.iand) 0 0 0 [] := rfl
theorem tbX1_agreesWith_11 {k : Instr → Nat → Nat → Nat → List Nat → Prop} : xse (xFind tbX1_agreesWith 11) k = k (.ifCond .eq 7) 18 0 0 [] := rfl
theorem tbX1_agreesWith_14 {k : Instr → Nat → Nat → Nat → List Nat → Prop} : xse (xFind tbX1_agreesWith 14) k = k (.iconst 1) 0 0 0 [] := rfl
theorem tbX1_agreesWith_15 {k : Instr → Nat → Nat → Nat → List Nat → Prop} : xse (xFind tbX1_agreesWith 15) k = k (.goto 4) 19 0 0 [] := rfl
theorem tbX1_agreesWith_18 {k : Instr → Nat → Nat → Nat → List Nat → Prop} : xse (xFind tbX1_agreesWith 18) k = k (.iconst 0) 0 0 0 [] := rfl
theorem tbX1_agreesWith_19 {k : Instr → Nat → Nat → Nat → List Nat → Prop} : xse (xFind tbX1_agreesWith 19) k = k (.ireturn) 1 0 0 [] := rfl

def spX1_agreesWith (W9 : xWd) : xSp cS := (fun av S => (0, 0), fun av S K => ∃ (a : Nat) (b : Nat), av = [.ref a, .ref b] ∧ (cK S a = 3 ∧ cK S b = 3 ∧ K (rI (bi (¬ cFi S a 212 &&& 1 <<< (cFi S b 200 &&& 31) = 0))) S))
theorem spcX1_agreesWith {av : List Value} {S : cS} {W9 : xWd} : (spX1_agreesWith W9).1 av S = (0, 0) := rfl
theorem spwX1_agreesWith {S : cS} {W9 : xWd} {K : xRes → cS → Prop} {a : Nat} {b : Nat} : (spX1_agreesWith W9).2 [.ref a, .ref b] S K = (cK S a = 3 ∧ cK S b = 3 ∧ K (rI (bi (¬ cFi S a 212 &&& 1 <<< (cFi S b 200 &&& 31) = 0))) S) :=
  propext ⟨fun h => by
    simp only [spX1_agreesWith] at h
    obtain ⟨_, _, e, h⟩ := h
    simp only [List.cons.injEq, Value.int.injEq, Value.ref.injEq, rf_eq, and_true, true_and] at e
    obtain ⟨rfl, rfl⟩ := e
    exact h, fun h => ⟨_, _, rfl, h⟩⟩

set_option maxHeartbeats 4000000 in
set_option maxRecDepth 20000 in
theorem semX1_agreesWith (l : Launch) (hl : l.stackTraces = false) (W9 : xWd) : xSem l W9 (cI) yX1_agreesWith wsX1_agreesWith 0 0 (spX1_agreesWith W9) := by
  refine xSem_of (call := fun _ => none) (thrf := fun _ => "") cI_law (by decide +kernel) rfl ckX1_agreesWith usX1_agreesWith xCallsOK_nil xThrOK_nil ?_ ?_
  · intro av S KF h
    obtain ⟨a, b, rfl, h⟩ := h
    exact ⟨by intro v hv; simp only [List.mem_cons, List.not_mem_nil, or_false] at hv; rcases hv with rfl | rfl <;> first | rfl | exact cat_rf, Nat.le_of_ble_eq_true rfl⟩
  intro av S KF h G hG
  obtain ⟨a, b, rfl, h⟩ := h
  rw [show (spX1_agreesWith W9).1 _ S = _ from spcX1_agreesWith] at hG
  try dsimp only at hG
  change G 0 [some (.ref a), some (.ref b)] [] S 0 0
  obtain ⟨h0, h1, h⟩ := h
  refine xgo0 hG (fun fu hfu => ?_)
  clear hG
  simp only [↓cg_2_0, ↓cg_2_12, ki_0, ki_1, ↓vm_aload_n, ↓vm_getfield, ↓vm_goto, ↓vm_iand, ↓vm_iconst, ↓vm_ifCond_eq, ↓vm_ireturn, ↓vm_ishl, ↓tbX1_agreesWith_0, ↓tbX1_agreesWith_1, ↓tbX1_agreesWith_4, ↓tbX1_agreesWith_5, ↓tbX1_agreesWith_6, ↓tbX1_agreesWith_9, ↓tbX1_agreesWith_10, ↓tbX1_agreesWith_11, ↓tbX1_agreesWith_14, ↓tbX1_agreesWith_15, ↓tbX1_agreesWith_18, ↓tbX1_agreesWith_19, hfu, xstep0, xJ1_hit, xJ1_go, xJ2_hit1, xJ2_hit2, xJ2_go, ↓xif_t, ↓xif_f, seval, ↓xca_eq, ↓xre_l, ↓xre_r, xmask_t, xmask_f, xmask_nil, ↓xst_eq, xX_eq, eI_eq, eMc_eq, eMs_eq, eF_eq, eThr_eq, ↓xS1_mk, ↓xSI_mk, ↓xSR_mk, ↓xLI_0, ↓xLI_s, ↓xLR_0, ↓xLR_s, vRef_ref, vRef_null, vRef_rf, cat_int, cat_ref, cat_null, cat_rf, rf_some, rf_none, rf_null, rf_eq, rf_ref, ref_rf, ref_null, ref_ref, xOk_0, xOk_1, xOk_2r, xOk_2n, xOk_2f, vOpt_rf, vOpt_ref, vOpt_null, List.set_cons_zero, List.set_cons_succ, List.take_succ_cons, List.take_zero, List.drop_succ_cons, List.drop_zero, List.reverse_cons, List.reverse_nil, List.nil_append, List.cons_append, List.append_nil, List.length_cons, List.length_nil, List.map_cons, List.map_nil, List.sum_cons, List.sum_nil, Option.toList_some, Option.toList_none, xRecv_mk, true_and, and_true, true_implies, Nat.reduceAdd, Nat.reduceLeDiff, Nat.zero_le, Nat.le_refl, Nat.add_zero, Nat.zero_add, reduceIte, not_true_eq_false, not_false_eq_true, false_implies, and_self, implies_true, eq_self, Nat.reduceEqDiff, List.cons.injEq, xsn_1, xsn_2, false_and, and_false, or_false, false_or, or_true, true_or, xsn_3, xsn_4, h0, h1]
  try simp only [xif_e]
  grind [bi]

def tbX1_agree : List (Nat × xHint) := [(0, .iconst 1, 0, 0, 0, []), (1, .aload_n 1, 1, 0, 0, []), (2, .getfield 25, 2, 0, 0, []), (5, .ishl, 0, 0, 0, []), (6, .istore_n 3, 3, 0, 0, []), (7, .aload_n 0, 0, 0, 0, []), (8, .iload_n 2, 2, 0, 0, []), (9, .ifCond .eq 12, 21, 0, 0, []), (12, .aload_n 0, 0, 0, 0, []), (13, .getfield 68, 2, 12, 0, []), (16, .iload_n 3, 3, 0, 0, []), (17, .ior, 0, 0, 0, []), (18, .goto 11, 29, 0, 0, []), (21, .aload_n 0, 0, 0, 0, []), (22, .getfield 68, 2, 12, 0, []), (25, .iload_n 3, 3, 0, 0, []), (26, .iconst (-1), 0, 0, 0, []), (27, .ixor, 0, 0, 0, []), (28, .iand, 0, 0, 0, []), (29, .putfield 68, 2, 12, 0, []), (32, .return_, 0, 0, 0, [])]
def clX1_agree : List (Instr × Nat × Nat × Nat) := []
def thX1_agree : List (Nat × Nat) := []
theorem ckX1_agree : tbX1_agree.all (xRow RX1 cX1_agree wsX1_agree vwCl [2] clX1_agree thX1_agree 4 (yX1_agree.name == "<init>") none) = true := xRow_q 0xb14400b57e82021d4400b42a0b00a7801d4400b42a0c00991c2a3e781900b42b04 33 (by decide +kernel) (by decide +kernel)
theorem usX1_agree : xUse wsX1_agree vwCl [2] = true := xUse_g rfl (lw_good lwl_X1_agree lwl_X10 (by decide +kernel)) xUse_n
theorem tbX1_agree_0 {k : Instr → Nat → Nat → Nat → List Nat → Prop} : xse (xFind tbX1_agree 0) k = k (.iconst 1) 0 0 0 [] := rfl
theorem tbX1_agree_1 {k : Instr → Nat → Nat → Nat → List Nat → Prop} : xse (xFind tbX1_agree 1) k = k (.aload_n 1) 1 0 0 [] := rfl
theorem tbX1_agree_2 {k : Instr → Nat → Nat → Nat → List Nat → Prop} : xse (xFind tbX1_agree 2) k = k (.getfield 25) 2 0 0 [] := rfl
theorem tbX1_agree_5 {k : Instr → Nat → Nat → Nat → List Nat → Prop} : xse (xFind tbX1_agree 5) k = k (.ishl) 0 0 0 [] := rfl
theorem tbX1_agree_6 {k : Instr → Nat → Nat → Nat → List Nat → Prop} : xse (xFind tbX1_agree 6) k = k (.istore_n 3) 3 0 0 [] := rfl
theorem tbX1_agree_7 {k : Instr → Nat → Nat → Nat → List Nat → Prop} : xse (xFind tbX1_agree 7) k = k (.aload_n 0) 0 0 0 [] := rfl
theorem tbX1_agree_8 {k : Instr → Nat → Nat → Nat → List Nat → Prop} : xse (xFind tbX1_agree 8) k = k (.iload_n 2) 2 0 0 [] := rfl
theorem tbX1_agree_9 {k : Instr → Nat → Nat → Nat → List Nat → Prop} : xse (xFind tbX1_agree 9) k = k (.ifCond .eq 12) 21 0 0 [] := rfl
theorem tbX1_agree_12 {k : Instr → Nat → Nat → Nat → List Nat → Prop} : xse (xFind tbX1_agree 12) k = k (.aload_n 0) 0 0 0 [] := rfl
theorem tbX1_agree_13 {k : Instr → Nat → Nat → Nat → List Nat → Prop} : xse (xFind tbX1_agree 13) k = k (.getfield 68) 2 12 0 [] := rfl
theorem tbX1_agree_16 {k : Instr → Nat → Nat → Nat → List Nat → Prop} : xse (xFind tbX1_agree 16) k = k (.iload_n 3) 3 0 0 [] := rfl
theorem tbX1_agree_17 {k : Instr → Nat → Nat → Nat → List Nat → Prop} : xse (xFind tbX1_agree 17) k = k (.ior) 0 0 0 [] := rfl
theorem tbX1_agree_18 {k : Instr → Nat → Nat → Nat → List Nat → Prop} : xse (xFind tbX1_agree 18) k = k (.goto 11) 29 0 0 [] := rfl
theorem tbX1_agree_21 {k : Instr → Nat → Nat → Nat → List Nat → Prop} : xse (xFind tbX1_agree 21) k = k (.aload_n 0) 0 0 0 [] := rfl
theorem tbX1_agree_22 {k : Instr → Nat → Nat → Nat → List Nat → Prop} : xse (xFind tbX1_agree 22) k = k (.getfield 68) 2 12 0 [] := rfl
theorem tbX1_agree_25 {k : Instr → Nat → Nat → Nat → List Nat → Prop} : xse (xFind tbX1_agree 25) k = k (.iload_n 3) 3 0 0 [] := rfl
theorem tbX1_agree_26 {k : Instr → Nat → Nat → Nat → List Nat → Prop} : xse (xFind tbX1_agree 26) k = k (.iconst (-1)) 0 0 0 [] := rfl
theorem tbX1_agree_27 {k : Instr → Nat → Nat → Nat → List Nat → Prop} : xse (xFind tbX1_agree 27) k = k (.ixor) 0 0 0 [] := rfl
theorem tbX1_agree_28 {k : Instr → Nat → Nat → Nat → List Nat → Prop} : xse (xFind tbX1_agree 28) k = k (.iand) 0 0 0 [] := rfl
theorem tbX1_agree_29 {k : Instr → Nat → Nat → Nat → List Nat → Prop} : xse (xFind tbX1_agree 29) k = k (.putfield 68) 2 12 0 [] := rfl
theorem tbX1_agree_32 {k : Instr → Nat → Nat → Nat → List Nat → Prop} : xse (xFind tbX1_agree 32) k = k (.return_) 0 0 0 [] := rfl

def spX1_agree (W9 : xWd) : xSp cS := (fun av S => (0, 0), fun av S K => ∃ (a : Nat) (b : Nat) (u : Int32), av = [.ref a, .ref b, .int u] ∧ ((u = 0 ∨ u = 1) ∧ (cK S a = 3 ∧ cK S b = 3 ∧ K rV (cSetI S a 212 (if u = 0 then cFi S a 212 &&& (1 <<< (cFi S b 200 &&& 31) ^^^ -1) else cFi S a 212 ||| 1 <<< (cFi S b 200 &&& 31))))))
theorem spcX1_agree {av : List Value} {S : cS} {W9 : xWd} : (spX1_agree W9).1 av S = (0, 0) := rfl
theorem spwX1_agree {S : cS} {W9 : xWd} {K : xRes → cS → Prop} {a : Nat} {b : Nat} {u : Int32} : (spX1_agree W9).2 [.ref a, .ref b, .int u] S K = ((u = 0 ∨ u = 1) ∧ (cK S a = 3 ∧ cK S b = 3 ∧ K rV (cSetI S a 212 (if u = 0 then cFi S a 212 &&& (1 <<< (cFi S b 200 &&& 31) ^^^ -1) else cFi S a 212 ||| 1 <<< (cFi S b 200 &&& 31))))) :=
  propext ⟨fun h => by
    simp only [spX1_agree] at h
    obtain ⟨_, _, _, e, h⟩ := h
    simp only [List.cons.injEq, Value.int.injEq, Value.ref.injEq, rf_eq, and_true, true_and] at e
    obtain ⟨rfl, rfl, rfl⟩ := e
    exact h, fun h => ⟨_, _, _, rfl, h⟩⟩

set_option maxHeartbeats 4000000 in
set_option maxRecDepth 20000 in
theorem semX1_agree (l : Launch) (hl : l.stackTraces = false) (W9 : xWd) : xSem l W9 (cI) yX1_agree wsX1_agree 0 0 (spX1_agree W9) := by
  refine xSem_of (call := fun _ => none) (thrf := fun _ => "") cI_law (by decide +kernel) rfl ckX1_agree usX1_agree xCallsOK_nil xThrOK_nil ?_ ?_
  · intro av S KF h
    obtain ⟨a, b, u, rfl, h⟩ := h
    exact ⟨by intro v hv; simp only [List.mem_cons, List.not_mem_nil, or_false] at hv; rcases hv with rfl | rfl | rfl <;> first | rfl | exact cat_rf, Nat.le_of_ble_eq_true rfl⟩
  intro av S KF h G hG
  obtain ⟨a, b, u, rfl, h⟩ := h
  rw [show (spX1_agree W9).1 _ S = _ from spcX1_agree] at hG
  try dsimp only at hG
  change G 0 [some (.ref a), some (.ref b), some (.int u), none] [] S 0 0
  obtain ⟨hu, h0, h1, h⟩ := h
  refine xgo0 hG (fun fu hfu => ?_)
  clear hG
  simp only [↓cg_2_0, ↓cg_2_12, ↓cp_2_12, ki_1, ki_m1, ↓vm_aload_n, ↓vm_getfield, ↓vm_goto, ↓vm_iand, ↓vm_iconst, ↓vm_ifCond_eq, ↓vm_iload_n, ↓vm_ior, ↓vm_ishl, ↓vm_istore_n, ↓vm_ixor, ↓vm_putfield, ↓vm_return_, ↓tbX1_agree_0, ↓tbX1_agree_1, ↓tbX1_agree_2, ↓tbX1_agree_5, ↓tbX1_agree_6, ↓tbX1_agree_7, ↓tbX1_agree_8, ↓tbX1_agree_9, ↓tbX1_agree_12, ↓tbX1_agree_13, ↓tbX1_agree_16, ↓tbX1_agree_17, ↓tbX1_agree_18, ↓tbX1_agree_21, ↓tbX1_agree_22, ↓tbX1_agree_25, ↓tbX1_agree_26, ↓tbX1_agree_27, ↓tbX1_agree_28, ↓tbX1_agree_29, ↓tbX1_agree_32, hfu, xstep0, xJ1_hit, xJ1_go, xJ2_hit1, xJ2_hit2, xJ2_go, ↓xif_t, ↓xif_f, seval, ↓xca_eq, ↓xre_l, ↓xre_r, xmask_t, xmask_f, xmask_nil, ↓xst_eq, xX_eq, eI_eq, eMc_eq, eMs_eq, eF_eq, eThr_eq, ↓xS1_mk, ↓xSI_mk, ↓xSR_mk, ↓xLI_0, ↓xLI_s, ↓xLR_0, ↓xLR_s, vRef_ref, vRef_null, vRef_rf, cat_int, cat_ref, cat_null, cat_rf, rf_some, rf_none, rf_null, rf_eq, rf_ref, ref_rf, ref_null, ref_ref, xOk_0, xOk_1, xOk_2r, xOk_2n, xOk_2f, vOpt_rf, vOpt_ref, vOpt_null, List.set_cons_zero, List.set_cons_succ, List.take_succ_cons, List.take_zero, List.drop_succ_cons, List.drop_zero, List.reverse_cons, List.reverse_nil, List.nil_append, List.cons_append, List.append_nil, List.length_cons, List.length_nil, List.map_cons, List.map_nil, List.sum_cons, List.sum_nil, Option.toList_some, Option.toList_none, xRecv_mk, true_and, and_true, true_implies, Nat.reduceAdd, Nat.reduceLeDiff, Nat.zero_le, Nat.le_refl, Nat.add_zero, Nat.zero_add, reduceIte, not_true_eq_false, not_false_eq_true, false_implies, and_self, implies_true, eq_self, Nat.reduceEqDiff, List.cons.injEq, xsn_1, xsn_2, false_and, and_false, or_false, false_or, or_true, true_or, xsn_3, xsn_4, h0, h1, cK_setI]
  try simp only [xif_e]
  grind

def tbX1_earlierOf : List (Nat × xHint) := [(0, .aload_n 1, 1, 0, 0, []), (1, .ifnull 14, 15, 0, 0, []), (4, .aload_n 0, 0, 0, 0, []), (5, .getfield 62, 2, 11, 0, []), (8, .aload_n 1, 1, 0, 0, []), (9, .getfield 62, 2, 11, 0, []), (12, .if_icmp .ge 7, 19, 0, 0, []), (15, .aload_n 0, 0, 0, 0, []), (16, .goto 4, 20, 0, 0, []), (19, .aload_n 1, 1, 0, 0, []), (20, .areturn, 0, 0, 0, [])]
def clX1_earlierOf : List (Instr × Nat × Nat × Nat) := []
def thX1_earlierOf : List (Nat × Nat) := []
theorem ckX1_earlierOf : tbX1_earlierOf.all (xRow RX1 cX1_earlierOf wsX1_earlierOf vwCl [2] clX1_earlierOf thX1_earlierOf 2 (yX1_earlierOf.name == "<init>") (some (.object "Towmaster$Boat"))) = true := xRow_q 0xb02b0400a72a0700a23e00b42b3e00b42a0e00c62b 21 (by decide +kernel) (by decide +kernel)
theorem usX1_earlierOf : xUse wsX1_earlierOf vwCl [2] = true := xUse_g rfl (lw_good lwl_X1_earlierOf lwl_X10 (by decide +kernel)) xUse_n
theorem tbX1_earlierOf_0 {k : Instr → Nat → Nat → Nat → List Nat → Prop} : xse (xFind tbX1_earlierOf 0) k = k (.aload_n 1) 1 0 0 [] := rfl
theorem tbX1_earlierOf_1 {k : Instr → Nat → Nat → Nat → List Nat → Prop} : xse (xFind tbX1_earlierOf 1) k = k (.ifnull 14) 15 0 0 [] := rfl
theorem tbX1_earlierOf_4 {k : Instr → Nat → Nat → Nat → List Nat → Prop} : xse (xFind tbX1_earlierOf 4) k = k (.aload_n 0) 0 0 0 [] := rfl
theorem tbX1_earlierOf_5 {k : Instr → Nat → Nat → Nat → List Nat → Prop} : xse (xFind tbX1_earlierOf 5) k = k (.getfield 62) 2 11 0 [] := rfl
theorem tbX1_earlierOf_8 {k : Instr → Nat → Nat → Nat → List Nat → Prop} : xse (xFind tbX1_earlierOf 8) k = k (.aload_n 1) 1 0 0 [] := rfl
theorem tbX1_earlierOf_9 {k : Instr → Nat → Nat → Nat → List Nat → Prop} : xse (xFind tbX1_earlierOf 9) k = k (.getfield 62) 2 11 0 [] := rfl
theorem tbX1_earlierOf_12 {k : Instr → Nat → Nat → Nat → List Nat → Prop} : xse (xFind tbX1_earlierOf 12) k = k (.if_icmp .ge 7) 19 0 0 [] := rfl
theorem tbX1_earlierOf_15 {k : Instr → Nat → Nat → Nat → List Nat → Prop} : xse (xFind tbX1_earlierOf 15) k = k (.aload_n 0) 0 0 0 [] := rfl
theorem tbX1_earlierOf_16 {k : Instr → Nat → Nat → Nat → List Nat → Prop} : xse (xFind tbX1_earlierOf 16) k = k (.goto 4) 20 0 0 [] := rfl
theorem tbX1_earlierOf_19 {k : Instr → Nat → Nat → Nat → List Nat → Prop} : xse (xFind tbX1_earlierOf 19) k = k (.aload_n 1) 1 0 0 [] := rfl
theorem tbX1_earlierOf_20 {k : Instr → Nat → Nat → Nat → List Nat → Prop} : xse (xFind tbX1_earlierOf 20) k = k (.areturn) 0 0 0 [] := rfl

def spX1_earlierOf (W9 : xWd) : xSp cS := (fun av S => (0, 0), fun av S K => ∃ (a : Nat) (b : Option Nat), av = [.ref a, va_rf b] ∧ (cK S a = 3 ∧ (∀ c, b = some c → cK S c = 3) ∧ K (rF (match b with | none => some a | some c => if cFi S a 211 < cFi S c 211 then some a else some c)) S))
theorem spcX1_earlierOf {av : List Value} {S : cS} {W9 : xWd} : (spX1_earlierOf W9).1 av S = (0, 0) := rfl
theorem spwX1_earlierOf {S : cS} {W9 : xWd} {K : xRes → cS → Prop} {a : Nat} {b : Option Nat} : (spX1_earlierOf W9).2 [.ref a, va_rf b] S K = (cK S a = 3 ∧ (∀ c, b = some c → cK S c = 3) ∧ K (rF (match b with | none => some a | some c => if cFi S a 211 < cFi S c 211 then some a else some c)) S) :=
  propext ⟨fun h => by
    simp only [spX1_earlierOf] at h
    obtain ⟨_, _, e, h⟩ := h
    simp only [List.cons.injEq, Value.int.injEq, Value.ref.injEq, rf_eq, and_true, true_and] at e
    obtain ⟨rfl, rfl⟩ := e
    exact h, fun h => ⟨_, _, rfl, h⟩⟩

set_option maxHeartbeats 4000000 in
set_option maxRecDepth 20000 in
theorem semX1_earlierOf (l : Launch) (hl : l.stackTraces = false) (W9 : xWd) : xSem l W9 (cI) yX1_earlierOf wsX1_earlierOf 0 0 (spX1_earlierOf W9) := by
  refine xSem_of (call := fun _ => none) (thrf := fun _ => "") cI_law (by decide +kernel) rfl ckX1_earlierOf usX1_earlierOf xCallsOK_nil xThrOK_nil ?_ ?_
  · intro av S KF h
    obtain ⟨a, b, rfl, h⟩ := h
    exact ⟨by intro v hv; simp only [List.mem_cons, List.not_mem_nil, or_false] at hv; rcases hv with rfl | rfl <;> first | rfl | exact cat_rf, Nat.le_of_ble_eq_true rfl⟩
  intro av S KF h G hG
  obtain ⟨a, b, rfl, h⟩ := h
  rw [show (spX1_earlierOf W9).1 _ S = _ from spcX1_earlierOf] at hG
  try dsimp only at hG
  change G 0 [some (.ref a), some (va_rf b)] [] S 0 0
  obtain ⟨h0, h1, h⟩ := h

  cases b with
  | none =>
    refine xgo0 hG (fun fu hfu => ?_)
    simp only [↓cg_2_11, ↓vm_aload_n, ↓vm_areturn, ↓vm_getfield, ↓vm_goto, ↓vm_if_icmp_ge, ↓vm_ifnull, ↓tbX1_earlierOf_0, ↓tbX1_earlierOf_1, ↓tbX1_earlierOf_4, ↓tbX1_earlierOf_5, ↓tbX1_earlierOf_8, ↓tbX1_earlierOf_9, ↓tbX1_earlierOf_12, ↓tbX1_earlierOf_15, ↓tbX1_earlierOf_16, ↓tbX1_earlierOf_19, ↓tbX1_earlierOf_20, hfu, xstep0, xJ1_hit, xJ1_go, xJ2_hit1, xJ2_hit2, xJ2_go, ↓xif_t, ↓xif_f, seval, ↓xca_eq, ↓xre_l, ↓xre_r, xmask_t, xmask_f, xmask_nil, ↓xst_eq, xX_eq, eI_eq, eMc_eq, eMs_eq, eF_eq, eThr_eq, ↓xS1_mk, ↓xSI_mk, ↓xSR_mk, ↓xLI_0, ↓xLI_s, ↓xLR_0, ↓xLR_s, vRef_ref, vRef_null, vRef_rf, cat_int, cat_ref, cat_null, cat_rf, rf_some, rf_none, rf_null, rf_eq, rf_ref, ref_rf, ref_null, ref_ref, xOk_0, xOk_1, xOk_2r, xOk_2n, xOk_2f, vOpt_rf, vOpt_ref, vOpt_null, List.set_cons_zero, List.set_cons_succ, List.take_succ_cons, List.take_zero, List.drop_succ_cons, List.drop_zero, List.reverse_cons, List.reverse_nil, List.nil_append, List.cons_append, List.append_nil, List.length_cons, List.length_nil, List.map_cons, List.map_nil, List.sum_cons, List.sum_nil, Option.toList_some, Option.toList_none, xRecv_mk, true_and, and_true, true_implies, Nat.reduceAdd, Nat.reduceLeDiff, Nat.zero_le, Nat.le_refl, Nat.add_zero, Nat.zero_add, reduceIte, not_true_eq_false, not_false_eq_true, false_implies, and_self, implies_true, eq_self, Nat.reduceEqDiff, List.cons.injEq, xsn_1, xsn_2, false_and, and_false, or_false, false_or, or_true, true_or, xsn_3, xsn_4, h0]
    try simp only [xif_e]
    exact h
  | some c =>
    have h2 := h1 c rfl
    refine xgo0 hG (fun fu hfu => ?_)
    simp only [↓cg_2_11, ↓vm_aload_n, ↓vm_areturn, ↓vm_getfield, ↓vm_goto, ↓vm_if_icmp_ge, ↓vm_ifnull, ↓tbX1_earlierOf_0, ↓tbX1_earlierOf_1, ↓tbX1_earlierOf_4, ↓tbX1_earlierOf_5, ↓tbX1_earlierOf_8, ↓tbX1_earlierOf_9, ↓tbX1_earlierOf_12, ↓tbX1_earlierOf_15, ↓tbX1_earlierOf_16, ↓tbX1_earlierOf_19, ↓tbX1_earlierOf_20, hfu, xstep0, xJ1_hit, xJ1_go, xJ2_hit1, xJ2_hit2, xJ2_go, ↓xif_t, ↓xif_f, seval, ↓xca_eq, ↓xre_l, ↓xre_r, xmask_t, xmask_f, xmask_nil, ↓xst_eq, xX_eq, eI_eq, eMc_eq, eMs_eq, eF_eq, eThr_eq, ↓xS1_mk, ↓xSI_mk, ↓xSR_mk, ↓xLI_0, ↓xLI_s, ↓xLR_0, ↓xLR_s, vRef_ref, vRef_null, vRef_rf, cat_int, cat_ref, cat_null, cat_rf, rf_some, rf_none, rf_null, rf_eq, rf_ref, ref_rf, ref_null, ref_ref, xOk_0, xOk_1, xOk_2r, xOk_2n, xOk_2f, vOpt_rf, vOpt_ref, vOpt_null, List.set_cons_zero, List.set_cons_succ, List.take_succ_cons, List.take_zero, List.drop_succ_cons, List.drop_zero, List.reverse_cons, List.reverse_nil, List.nil_append, List.cons_append, List.append_nil, List.length_cons, List.length_nil, List.map_cons, List.map_nil, List.sum_cons, List.sum_nil, Option.toList_some, Option.toList_none, xRecv_mk, true_and, and_true, true_implies, Nat.reduceAdd, Nat.reduceLeDiff, Nat.zero_le, Nat.le_refl, Nat.add_zero, Nat.zero_add, reduceIte, not_true_eq_false, not_false_eq_true, false_implies, and_self, implies_true, eq_self, Nat.reduceEqDiff, List.cons.injEq, xsn_1, xsn_2, false_and, and_false, or_false, false_or, or_true, true_or, xsn_3, xsn_4, h0, h2]
    try simp only [xif_e]
    have h : KF (rF (if cFi S a 211 < cFi S c 211 then some a else some c)) S := h
    by_cases q : cFi S a 211 < cFi S c 211
    · rw [if_pos q] at h
      exact ⟨fun z => (Int32.lt_irrefl (Int32.lt_of_lt_of_le q z)).elim, fun _ => h⟩
    · rw [if_neg q] at h
      exact ⟨fun _ => h, fun z => absurd (Int32.not_lt.mp q) z⟩

def tbX5_becomeReach : List (Nat × xHint) := [(0, .aload_n 0, 0, 0, 0, []), (1, .iconst 0, 0, 0, 0, []), (2, .putfield 22, 6, 4, 1, []), (5, .aload_n 0, 0, 0, 0, []), (6, .iload_n 1, 1, 0, 0, []), (7, .putfield 13, 6, 5, 0, []), (10, .aload_n 0, 0, 0, 0, []), (11, .iload_n 2, 2, 0, 0, []), (12, .putfield 7, 6, 1, 0, []), (15, .aload_n 0, 0, 0, 0, []), (16, .iload_n 3, 3, 0, 0, []), (17, .putfield 16, 6, 6, 0, []), (20, .aload_n 0, 0, 0, 0, []), (21, .iload 4, 4, 0, 0, []), (23, .putfield 26, 6, 7, 1, []), (26, .return_, 0, 0, 0, [])]
def clX5_becomeReach : List (Instr × Nat × Nat × Nat) := []
def thX5_becomeReach : List (Nat × Nat) := []
theorem ckX5_becomeReach : tbX5_becomeReach.all (xRow RX5 cX5_becomeReach wsX5_becomeReach vwCl [6] clX5_becomeReach thX5_becomeReach 5 (yX5_becomeReach.name == "<init>") none) = true := xRow_q 0xb11a00b504152a1000b51d2a0700b51c2a0d00b51b2a1600b5032a 27 (by decide +kernel) (by decide +kernel)
theorem usX5_becomeReach : xUse wsX5_becomeReach vwCl [6] = true := xUse_g rfl (lw_good lwl_X5_becomeReach lwl_X50 (by decide +kernel)) xUse_n
theorem tbX5_becomeReach_0 {k : Instr → Nat → Nat → Nat → List Nat → Prop} : xse (xFind tbX5_becomeReach 0) k = k (.aload_n 0) 0 0 0 [] := rfl
theorem tbX5_becomeReach_1 {k : Instr → Nat → Nat → Nat → List Nat → Prop} : xse (xFind tbX5_becomeReach 1) k = k (.iconst 0) 0 0 0 [] := rfl
theorem tbX5_becomeReach_2 {k : Instr → Nat → Nat → Nat → List Nat → Prop} : xse (xFind tbX5_becomeReach 2) k = k (.putfield 22) 6 4 1 [] := rfl
theorem tbX5_becomeReach_5 {k : Instr → Nat → Nat → Nat → List Nat → Prop} : xse (xFind tbX5_becomeReach 5) k = k (.aload_n 0) 0 0 0 [] := rfl
theorem tbX5_becomeReach_6 {k : Instr → Nat → Nat → Nat → List Nat → Prop} : xse (xFind tbX5_becomeReach 6) k = k (.iload_n 1) 1 0 0 [] := rfl
theorem tbX5_becomeReach_7 {k : Instr → Nat → Nat → Nat → List Nat → Prop} : xse (xFind tbX5_becomeReach 7) k = k (.putfield 13) 6 5 0 [] := rfl
theorem tbX5_becomeReach_10 {k : Instr → Nat → Nat → Nat → List Nat → Prop} : xse (xFind tbX5_becomeReach 10) k = k (.aload_n 0) 0 0 0 [] := rfl
theorem tbX5_becomeReach_11 {k : Instr → Nat → Nat → Nat → List Nat → Prop} : xse (xFind tbX5_becomeReach 11) k = k (.iload_n 2) 2 0 0 [] := rfl
theorem tbX5_becomeReach_12 {k : Instr → Nat → Nat → Nat → List Nat → Prop} : xse (xFind tbX5_becomeReach 12) k = k (.putfield 7) 6 1 0 [] := rfl
theorem tbX5_becomeReach_15 {k : Instr → Nat → Nat → Nat → List Nat → Prop} : xse (xFind tbX5_becomeReach 15) k = k (.aload_n 0) 0 0 0 [] := rfl
theorem tbX5_becomeReach_16 {k : Instr → Nat → Nat → Nat → List Nat → Prop} : xse (xFind tbX5_becomeReach 16) k = k (.iload_n 3) 3 0 0 [] := rfl
theorem tbX5_becomeReach_17 {k : Instr → Nat → Nat → Nat → List Nat → Prop} : xse (xFind tbX5_becomeReach 17) k = k (.putfield 16) 6 6 0 [] := rfl
theorem tbX5_becomeReach_20 {k : Instr → Nat → Nat → Nat → List Nat → Prop} : xse (xFind tbX5_becomeReach 20) k = k (.aload_n 0) 0 0 0 [] := rfl
theorem tbX5_becomeReach_21 {k : Instr → Nat → Nat → Nat → List Nat → Prop} : xse (xFind tbX5_becomeReach 21) k = k (.iload 4) 4 0 0 [] := rfl
theorem tbX5_becomeReach_23 {k : Instr → Nat → Nat → Nat → List Nat → Prop} : xse (xFind tbX5_becomeReach 23) k = k (.putfield 26) 6 7 1 [] := rfl
theorem tbX5_becomeReach_26 {k : Instr → Nat → Nat → Nat → List Nat → Prop} : xse (xFind tbX5_becomeReach 26) k = k (.return_) 0 0 0 [] := rfl

def spX5_becomeReach (W9 : xWd) : xSp cS := (fun av S => (0, 0), fun av S K => ∃ (a : Nat) (ho : Int32) (d : Int32) (w : Int32) (z : Int32), av = [.ref a, .int ho, .int d, .int w, .int z] ∧ ((z = 0 ∨ z = 1) ∧ (cK S a = 7 ∧ K rV (cSetI (cSetI (cSetI (cSetI (cSetI S a 604 0) a 605 ho) a 601 d) a 606 w) a 607 z))))
theorem spcX5_becomeReach {av : List Value} {S : cS} {W9 : xWd} : (spX5_becomeReach W9).1 av S = (0, 0) := rfl
theorem spwX5_becomeReach {S : cS} {W9 : xWd} {K : xRes → cS → Prop} {a : Nat} {ho : Int32} {d : Int32} {w : Int32} {z : Int32} : (spX5_becomeReach W9).2 [.ref a, .int ho, .int d, .int w, .int z] S K = ((z = 0 ∨ z = 1) ∧ (cK S a = 7 ∧ K rV (cSetI (cSetI (cSetI (cSetI (cSetI S a 604 0) a 605 ho) a 601 d) a 606 w) a 607 z))) :=
  propext ⟨fun h => by
    simp only [spX5_becomeReach] at h
    obtain ⟨_, _, _, _, _, e, h⟩ := h
    simp only [List.cons.injEq, Value.int.injEq, Value.ref.injEq, rf_eq, and_true, true_and] at e
    obtain ⟨rfl, rfl, rfl, rfl, rfl⟩ := e
    exact h, fun h => ⟨_, _, _, _, _, rfl, h⟩⟩

set_option maxHeartbeats 4000000 in
set_option maxRecDepth 20000 in
theorem semX5_becomeReach (l : Launch) (hl : l.stackTraces = false) (W9 : xWd) : xSem l W9 (cI) yX5_becomeReach wsX5_becomeReach 0 0 (spX5_becomeReach W9) := by
  refine xSem_of (call := fun _ => none) (thrf := fun _ => "") cI_law (by decide +kernel) rfl ckX5_becomeReach usX5_becomeReach xCallsOK_nil xThrOK_nil ?_ ?_
  · intro av S KF h
    obtain ⟨a, ho, d, w, z, rfl, h⟩ := h
    exact ⟨by intro v hv; simp only [List.mem_cons, List.not_mem_nil, or_false] at hv; rcases hv with rfl | rfl | rfl | rfl | rfl <;> first | rfl | exact cat_rf, Nat.le_of_ble_eq_true rfl⟩
  intro av S KF h G hG
  obtain ⟨a, ho, d, w, z, rfl, h⟩ := h
  rw [show (spX5_becomeReach W9).1 _ S = _ from spcX5_becomeReach] at hG
  try dsimp only at hG
  change G 0 [some (.ref a), some (.int ho), some (.int d), some (.int w), some (.int z)] [] S 0 0
  obtain ⟨hz, h0, h⟩ := h
  refine xgo0 hG (fun fu hfu => ?_)
  clear hG
  simp only [↓cp_6_1, ↓cp_6_4, ↓cp_6_5, ↓cp_6_6, ↓cp_6_7, ki_0, ↓vm_aload_n, ↓vm_iconst, ↓vm_iload, ↓vm_iload_n, ↓vm_putfield, ↓vm_return_, ↓tbX5_becomeReach_0, ↓tbX5_becomeReach_1, ↓tbX5_becomeReach_2, ↓tbX5_becomeReach_5, ↓tbX5_becomeReach_6, ↓tbX5_becomeReach_7, ↓tbX5_becomeReach_10, ↓tbX5_becomeReach_11, ↓tbX5_becomeReach_12, ↓tbX5_becomeReach_15, ↓tbX5_becomeReach_16, ↓tbX5_becomeReach_17, ↓tbX5_becomeReach_20, ↓tbX5_becomeReach_21, ↓tbX5_becomeReach_23, ↓tbX5_becomeReach_26, hfu, xstep0, xJ1_hit, xJ1_go, xJ2_hit1, xJ2_hit2, xJ2_go, ↓xif_t, ↓xif_f, seval, ↓xca_eq, ↓xre_l, ↓xre_r, xmask_t, xmask_f, xmask_nil, ↓xst_eq, xX_eq, eI_eq, eMc_eq, eMs_eq, eF_eq, eThr_eq, ↓xS1_mk, ↓xSI_mk, ↓xSR_mk, ↓xLI_0, ↓xLI_s, ↓xLR_0, ↓xLR_s, vRef_ref, vRef_null, vRef_rf, cat_int, cat_ref, cat_null, cat_rf, rf_some, rf_none, rf_null, rf_eq, rf_ref, ref_rf, ref_null, ref_ref, xOk_0, xOk_1, xOk_2r, xOk_2n, xOk_2f, vOpt_rf, vOpt_ref, vOpt_null, List.set_cons_zero, List.set_cons_succ, List.take_succ_cons, List.take_zero, List.drop_succ_cons, List.drop_zero, List.reverse_cons, List.reverse_nil, List.nil_append, List.cons_append, List.append_nil, List.length_cons, List.length_nil, List.map_cons, List.map_nil, List.sum_cons, List.sum_nil, Option.toList_some, Option.toList_none, xRecv_mk, true_and, and_true, true_implies, Nat.reduceAdd, Nat.reduceLeDiff, Nat.zero_le, Nat.le_refl, Nat.add_zero, Nat.zero_add, reduceIte, not_true_eq_false, not_false_eq_true, false_implies, and_self, implies_true, eq_self, Nat.reduceEqDiff, List.cons.injEq, xsn_1, xsn_2, false_and, and_false, or_false, false_or, or_true, true_or, xsn_3, xsn_4, h0, hz, cK_setI]
  try simp only [xif_e]
  exact h

def tbX5_becomeLock : List (Nat × xHint) := [(0, .aload_n 0, 0, 0, 0, []), (1, .iconst 1, 0, 0, 0, []), (2, .putfield 22, 6, 4, 1, []), (5, .aload_n 0, 0, 0, 0, []), (6, .iconst 0, 0, 0, 0, []), (7, .putfield 26, 6, 7, 1, []), (10, .aload_n 0, 0, 0, 0, []), (11, .iload_n 1, 1, 0, 0, []), (12, .putfield 29, 6, 8, 0, []), (15, .aload_n 0, 0, 0, 0, []), (16, .iload_n 2, 2, 0, 0, []), (17, .putfield 32, 6, 9, 0, []), (20, .aload_n 0, 0, 0, 0, []), (21, .iload_n 3, 3, 0, 0, []), (22, .putfield 35, 6, 10, 1, []), (25, .aload_n 0, 0, 0, 0, []), (26, .iconst 0, 0, 0, 0, []), (27, .putfield 38, 6, 11, 1, []), (30, .aload_n 0, 0, 0, 0, []), (31, .iconst 0, 0, 0, 0, []), (32, .putfield 41, 6, 12, 0, []), (35, .return_, 0, 0, 0, [])]
def clX5_becomeLock : List (Instr × Nat × Nat × Nat) := []
def thX5_becomeLock : List (Nat × Nat) := []
theorem ckX5_becomeLock : tbX5_becomeLock.all (xRow RX5 cX5_becomeLock wsX5_becomeLock vwCl [6] clX5_becomeLock thX5_becomeLock 4 (yX5_becomeLock.name == "<init>") none) = true := xRow_q 0xb12900b5032a2600b5032a2300b51d2a2000b51c2a1d00b51b2a1a00b5032a1600b5042a 36 (by decide +kernel) (by decide +kernel)
theorem usX5_becomeLock : xUse wsX5_becomeLock vwCl [6] = true := xUse_g rfl (lw_good lwl_X5_becomeLock lwl_X50 (by decide +kernel)) xUse_n
theorem tbX5_becomeLock_0 {k : Instr → Nat → Nat → Nat → List Nat → Prop} : xse (xFind tbX5_becomeLock 0) k = k (.aload_n 0) 0 0 0 [] := rfl
theorem tbX5_becomeLock_1 {k : Instr → Nat → Nat → Nat → List Nat → Prop} : xse (xFind tbX5_becomeLock 1) k = k (.iconst 1) 0 0 0 [] := rfl
theorem tbX5_becomeLock_2 {k : Instr → Nat → Nat → Nat → List Nat → Prop} : xse (xFind tbX5_becomeLock 2) k = k (.putfield 22) 6 4 1 [] := rfl
theorem tbX5_becomeLock_5 {k : Instr → Nat → Nat → Nat → List Nat → Prop} : xse (xFind tbX5_becomeLock 5) k = k (.aload_n 0) 0 0 0 [] := rfl
theorem tbX5_becomeLock_6 {k : Instr → Nat → Nat → Nat → List Nat → Prop} : xse (xFind tbX5_becomeLock 6) k = k (.iconst 0) 0 0 0 [] := rfl
theorem tbX5_becomeLock_7 {k : Instr → Nat → Nat → Nat → List Nat → Prop} : xse (xFind tbX5_becomeLock 7) k = k (.putfield 26) 6 7 1 [] := rfl
theorem tbX5_becomeLock_10 {k : Instr → Nat → Nat → Nat → List Nat → Prop} : xse (xFind tbX5_becomeLock 10) k = k (.aload_n 0) 0 0 0 [] := rfl
theorem tbX5_becomeLock_11 {k : Instr → Nat → Nat → Nat → List Nat → Prop} : xse (xFind tbX5_becomeLock 11) k = k (.iload_n 1) 1 0 0 [] := rfl
theorem tbX5_becomeLock_12 {k : Instr → Nat → Nat → Nat → List Nat → Prop} : xse (xFind tbX5_becomeLock 12) k = k (.putfield 29) 6 8 0 [] := rfl
theorem tbX5_becomeLock_15 {k : Instr → Nat → Nat → Nat → List Nat → Prop} : xse (xFind tbX5_becomeLock 15) k = k (.aload_n 0) 0 0 0 [] := rfl
theorem tbX5_becomeLock_16 {k : Instr → Nat → Nat → Nat → List Nat → Prop} : xse (xFind tbX5_becomeLock 16) k = k (.iload_n 2) 2 0 0 [] := rfl
theorem tbX5_becomeLock_17 {k : Instr → Nat → Nat → Nat → List Nat → Prop} : xse (xFind tbX5_becomeLock 17) k = k (.putfield 32) 6 9 0 [] := rfl
theorem tbX5_becomeLock_20 {k : Instr → Nat → Nat → Nat → List Nat → Prop} : xse (xFind tbX5_becomeLock 20) k = k (.aload_n 0) 0 0 0 [] := rfl
theorem tbX5_becomeLock_21 {k : Instr → Nat → Nat → Nat → List Nat → Prop} : xse (xFind tbX5_becomeLock 21) k = k (.iload_n 3) 3 0 0 [] := rfl
theorem tbX5_becomeLock_22 {k : Instr → Nat → Nat → Nat → List Nat → Prop} : xse (xFind tbX5_becomeLock 22) k = k (.putfield 35) 6 10 1 [] := rfl
theorem tbX5_becomeLock_25 {k : Instr → Nat → Nat → Nat → List Nat → Prop} : xse (xFind tbX5_becomeLock 25) k = k (.aload_n 0) 0 0 0 [] := rfl
theorem tbX5_becomeLock_26 {k : Instr → Nat → Nat → Nat → List Nat → Prop} : xse (xFind tbX5_becomeLock 26) k = k (.iconst 0) 0 0 0 [] := rfl
theorem tbX5_becomeLock_27 {k : Instr → Nat → Nat → Nat → List Nat → Prop} : xse (xFind tbX5_becomeLock 27) k = k (.putfield 38) 6 11 1 [] := rfl
theorem tbX5_becomeLock_30 {k : Instr → Nat → Nat → Nat → List Nat → Prop} : xse (xFind tbX5_becomeLock 30) k = k (.aload_n 0) 0 0 0 [] := rfl
theorem tbX5_becomeLock_31 {k : Instr → Nat → Nat → Nat → List Nat → Prop} : xse (xFind tbX5_becomeLock 31) k = k (.iconst 0) 0 0 0 [] := rfl
theorem tbX5_becomeLock_32 {k : Instr → Nat → Nat → Nat → List Nat → Prop} : xse (xFind tbX5_becomeLock 32) k = k (.putfield 41) 6 12 0 [] := rfl
theorem tbX5_becomeLock_35 {k : Instr → Nat → Nat → Nat → List Nat → Prop} : xse (xFind tbX5_becomeLock 35) k = k (.return_) 0 0 0 [] := rfl

def spX5_becomeLock (W9 : xWd) : xSp cS := (fun av S => (0, 0), fun av S K => ∃ (a : Nat) (c : Int32) (t : Int32) (z : Int32), av = [.ref a, .int c, .int t, .int z] ∧ ((z = 0 ∨ z = 1) ∧ (cK S a = 7 ∧ K rV (cSetI (cSetI (cSetI (cSetI (cSetI (cSetI (cSetI S a 604 1) a 607 0) a 608 c) a 609 t) a 610 z) a 611 0) a 612 0))))
theorem spcX5_becomeLock {av : List Value} {S : cS} {W9 : xWd} : (spX5_becomeLock W9).1 av S = (0, 0) := rfl
theorem spwX5_becomeLock {S : cS} {W9 : xWd} {K : xRes → cS → Prop} {a : Nat} {c : Int32} {t : Int32} {z : Int32} : (spX5_becomeLock W9).2 [.ref a, .int c, .int t, .int z] S K = ((z = 0 ∨ z = 1) ∧ (cK S a = 7 ∧ K rV (cSetI (cSetI (cSetI (cSetI (cSetI (cSetI (cSetI S a 604 1) a 607 0) a 608 c) a 609 t) a 610 z) a 611 0) a 612 0))) :=
  propext ⟨fun h => by
    simp only [spX5_becomeLock] at h
    obtain ⟨_, _, _, _, e, h⟩ := h
    simp only [List.cons.injEq, Value.int.injEq, Value.ref.injEq, rf_eq, and_true, true_and] at e
    obtain ⟨rfl, rfl, rfl, rfl⟩ := e
    exact h, fun h => ⟨_, _, _, _, rfl, h⟩⟩

set_option maxHeartbeats 4000000 in
set_option maxRecDepth 20000 in
theorem semX5_becomeLock (l : Launch) (hl : l.stackTraces = false) (W9 : xWd) : xSem l W9 (cI) yX5_becomeLock wsX5_becomeLock 0 0 (spX5_becomeLock W9) := by
  refine xSem_of (call := fun _ => none) (thrf := fun _ => "") cI_law (by decide +kernel) rfl ckX5_becomeLock usX5_becomeLock xCallsOK_nil xThrOK_nil ?_ ?_
  · intro av S KF h
    obtain ⟨a, c, t, z, rfl, h⟩ := h
    exact ⟨by intro v hv; simp only [List.mem_cons, List.not_mem_nil, or_false] at hv; rcases hv with rfl | rfl | rfl | rfl <;> first | rfl | exact cat_rf, Nat.le_of_ble_eq_true rfl⟩
  intro av S KF h G hG
  obtain ⟨a, c, t, z, rfl, h⟩ := h
  rw [show (spX5_becomeLock W9).1 _ S = _ from spcX5_becomeLock] at hG
  try dsimp only at hG
  change G 0 [some (.ref a), some (.int c), some (.int t), some (.int z)] [] S 0 0
  obtain ⟨hz, h0, h⟩ := h
  refine xgo0 hG (fun fu hfu => ?_)
  clear hG
  simp only [↓cp_6_10, ↓cp_6_11, ↓cp_6_12, ↓cp_6_4, ↓cp_6_7, ↓cp_6_8, ↓cp_6_9, ki_0, ki_1, ↓vm_aload_n, ↓vm_iconst, ↓vm_iload_n, ↓vm_putfield, ↓vm_return_, ↓tbX5_becomeLock_0, ↓tbX5_becomeLock_1, ↓tbX5_becomeLock_2, ↓tbX5_becomeLock_5, ↓tbX5_becomeLock_6, ↓tbX5_becomeLock_7, ↓tbX5_becomeLock_10, ↓tbX5_becomeLock_11, ↓tbX5_becomeLock_12, ↓tbX5_becomeLock_15, ↓tbX5_becomeLock_16, ↓tbX5_becomeLock_17, ↓tbX5_becomeLock_20, ↓tbX5_becomeLock_21, ↓tbX5_becomeLock_22, ↓tbX5_becomeLock_25, ↓tbX5_becomeLock_26, ↓tbX5_becomeLock_27, ↓tbX5_becomeLock_30, ↓tbX5_becomeLock_31, ↓tbX5_becomeLock_32, ↓tbX5_becomeLock_35, hfu, xstep0, xJ1_hit, xJ1_go, xJ2_hit1, xJ2_hit2, xJ2_go, ↓xif_t, ↓xif_f, seval, ↓xca_eq, ↓xre_l, ↓xre_r, xmask_t, xmask_f, xmask_nil, ↓xst_eq, xX_eq, eI_eq, eMc_eq, eMs_eq, eF_eq, eThr_eq, ↓xS1_mk, ↓xSI_mk, ↓xSR_mk, ↓xLI_0, ↓xLI_s, ↓xLR_0, ↓xLR_s, vRef_ref, vRef_null, vRef_rf, cat_int, cat_ref, cat_null, cat_rf, rf_some, rf_none, rf_null, rf_eq, rf_ref, ref_rf, ref_null, ref_ref, xOk_0, xOk_1, xOk_2r, xOk_2n, xOk_2f, vOpt_rf, vOpt_ref, vOpt_null, List.set_cons_zero, List.set_cons_succ, List.take_succ_cons, List.take_zero, List.drop_succ_cons, List.drop_zero, List.reverse_cons, List.reverse_nil, List.nil_append, List.cons_append, List.append_nil, List.length_cons, List.length_nil, List.map_cons, List.map_nil, List.sum_cons, List.sum_nil, Option.toList_some, Option.toList_none, xRecv_mk, true_and, and_true, true_implies, Nat.reduceAdd, Nat.reduceLeDiff, Nat.zero_le, Nat.le_refl, Nat.add_zero, Nat.zero_add, reduceIte, not_true_eq_false, not_false_eq_true, false_implies, and_self, implies_true, eq_self, Nat.reduceEqDiff, List.cons.injEq, xsn_1, xsn_2, false_and, and_false, or_false, false_or, or_true, true_or, xsn_3, xsn_4, h0, hz, cK_setI]
  try simp only [xif_e]
  exact h

def tbX5_countEntry : List (Nat × xHint) := [(0, .aload_n 0, 0, 0, 0, []), (1, .iload_n 1, 1, 0, 0, []), (2, .aload_n 0, 0, 0, 0, []), (3, .getfield 38, 6, 11, 1, []), (6, .if_icmp .ne 12, 18, 0, 0, []), (9, .aload_n 0, 0, 0, 0, []), (10, .getfield 41, 6, 12, 0, []), (13, .iconst 1, 0, 0, 0, []), (14, .iadd, 0, 0, 0, []), (15, .goto 4, 19, 0, 0, []), (18, .iconst 1, 0, 0, 0, []), (19, .putfield 41, 6, 12, 0, []), (22, .aload_n 0, 0, 0, 0, []), (23, .iload_n 1, 1, 0, 0, []), (24, .putfield 38, 6, 11, 1, []), (27, .return_, 0, 0, 0, [])]
def clX5_countEntry : List (Instr × Nat × Nat × Nat) := []
def thX5_countEntry : List (Nat × Nat) := []
theorem ckX5_countEntry : tbX5_countEntry.all (xRow RX5 cX5_countEntry wsX5_countEntry vwCl [6] clX5_countEntry thX5_countEntry 2 (yX5_countEntry.name == "<init>") none) = true := xRow_q 0xb12600b51b2a2900b5040400a760042900b42a0c00a02600b42a1b2a 28 (by decide +kernel) (by decide +kernel)
theorem usX5_countEntry : xUse wsX5_countEntry vwCl [6] = true := xUse_g rfl (lw_good lwl_X5_countEntry lwl_X50 (by decide +kernel)) xUse_n
theorem tbX5_countEntry_0 {k : Instr → Nat → Nat → Nat → List Nat → Prop} : xse (xFind tbX5_countEntry 0) k = k (.aload_n 0) 0 0 0 [] := rfl
theorem tbX5_countEntry_1 {k : Instr → Nat → Nat → Nat → List Nat → Prop} : xse (xFind tbX5_countEntry 1) k = k (.iload_n 1) 1 0 0 [] := rfl
theorem tbX5_countEntry_2 {k : Instr → Nat → Nat → Nat → List Nat → Prop} : xse (xFind tbX5_countEntry 2) k = k (.aload_n 0) 0 0 0 [] := rfl
theorem tbX5_countEntry_3 {k : Instr → Nat → Nat → Nat → List Nat → Prop} : xse (xFind tbX5_countEntry 3) k = k (.getfield 38) 6 11 1 [] := rfl
theorem tbX5_countEntry_6 {k : Instr → Nat → Nat → Nat → List Nat → Prop} : xse (xFind tbX5_countEntry 6) k = k (.if_icmp .ne 12) 18 0 0 [] := rfl
theorem tbX5_countEntry_9 {k : Instr → Nat → Nat → Nat → List Nat → Prop} : xse (xFind tbX5_countEntry 9) k = k (.aload_n 0) 0 0 0 [] := rfl
theorem tbX5_countEntry_10 {k : Instr → Nat → Nat → Nat → List Nat → Prop} : xse (xFind tbX5_countEntry 10) k = k (.getfield 41) 6 12 0 [] := rfl
theorem tbX5_countEntry_13 {k : Instr → Nat → Nat → Nat → List Nat → Prop} : xse (xFind tbX5_countEntry 13) k = k (.iconst 1) 0 0 0 [] := rfl
theorem tbX5_countEntry_14 {k : Instr → Nat → Nat → Nat → List Nat → Prop} : xse (xFind tbX5_countEntry 14) k = k (.iadd) 0 0 0 [] := rfl
theorem tbX5_countEntry_15 {k : Instr → Nat → Nat → Nat → List Nat → Prop} : xse (xFind tbX5_countEntry 15) k = k (.goto 4) 19 0 0 [] := rfl
theorem tbX5_countEntry_18 {k : Instr → Nat → Nat → Nat → List Nat → Prop} : xse (xFind tbX5_countEntry 18) k = k (.iconst 1) 0 0 0 [] := rfl
theorem tbX5_countEntry_19 {k : Instr → Nat → Nat → Nat → List Nat → Prop} : xse (xFind tbX5_countEntry 19) k = k (.putfield 41) 6 12 0 [] := rfl
theorem tbX5_countEntry_22 {k : Instr → Nat → Nat → Nat → List Nat → Prop} : xse (xFind tbX5_countEntry 22) k = k (.aload_n 0) 0 0 0 [] := rfl
theorem tbX5_countEntry_23 {k : Instr → Nat → Nat → Nat → List Nat → Prop} : xse (xFind tbX5_countEntry 23) k = k (.iload_n 1) 1 0 0 [] := rfl
theorem tbX5_countEntry_24 {k : Instr → Nat → Nat → Nat → List Nat → Prop} : xse (xFind tbX5_countEntry 24) k = k (.putfield 38) 6 11 1 [] := rfl
theorem tbX5_countEntry_27 {k : Instr → Nat → Nat → Nat → List Nat → Prop} : xse (xFind tbX5_countEntry 27) k = k (.return_) 0 0 0 [] := rfl

def spX5_countEntry (W9 : xWd) : xSp cS := (fun av S => (0, 0), fun av S K => ∃ (a : Nat) (u : Int32), av = [.ref a, .int u] ∧ ((u = 0 ∨ u = 1) ∧ (cK S a = 7 ∧ K rV (cSetI (cSetI S a 612 (if u = cFi S a 611 then cFi S a 612 + 1 else 1)) a 611 u))))
theorem spcX5_countEntry {av : List Value} {S : cS} {W9 : xWd} : (spX5_countEntry W9).1 av S = (0, 0) := rfl
theorem spwX5_countEntry {S : cS} {W9 : xWd} {K : xRes → cS → Prop} {a : Nat} {u : Int32} : (spX5_countEntry W9).2 [.ref a, .int u] S K = ((u = 0 ∨ u = 1) ∧ (cK S a = 7 ∧ K rV (cSetI (cSetI S a 612 (if u = cFi S a 611 then cFi S a 612 + 1 else 1)) a 611 u))) :=
  propext ⟨fun h => by
    simp only [spX5_countEntry] at h
    obtain ⟨_, _, e, h⟩ := h
    simp only [List.cons.injEq, Value.int.injEq, Value.ref.injEq, rf_eq, and_true, true_and] at e
    obtain ⟨rfl, rfl⟩ := e
    exact h, fun h => ⟨_, _, rfl, h⟩⟩

set_option maxHeartbeats 4000000 in
set_option maxRecDepth 20000 in
theorem semX5_countEntry (l : Launch) (hl : l.stackTraces = false) (W9 : xWd) : xSem l W9 (cI) yX5_countEntry wsX5_countEntry 0 0 (spX5_countEntry W9) := by
  refine xSem_of (call := fun _ => none) (thrf := fun _ => "") cI_law (by decide +kernel) rfl ckX5_countEntry usX5_countEntry xCallsOK_nil xThrOK_nil ?_ ?_
  · intro av S KF h
    obtain ⟨a, u, rfl, h⟩ := h
    exact ⟨by intro v hv; simp only [List.mem_cons, List.not_mem_nil, or_false] at hv; rcases hv with rfl | rfl <;> first | rfl | exact cat_rf, Nat.le_of_ble_eq_true rfl⟩
  intro av S KF h G hG
  obtain ⟨a, u, rfl, h⟩ := h
  rw [show (spX5_countEntry W9).1 _ S = _ from spcX5_countEntry] at hG
  try dsimp only at hG
  change G 0 [some (.ref a), some (.int u)] [] S 0 0
  obtain ⟨hz, h0, h⟩ := h
  refine xgo0 hG (fun fu hfu => ?_)
  clear hG
  simp only [↓cg_6_11, ↓cg_6_12, ↓cp_6_11, ↓cp_6_12, ki_1, ↓vm_aload_n, ↓vm_getfield, ↓vm_goto, ↓vm_iadd, ↓vm_iconst, ↓vm_if_icmp_ne, ↓vm_iload_n, ↓vm_putfield, ↓vm_return_, ↓tbX5_countEntry_0, ↓tbX5_countEntry_1, ↓tbX5_countEntry_2, ↓tbX5_countEntry_3, ↓tbX5_countEntry_6, ↓tbX5_countEntry_9, ↓tbX5_countEntry_10, ↓tbX5_countEntry_13, ↓tbX5_countEntry_14, ↓tbX5_countEntry_15, ↓tbX5_countEntry_18, ↓tbX5_countEntry_19, ↓tbX5_countEntry_22, ↓tbX5_countEntry_23, ↓tbX5_countEntry_24, ↓tbX5_countEntry_27, hfu, xstep0, xJ1_hit, xJ1_go, xJ2_hit1, xJ2_hit2, xJ2_go, ↓xif_t, ↓xif_f, seval, ↓xca_eq, ↓xre_l, ↓xre_r, xmask_t, xmask_f, xmask_nil, ↓xst_eq, xX_eq, eI_eq, eMc_eq, eMs_eq, eF_eq, eThr_eq, ↓xS1_mk, ↓xSI_mk, ↓xSR_mk, ↓xLI_0, ↓xLI_s, ↓xLR_0, ↓xLR_s, vRef_ref, vRef_null, vRef_rf, cat_int, cat_ref, cat_null, cat_rf, rf_some, rf_none, rf_null, rf_eq, rf_ref, ref_rf, ref_null, ref_ref, xOk_0, xOk_1, xOk_2r, xOk_2n, xOk_2f, vOpt_rf, vOpt_ref, vOpt_null, List.set_cons_zero, List.set_cons_succ, List.take_succ_cons, List.take_zero, List.drop_succ_cons, List.drop_zero, List.reverse_cons, List.reverse_nil, List.nil_append, List.cons_append, List.append_nil, List.length_cons, List.length_nil, List.map_cons, List.map_nil, List.sum_cons, List.sum_nil, Option.toList_some, Option.toList_none, xRecv_mk, true_and, and_true, true_implies, Nat.reduceAdd, Nat.reduceLeDiff, Nat.zero_le, Nat.le_refl, Nat.add_zero, Nat.zero_add, reduceIte, not_true_eq_false, not_false_eq_true, false_implies, and_self, implies_true, eq_self, Nat.reduceEqDiff, List.cons.injEq, xsn_1, xsn_2, false_and, and_false, or_false, false_or, or_true, true_or, xsn_3, xsn_4, h0, hz, cK_setI]
  try simp only [xif_e]
  grind

def tbX5_hoursFor : List (Nat × xHint) := [(0, .aload_n 0, 0, 0, 0, []), (1, .getfield 22, 6, 4, 1, []), (4, .ifCond .ne 26, 30, 0, 0, []), (7, .aload_n 0, 0, 0, 0, []), (8, .getfield 53, 6, 2, 0, []), (11, .iload_n 2, 2, 0, 0, []), (12, .ifCond .eq 12, 24, 0, 0, []), (15, .iconst 2, 0, 0, 0, []), (16, .aload_n 0, 0, 0, 0, []), (17, .getfield 13, 6, 5, 0, []), (20, .imul, 0, 0, 0, []), (21, .goto 7, 28, 0, 0, []), (24, .aload_n 0, 0, 0, 0, []), (25, .getfield 13, 6, 5, 0, []), (28, .iadd, 0, 0, 0, []), (29, .ireturn, 0, 0, 0, []), (30, .iload_n 1, 1, 0, 0, []), (31, .aload_n 0, 0, 0, 0, []), (32, .getfield 29, 6, 8, 0, []), (35, .if_icmp .gt 10, 45, 0, 0, []), (38, .aload_n 0, 0, 0, 0, []), (39, .getfield 53, 6, 2, 0, []), (42, .iconst 1, 0, 0, 0, []), (43, .iadd, 0, 0, 0, []), (44, .ireturn, 0, 0, 0, []), (45, .aload_n 0, 0, 0, 0, []), (46, .getfield 53, 6, 2, 0, []), (49, .aload_n 0, 0, 0, 0, []), (50, .getfield 35, 6, 10, 1, []), (53, .ifCond .eq 7, 60, 0, 0, []), (56, .iconst 2, 0, 0, 0, []), (57, .goto 4, 61, 0, 0, []), (60, .iconst 3, 0, 0, 0, []), (61, .iadd, 0, 0, 0, []), (62, .ireturn, 0, 0, 0, [])]
def clX5_hoursFor : List (Instr × Nat × Nat × Nat) := []
def thX5_hoursFor : List (Nat × Nat) := []
theorem ckX5_hoursFor : tbX5_hoursFor.all (xRow RX5 cX5_hoursFor wsX5_hoursFor vwCl [6] clX5_hoursFor thX5_hoursFor 3 (yX5_hoursFor.name == "<init>") (some .int)) = true := xRow_q 0xac60060400a7050700992300b42a3500b42aac60043500b42a0a00a31d00b42a1bac600d00b42a0700a7680d00b42a050c00991c3500b42a1a009a1600b42a 63 (by decide +kernel) (by decide +kernel)
theorem usX5_hoursFor : xUse wsX5_hoursFor vwCl [6] = true := xUse_g rfl (lw_good lwl_X5_hoursFor lwl_X50 (by decide +kernel)) xUse_n
theorem tbX5_hoursFor_0 {k : Instr → Nat → Nat → Nat → List Nat → Prop} : xse (xFind tbX5_hoursFor 0) k = k (.aload_n 0) 0 0 0 [] := rfl
theorem tbX5_hoursFor_1 {k : Instr → Nat → Nat → Nat → List Nat → Prop} : xse (xFind tbX5_hoursFor 1) k = k (.getfield 22) 6 4 1 [] := rfl
theorem tbX5_hoursFor_4 {k : Instr → Nat → Nat → Nat → List Nat → Prop} : xse (xFind tbX5_hoursFor 4) k = k (.ifCond .ne 26) 30 0 0 [] := rfl
theorem tbX5_hoursFor_7 {k : Instr → Nat → Nat → Nat → List Nat → Prop} : xse (xFind tbX5_hoursFor 7) k = k (.aload_n 0) 0 0 0 [] := rfl
theorem tbX5_hoursFor_8 {k : Instr → Nat → Nat → Nat → List Nat → Prop} : xse (xFind tbX5_hoursFor 8) k = k (.getfield 53) 6 2 0 [] := rfl
theorem tbX5_hoursFor_11 {k : Instr → Nat → Nat → Nat → List Nat → Prop} : xse (xFind tbX5_hoursFor 11) k = k (.iload_n 2) 2 0 0 [] := rfl
theorem tbX5_hoursFor_12 {k : Instr → Nat → Nat → Nat → List Nat → Prop} : xse (xFind tbX5_hoursFor 12) k = k (.ifCond .eq 12) 24 0 0 [] := rfl
theorem tbX5_hoursFor_15 {k : Instr → Nat → Nat → Nat → List Nat → Prop} : xse (xFind tbX5_hoursFor 15) k = k (.iconst 2) 0 0 0 [] := rfl
theorem tbX5_hoursFor_16 {k : Instr → Nat → Nat → Nat → List Nat → Prop} : xse (xFind tbX5_hoursFor 16) k = k (.aload_n 0) 0 0 0 [] := rfl
theorem tbX5_hoursFor_17 {k : Instr → Nat → Nat → Nat → List Nat → Prop} : xse (xFind tbX5_hoursFor 17) k = k (.getfield 13) 6 5 0 [] := rfl
theorem tbX5_hoursFor_20 {k : Instr → Nat → Nat → Nat → List Nat → Prop} : xse (xFind tbX5_hoursFor 20) k = k (.imul) 0 0 0 [] := rfl
theorem tbX5_hoursFor_21 {k : Instr → Nat → Nat → Nat → List Nat → Prop} : xse (xFind tbX5_hoursFor 21) k = k (.goto 7) 28 0 0 [] := rfl
theorem tbX5_hoursFor_24 {k : Instr → Nat → Nat → Nat → List Nat → Prop} : xse (xFind tbX5_hoursFor 24) k = k (.aload_n 0) 0 0 0 [] := rfl
theorem tbX5_hoursFor_25 {k : Instr → Nat → Nat → Nat → List Nat → Prop} : xse (xFind tbX5_hoursFor 25) k = k (.getfield 13) 6 5 0 [] := rfl
theorem tbX5_hoursFor_28 {k : Instr → Nat → Nat → Nat → List Nat → Prop} : xse (xFind tbX5_hoursFor 28) k = k (.iadd) 0 0 0 [] := rfl
theorem tbX5_hoursFor_29 {k : Instr → Nat → Nat → Nat → List Nat → Prop} : xse (xFind tbX5_hoursFor 29) k = k (.ireturn) 0 0 0 [] := rfl
theorem tbX5_hoursFor_30 {k : Instr → Nat → Nat → Nat → List Nat → Prop} : xse (xFind tbX5_hoursFor 30) k = k (.iload_n 1) 1 0 0 [] := rfl
theorem tbX5_hoursFor_31 {k : Instr → Nat → Nat → Nat → List Nat → Prop} : xse (xFind tbX5_hoursFor 31) k = k (.aload_n 0) 0 0 0 [] := rfl
theorem tbX5_hoursFor_32 {k : Instr → Nat → Nat → Nat → List Nat → Prop} : xse (xFind tbX5_hoursFor 32) k = k (.getfield 29) 6 8 0 [] := rfl
theorem tbX5_hoursFor_35 {k : Instr → Nat → Nat → Nat → List Nat → Prop} : xse (xFind tbX5_hoursFor 35) k = k (.if_icmp .gt 10) 45 0 0 [] := rfl
theorem tbX5_hoursFor_38 {k : Instr → Nat → Nat → Nat → List Nat → Prop} : xse (xFind tbX5_hoursFor 38) k = k (.aload_n 0) 0 0 0 [] := rfl
theorem tbX5_hoursFor_39 {k : Instr → Nat → Nat → Nat → List Nat → Prop} : xse (xFind tbX5_hoursFor 39) k = k (.getfield 53) 6 2 0 [] := rfl
theorem tbX5_hoursFor_42 {k : Instr → Nat → Nat → Nat → List Nat → Prop} : xse (xFind tbX5_hoursFor 42) k = k (.iconst 1) 0 0 0 [] := rfl
theorem tbX5_hoursFor_43 {k : Instr → Nat → Nat → Nat → List Nat → Prop} : xse (xFind tbX5_hoursFor 43) k = k (.iadd) 0 0 0 [] := rfl
theorem tbX5_hoursFor_44 {k : Instr → Nat → Nat → Nat → List Nat → Prop} : xse (xFind tbX5_hoursFor 44) k = k (.ireturn) 0 0 0 [] := rfl
theorem tbX5_hoursFor_45 {k : Instr → Nat → Nat → Nat → List Nat → Prop} : xse (xFind tbX5_hoursFor 45) k = k (.aload_n 0) 0 0 0 [] := rfl
theorem tbX5_hoursFor_46 {k : Instr → Nat → Nat → Nat → List Nat → Prop} : xse (xFind tbX5_hoursFor 46) k = k (.getfield 53) 6 2 0 [] := rfl
theorem tbX5_hoursFor_49 {k : Instr → Nat → Nat → Nat → List Nat → Prop} : xse (xFind tbX5_hoursFor 49) k = k (.aload_n 0) 0 0 0 [] := rfl
theorem tbX5_hoursFor_50 {k : Instr → Nat → Nat → Nat → List Nat → Prop} : xse (xFind tbX5_hoursFor 50) k = k (.getfield 35) 6 10 1 [] := rfl
theorem tbX5_hoursFor_53 {k : Instr → Nat → Nat → Nat → List Nat → Prop} : xse (xFind tbX5_hoursFor 53) k = k (.ifCond .eq 7) 60 0 0 [] := rfl
theorem tbX5_hoursFor_56 {k : Instr → Nat → Nat → Nat → List Nat → Prop} : xse (xFind tbX5_hoursFor 56) k = k (.iconst 2) 0 0 0 [] := rfl
theorem tbX5_hoursFor_57 {k : Instr → Nat → Nat → Nat → List Nat → Prop} : xse (xFind tbX5_hoursFor 57) k = k (.goto 4) 61 0 0 [] := rfl
theorem tbX5_hoursFor_60 {k : Instr → Nat → Nat → Nat → List Nat → Prop} : xse (xFind tbX5_hoursFor 60) k = k (.iconst 3) 0 0 0 [] := rfl
theorem tbX5_hoursFor_61 {k : Instr → Nat → Nat → Nat → List Nat → Prop} : xse (xFind tbX5_hoursFor 61) k = k (.iadd) 0 0 0 [] := rfl
theorem tbX5_hoursFor_62 {k : Instr → Nat → Nat → Nat → List Nat → Prop} : xse (xFind tbX5_hoursFor 62) k = k (.ireturn) 0 0 0 [] := rfl

def spX5_hoursFor (W9 : xWd) : xSp cS := (fun av S => (0, 0), fun av S K => ∃ (a : Nat) (n : Int32) (u : Int32), av = [.ref a, .int n, .int u] ∧ ((u = 0 ∨ u = 1) ∧ (cK S a = 7 ∧ K (rI (if cFi S a 604 = 0 then cFi S a 602 + (if u = 0 then cFi S a 605 else 2 * cFi S a 605) else if n ≤ cFi S a 608 then cFi S a 602 + 1 else cFi S a 602 + (if cFi S a 610 = 0 then 3 else 2))) S)))
theorem spcX5_hoursFor {av : List Value} {S : cS} {W9 : xWd} : (spX5_hoursFor W9).1 av S = (0, 0) := rfl
theorem spwX5_hoursFor {S : cS} {W9 : xWd} {K : xRes → cS → Prop} {a : Nat} {n : Int32} {u : Int32} : (spX5_hoursFor W9).2 [.ref a, .int n, .int u] S K = ((u = 0 ∨ u = 1) ∧ (cK S a = 7 ∧ K (rI (if cFi S a 604 = 0 then cFi S a 602 + (if u = 0 then cFi S a 605 else 2 * cFi S a 605) else if n ≤ cFi S a 608 then cFi S a 602 + 1 else cFi S a 602 + (if cFi S a 610 = 0 then 3 else 2))) S)) :=
  propext ⟨fun h => by
    simp only [spX5_hoursFor] at h
    obtain ⟨_, _, _, e, h⟩ := h
    simp only [List.cons.injEq, Value.int.injEq, Value.ref.injEq, rf_eq, and_true, true_and] at e
    obtain ⟨rfl, rfl, rfl⟩ := e
    exact h, fun h => ⟨_, _, _, rfl, h⟩⟩

set_option maxHeartbeats 4000000 in
set_option maxRecDepth 20000 in
theorem semX5_hoursFor (l : Launch) (hl : l.stackTraces = false) (W9 : xWd) : xSem l W9 (cI) yX5_hoursFor wsX5_hoursFor 0 0 (spX5_hoursFor W9) := by
  refine xSem_of (call := fun _ => none) (thrf := fun _ => "") cI_law (by decide +kernel) rfl ckX5_hoursFor usX5_hoursFor xCallsOK_nil xThrOK_nil ?_ ?_
  · intro av S KF h
    obtain ⟨a, n, u, rfl, h⟩ := h
    exact ⟨by intro v hv; simp only [List.mem_cons, List.not_mem_nil, or_false] at hv; rcases hv with rfl | rfl | rfl <;> first | rfl | exact cat_rf, Nat.le_of_ble_eq_true rfl⟩
  intro av S KF h G hG
  obtain ⟨a, n, u, rfl, h⟩ := h
  rw [show (spX5_hoursFor W9).1 _ S = _ from spcX5_hoursFor] at hG
  try dsimp only at hG
  change G 0 [some (.ref a), some (.int n), some (.int u)] [] S 0 0
  obtain ⟨hz, h0, h⟩ := h
  refine xgo0 hG (fun fu hfu => ?_)
  clear hG
  simp only [↓cg_6_10, ↓cg_6_2, ↓cg_6_4, ↓cg_6_5, ↓cg_6_8, ki_1, ki_2, ki_3, ↓vm_aload_n, ↓vm_getfield, ↓vm_goto, ↓vm_iadd, ↓vm_iconst, ↓vm_ifCond_eq, ↓vm_ifCond_ne, ↓vm_if_icmp_gt, ↓vm_iload_n, ↓vm_imul, ↓vm_ireturn, ↓tbX5_hoursFor_0, ↓tbX5_hoursFor_1, ↓tbX5_hoursFor_4, ↓tbX5_hoursFor_7, ↓tbX5_hoursFor_8, ↓tbX5_hoursFor_11, ↓tbX5_hoursFor_12, ↓tbX5_hoursFor_15, ↓tbX5_hoursFor_16, ↓tbX5_hoursFor_17, ↓tbX5_hoursFor_20, ↓tbX5_hoursFor_21, ↓tbX5_hoursFor_24, ↓tbX5_hoursFor_25, ↓tbX5_hoursFor_28, ↓tbX5_hoursFor_29, ↓tbX5_hoursFor_30, ↓tbX5_hoursFor_31, ↓tbX5_hoursFor_32, ↓tbX5_hoursFor_35, ↓tbX5_hoursFor_38, ↓tbX5_hoursFor_39, ↓tbX5_hoursFor_42, ↓tbX5_hoursFor_43, ↓tbX5_hoursFor_44, ↓tbX5_hoursFor_45, ↓tbX5_hoursFor_46, ↓tbX5_hoursFor_49, ↓tbX5_hoursFor_50, ↓tbX5_hoursFor_53, ↓tbX5_hoursFor_56, ↓tbX5_hoursFor_57, ↓tbX5_hoursFor_60, ↓tbX5_hoursFor_61, ↓tbX5_hoursFor_62, hfu, xstep0, xJ1_hit, xJ1_go, xJ2_hit1, xJ2_hit2, xJ2_go, ↓xif_t, ↓xif_f, seval, ↓xca_eq, ↓xre_l, ↓xre_r, xmask_t, xmask_f, xmask_nil, ↓xst_eq, xX_eq, eI_eq, eMc_eq, eMs_eq, eF_eq, eThr_eq, ↓xS1_mk, ↓xSI_mk, ↓xSR_mk, ↓xLI_0, ↓xLI_s, ↓xLR_0, ↓xLR_s, vRef_ref, vRef_null, vRef_rf, cat_int, cat_ref, cat_null, cat_rf, rf_some, rf_none, rf_null, rf_eq, rf_ref, ref_rf, ref_null, ref_ref, xOk_0, xOk_1, xOk_2r, xOk_2n, xOk_2f, vOpt_rf, vOpt_ref, vOpt_null, List.set_cons_zero, List.set_cons_succ, List.take_succ_cons, List.take_zero, List.drop_succ_cons, List.drop_zero, List.reverse_cons, List.reverse_nil, List.nil_append, List.cons_append, List.append_nil, List.length_cons, List.length_nil, List.map_cons, List.map_nil, List.sum_cons, List.sum_nil, Option.toList_some, Option.toList_none, xRecv_mk, true_and, and_true, true_implies, Nat.reduceAdd, Nat.reduceLeDiff, Nat.zero_le, Nat.le_refl, Nat.add_zero, Nat.zero_add, reduceIte, not_true_eq_false, not_false_eq_true, false_implies, and_self, implies_true, eq_self, Nat.reduceEqDiff, List.cons.injEq, xsn_1, xsn_2, false_and, and_false, or_false, false_or, or_true, true_or, xsn_3, xsn_4, h0]
  try simp only [xif_e]
  grind

def tbX5_isTooSmallFor : List (Nat × xHint) := [(0, .aload_n 0, 0, 0, 0, []), (1, .getfield 22, 6, 4, 1, []), (4, .ifCond .eq 24, 28, 0, 0, []), (7, .aload_n 1, 1, 0, 0, []), (8, .invokevirtual 44, 0, 1, 5, []), (11, .iconst 2, 0, 0, 0, []), (12, .aload_n 0, 0, 0, 0, []), (13, .getfield 29, 6, 8, 0, []), (16, .imul, 0, 0, 0, []), (17, .if_icmp .le 7, 24, 0, 0, []), (20, .iconst 1, 0, 0, 0, []), (21, .goto 23, 44, 0, 0, []), (24, .iconst 0, 0, 0, 0, []), (25, .goto 19, 44, 0, 0, []), (28, .aload_n 1, 1, 0, 0, []), (29, .invokevirtual 50, 1, 1, 5, []), (32, .aload_n 0, 0, 0, 0, []), (33, .getfield 16, 6, 6, 0, []), (36, .if_icmp .le 7, 43, 0, 0, []), (39, .iconst 1, 0, 0, 0, []), (40, .goto 4, 44, 0, 0, []), (43, .iconst 0, 0, 0, 0, []), (44, .ireturn, 1, 0, 0, [])]
def clX5_isTooSmallFor : List (Instr × Nat × Nat × Nat) := [(.invokevirtual 44, 0, 1, 5), (.invokevirtual 50, 1, 1, 5)]
def thX5_isTooSmallFor : List (Nat × Nat) := []
theorem ckX5_isTooSmallFor : tbX5_isTooSmallFor.all (xRow RX5 cX5_isTooSmallFor wsX5_isTooSmallFor vwCl [6] clX5_isTooSmallFor thX5_isTooSmallFor 2 (yX5_isTooSmallFor.name == "<init>") (some .boolean)) = true := xRow_q 0xac030400a7040700a41000b42a3200b62b1300a7031700a7040700a4681d00b42a052c00b62b1800991600b42a 45 (by decide +kernel) (by decide +kernel)
theorem usX5_isTooSmallFor : xUse wsX5_isTooSmallFor vwCl [6] = true := xUse_g rfl (lw_good lwl_X5_isTooSmallFor lwl_X50 (by decide +kernel)) xUse_n
theorem tbX5_isTooSmallFor_0 {k : Instr → Nat → Nat → Nat → List Nat → Prop} : xse (xFind tbX5_isTooSmallFor 0) k = k (.aload_n 0) 0 0 0 [] := rfl
theorem tbX5_isTooSmallFor_1 {k : Instr → Nat → Nat → Nat → List Nat → Prop} : xse (xFind tbX5_isTooSmallFor 1) k = k (.getfield 22) 6 4 1 [] := rfl
theorem tbX5_isTooSmallFor_4 {k : Instr → Nat → Nat → Nat → List Nat → Prop} : xse (xFind tbX5_isTooSmallFor 4) k = k (.ifCond .eq 24) 28 0 0 [] := rfl
theorem tbX5_isTooSmallFor_7 {k : Instr → Nat → Nat → Nat → List Nat → Prop} : xse (xFind tbX5_isTooSmallFor 7) k = k (.aload_n 1) 1 0 0 [] := rfl
theorem tbX5_isTooSmallFor_8 {k : Instr → Nat → Nat → Nat → List Nat → Prop} : xse (xFind tbX5_isTooSmallFor 8) k = k (.invokevirtual 44) 0 1 5 [] := rfl
theorem tbX5_isTooSmallFor_11 {k : Instr → Nat → Nat → Nat → List Nat → Prop} : xse (xFind tbX5_isTooSmallFor 11) k = k (.iconst 2) 0 0 0 [] := rfl
theorem tbX5_isTooSmallFor_12 {k : Instr → Nat → Nat → Nat → List Nat → Prop} : xse (xFind tbX5_isTooSmallFor 12) k = k (.aload_n 0) 0 0 0 [] := rfl
theorem tbX5_isTooSmallFor_13 {k : Instr → Nat → Nat → Nat → List Nat → Prop} : xse (xFind tbX5_isTooSmallFor 13) k = k (.getfield 29) 6 8 0 [] := rfl
theorem tbX5_isTooSmallFor_16 {k : Instr → Nat → Nat → Nat → List Nat → Prop} : xse (xFind tbX5_isTooSmallFor 16) k = k (.imul) 0 0 0 [] := rfl
theorem tbX5_isTooSmallFor_17 {k : Instr → Nat → Nat → Nat → List Nat → Prop} : xse (xFind tbX5_isTooSmallFor 17) k = k (.if_icmp .le 7) 24 0 0 [] := rfl
theorem tbX5_isTooSmallFor_20 {k : Instr → Nat → Nat → Nat → List Nat → Prop} : xse (xFind tbX5_isTooSmallFor 20) k = k (.iconst 1) 0 0 0 [] := rfl
theorem tbX5_isTooSmallFor_21 {k : Instr → Nat → Nat → Nat → List Nat → Prop} : xse (xFind tbX5_isTooSmallFor 21) k = k (.goto 23) 44 0 0 [] := rfl
theorem tbX5_isTooSmallFor_24 {k : Instr → Nat → Nat → Nat → List Nat → Prop} : xse (xFind tbX5_isTooSmallFor 24) k = k (.iconst 0) 0 0 0 [] := rfl
theorem tbX5_isTooSmallFor_25 {k : Instr → Nat → Nat → Nat → List Nat → Prop} : xse (xFind tbX5_isTooSmallFor 25) k = k (.goto 19) 44 0 0 [] := rfl
theorem tbX5_isTooSmallFor_28 {k : Instr → Nat → Nat → Nat → List Nat → Prop} : xse (xFind tbX5_isTooSmallFor 28) k = k (.aload_n 1) 1 0 0 [] := rfl
theorem tbX5_isTooSmallFor_29 {k : Instr → Nat → Nat → Nat → List Nat → Prop} : xse (xFind tbX5_isTooSmallFor 29) k = k (.invokevirtual 50) 1 1 5 [] := rfl
theorem tbX5_isTooSmallFor_32 {k : Instr → Nat → Nat → Nat → List Nat → Prop} : xse (xFind tbX5_isTooSmallFor 32) k = k (.aload_n 0) 0 0 0 [] := rfl
theorem tbX5_isTooSmallFor_33 {k : Instr → Nat → Nat → Nat → List Nat → Prop} : xse (xFind tbX5_isTooSmallFor 33) k = k (.getfield 16) 6 6 0 [] := rfl
theorem tbX5_isTooSmallFor_36 {k : Instr → Nat → Nat → Nat → List Nat → Prop} : xse (xFind tbX5_isTooSmallFor 36) k = k (.if_icmp .le 7) 43 0 0 [] := rfl
theorem tbX5_isTooSmallFor_39 {k : Instr → Nat → Nat → Nat → List Nat → Prop} : xse (xFind tbX5_isTooSmallFor 39) k = k (.iconst 1) 0 0 0 [] := rfl
theorem tbX5_isTooSmallFor_40 {k : Instr → Nat → Nat → Nat → List Nat → Prop} : xse (xFind tbX5_isTooSmallFor 40) k = k (.goto 4) 44 0 0 [] := rfl
theorem tbX5_isTooSmallFor_43 {k : Instr → Nat → Nat → Nat → List Nat → Prop} : xse (xFind tbX5_isTooSmallFor 43) k = k (.iconst 0) 0 0 0 [] := rfl
theorem tbX5_isTooSmallFor_44 {k : Instr → Nat → Nat → Nat → List Nat → Prop} : xse (xFind tbX5_isTooSmallFor 44) k = k (.ireturn) 1 0 0 [] := rfl

def spX5_isTooSmallFor (W9 : xWd) : xSp cS := (fun av S => (0, 0), fun av S K => ∃ (a : Nat) (w : Nat), av = [.ref a, .ref w] ∧ (cK S a = 7 ∧ rOk S w ∧ K (rI (bi (if cFi S a 604 = 0 then cFi S a 606 < rMax 1 (rMin (cFi S w 504) (nI (rN S w))) else 2 * cFi S a 608 < nI (rN S w)))) S))
theorem spcX5_isTooSmallFor {av : List Value} {S : cS} {W9 : xWd} : (spX5_isTooSmallFor W9).1 av S = (0, 0) := rfl
theorem spwX5_isTooSmallFor {S : cS} {W9 : xWd} {K : xRes → cS → Prop} {a : Nat} {w : Nat} : (spX5_isTooSmallFor W9).2 [.ref a, .ref w] S K = (cK S a = 7 ∧ rOk S w ∧ K (rI (bi (if cFi S a 604 = 0 then cFi S a 606 < rMax 1 (rMin (cFi S w 504) (nI (rN S w))) else 2 * cFi S a 608 < nI (rN S w)))) S) :=
  propext ⟨fun h => by
    simp only [spX5_isTooSmallFor] at h
    obtain ⟨_, _, e, h⟩ := h
    simp only [List.cons.injEq, Value.int.injEq, Value.ref.injEq, rf_eq, and_true, true_and] at e
    obtain ⟨rfl, rfl⟩ := e
    exact h, fun h => ⟨_, _, rfl, h⟩⟩

def callX5_isTooSmallFor (W9 : xWd) : Nat → Option (xSp cS) := fun n => match n with | 0 => some (spX4_size W9) | 1 => some (spX4_breadth W9) | _ => none

theorem callX5_isTooSmallFor_0 {W9 : xWd} {k : xSp cS → Prop} : xcs (callX5_isTooSmallFor W9 0) k = k (spX4_size W9) := rfl

theorem callX5_isTooSmallFor_1 {W9 : xWd} {k : xSp cS → Prop} : xcs (callX5_isTooSmallFor W9 1) k = k (spX4_breadth W9) := rfl

theorem crX5_isTooSmallFor (l : Launch) (hl : l.stackTraces = false) (W9 : xWd) : xCallsOK l W9 (cI) (callX5_isTooSmallFor W9) clX5_isTooSmallFor RX5 wsX5_isTooSmallFor 2 41 2 := by
  intro E A p e R s m args below meth c hI hF hL X
  exact List.forall_mem_cons.mpr ⟨⟨_, rfl, xCR_V X (by rw [hI]; exact (semX4_size l hl W9)) gX5_isTooSmallFor_X4_size rfl rfl (by decide +kernel) (by rw [hF, hL]; decide)⟩,
    List.forall_mem_cons.mpr ⟨⟨_, rfl, xCR_V X (by rw [hI]; exact (semX4_breadth l hl W9)) gX5_isTooSmallFor_X4_breadth rfl rfl (by decide +kernel) (by rw [hF, hL]; decide)⟩,
    fun _ h => nomatch h⟩⟩

set_option maxHeartbeats 4000000 in
set_option maxRecDepth 20000 in
theorem semX5_isTooSmallFor (l : Launch) (hl : l.stackTraces = false) (W9 : xWd) : xSem l W9 (cI) yX5_isTooSmallFor wsX5_isTooSmallFor 2 41 (spX5_isTooSmallFor W9) := by
  refine xSem_of (call := callX5_isTooSmallFor W9) (thrf := fun _ => "") cI_law (by decide +kernel) rfl ckX5_isTooSmallFor usX5_isTooSmallFor (crX5_isTooSmallFor l hl W9) xThrOK_nil ?_ ?_
  · intro av S KF h
    obtain ⟨a, w, rfl, h⟩ := h
    exact ⟨by intro v hv; simp only [List.mem_cons, List.not_mem_nil, or_false] at hv; rcases hv with rfl | rfl <;> first | rfl | exact cat_rf, Nat.le_of_ble_eq_true rfl⟩
  intro av S KF h G hG
  obtain ⟨a, w, rfl, h⟩ := h
  rw [show (spX5_isTooSmallFor W9).1 _ S = _ from spcX5_isTooSmallFor] at hG
  try dsimp only at hG
  change G 0 [some (.ref a), some (.ref w)] [] S 0 0
  obtain ⟨h0, hR, h⟩ := h
  obtain ⟨f1, f2, f3, f4, f5, f6⟩ := rOk_facts hR
  have f7 : cRf S w 505 = rL S w := rfl
  have f8 := hR.2.1
  refine xgo0 hG (fun fu hfu => ?_)
  clear hG
  simp only [↓callX5_isTooSmallFor_0, ↓callX5_isTooSmallFor_1, ↓cg_6_4, ↓cg_6_6, ↓cg_6_8, cisa, ki_0, ki_1, ki_2, ↓vm_aload_n, ↓vm_getfield, ↓vm_goto, ↓vm_iconst, ↓vm_ifCond_eq, ↓vm_if_icmp_le, ↓vm_imul, ↓vm_invokevirtual, ↓vm_ireturn, ↓xc_1, ↓tbX5_isTooSmallFor_0, ↓tbX5_isTooSmallFor_1, ↓tbX5_isTooSmallFor_4, ↓tbX5_isTooSmallFor_7, ↓tbX5_isTooSmallFor_8, ↓tbX5_isTooSmallFor_11, ↓tbX5_isTooSmallFor_12, ↓tbX5_isTooSmallFor_13, ↓tbX5_isTooSmallFor_16, ↓tbX5_isTooSmallFor_17, ↓tbX5_isTooSmallFor_20, ↓tbX5_isTooSmallFor_21, ↓tbX5_isTooSmallFor_24, ↓tbX5_isTooSmallFor_25, ↓tbX5_isTooSmallFor_28, ↓tbX5_isTooSmallFor_29, ↓tbX5_isTooSmallFor_32, ↓tbX5_isTooSmallFor_33, ↓tbX5_isTooSmallFor_36, ↓tbX5_isTooSmallFor_39, ↓tbX5_isTooSmallFor_40, ↓tbX5_isTooSmallFor_43, ↓tbX5_isTooSmallFor_44, hfu, xstep0, xJ1_hit, xJ1_go, xJ2_hit1, xJ2_hit2, xJ2_go, ↓xif_t, ↓xif_f, seval, ↓xca_eq, ↓xre_l, ↓xre_r, xmask_t, xmask_f, xmask_nil, ↓xst_eq, xX_eq, eI_eq, eMc_eq, eMs_eq, eF_eq, eThr_eq, ↓xS1_mk, ↓xSI_mk, ↓xSR_mk, ↓xLI_0, ↓xLI_s, ↓xLR_0, ↓xLR_s, vRef_ref, vRef_null, vRef_rf, cat_int, cat_ref, cat_null, cat_rf, rf_some, rf_none, rf_null, rf_eq, rf_ref, ref_rf, ref_null, ref_ref, xOk_0, xOk_1, xOk_2r, xOk_2n, xOk_2f, vOpt_rf, vOpt_ref, vOpt_null, List.set_cons_zero, List.set_cons_succ, List.take_succ_cons, List.take_zero, List.drop_succ_cons, List.drop_zero, List.reverse_cons, List.reverse_nil, List.nil_append, List.cons_append, List.append_nil, List.length_cons, List.length_nil, List.map_cons, List.map_nil, List.sum_cons, List.sum_nil, Option.toList_some, Option.toList_none, xRecv_mk, true_and, and_true, true_implies, Nat.reduceAdd, Nat.reduceLeDiff, Nat.zero_le, Nat.le_refl, Nat.add_zero, Nat.zero_add, reduceIte, not_true_eq_false, not_false_eq_true, false_implies, and_self, implies_true, eq_self, Nat.reduceEqDiff, List.cons.injEq, xsn_1, xsn_2, false_and, and_false, or_false, false_or, or_true, true_or, xsn_3, xsn_4, h0, hR, f1, f8, f7, f5, ↓spwX4_size, spcX4_size, ↓spwX4_breadth, spcX4_breadth]
  try simp only [xif_e]
  grind [bi]

def tbX2_ship : List (Nat × xHint) := [(0, .aload_n 0, 0, 0, 0, []), (1, .dup, 0, 0, 0, []), (2, .getfield 22, 3, 4, 0, []), (5, .iload_n 1, 1, 0, 0, []), (6, .isub, 0, 0, 0, []), (7, .putfield 22, 3, 4, 0, []), (10, .aload_n 0, 0, 0, 0, []), (11, .dup, 0, 0, 0, []), (12, .getfield 31, 3, 7, 0, []), (15, .iload_n 1, 1, 0, 0, []), (16, .iadd, 0, 0, 0, []), (17, .putfield 31, 3, 7, 0, []), (20, .return_, 0, 0, 0, [])]
def clX2_ship : List (Instr × Nat × Nat × Nat) := []
def thX2_ship : List (Nat × Nat) := []
theorem ckX2_ship : tbX2_ship.all (xRow RX2 cX2_ship wsX2_ship vwCl [3] clX2_ship thX2_ship 2 (yX2_ship.name == "<init>") none) = true := xRow_q 0xb11f00b5601b1f00b4592a1600b5641b1600b4592a 21 (by decide +kernel) (by decide +kernel)
theorem usX2_ship : xUse wsX2_ship vwCl [3] = true := xUse_g rfl (lw_good lwl_X2_ship lwl_X20 (by decide +kernel)) xUse_n
theorem tbX2_ship_0 {k : Instr → Nat → Nat → Nat → List Nat → Prop} : xse (xFind tbX2_ship 0) k = k (.aload_n 0) 0 0 0 [] := rfl
theorem tbX2_ship_1 {k : Instr → Nat → Nat → Nat → List Nat → Prop} : xse (xFind tbX2_ship 1) k = k (.dup) 0 0 0 [] := rfl
theorem tbX2_ship_2 {k : Instr → Nat → Nat → Nat → List Nat → Prop} : xse (xFind tbX2_ship 2) k = k (.getfield 22) 3 4 0 [] := rfl
theorem tbX2_ship_5 {k : Instr → Nat → Nat → Nat → List Nat → Prop} : xse (xFind tbX2_ship 5) k = k (.iload_n 1) 1 0 0 [] := rfl
theorem tbX2_ship_6 {k : Instr → Nat → Nat → Nat → List Nat → Prop} : xse (xFind tbX2_ship 6) k = k (.isub) 0 0 0 [] := rfl
theorem tbX2_ship_7 {k : Instr → Nat → Nat → Nat → List Nat → Prop} : xse (xFind tbX2_ship 7) k = k (.putfield 22) 3 4 0 [] := rfl
theorem tbX2_ship_10 {k : Instr → Nat → Nat → Nat → List Nat → Prop} : xse (xFind tbX2_ship 10) k = k (.aload_n 0) 0 0 0 [] := rfl
theorem tbX2_ship_11 {k : Instr → Nat → Nat → Nat → List Nat → Prop} : xse (xFind tbX2_ship 11) k = k (.dup) 0 0 0 [] := rfl
theorem tbX2_ship_12 {k : Instr → Nat → Nat → Nat → List Nat → Prop} : xse (xFind tbX2_ship 12) k = k (.getfield 31) 3 7 0 [] := rfl
theorem tbX2_ship_15 {k : Instr → Nat → Nat → Nat → List Nat → Prop} : xse (xFind tbX2_ship 15) k = k (.iload_n 1) 1 0 0 [] := rfl
theorem tbX2_ship_16 {k : Instr → Nat → Nat → Nat → List Nat → Prop} : xse (xFind tbX2_ship 16) k = k (.iadd) 0 0 0 [] := rfl
theorem tbX2_ship_17 {k : Instr → Nat → Nat → Nat → List Nat → Prop} : xse (xFind tbX2_ship 17) k = k (.putfield 31) 3 7 0 [] := rfl
theorem tbX2_ship_20 {k : Instr → Nat → Nat → Nat → List Nat → Prop} : xse (xFind tbX2_ship 20) k = k (.return_) 0 0 0 [] := rfl

def spX2_ship (W9 : xWd) : xSp cS := (fun av S => (0, 0), fun av S K => ∃ (a : Nat) (u : Int32), av = [.ref a, .int u] ∧ (cK S a = 4 ∧ K rV (cSetI (cSetI S a 304 (cFi S a 304 - u)) a 307 (cFi S a 307 + u))))
theorem spcX2_ship {av : List Value} {S : cS} {W9 : xWd} : (spX2_ship W9).1 av S = (0, 0) := rfl
theorem spwX2_ship {S : cS} {W9 : xWd} {K : xRes → cS → Prop} {a : Nat} {u : Int32} : (spX2_ship W9).2 [.ref a, .int u] S K = (cK S a = 4 ∧ K rV (cSetI (cSetI S a 304 (cFi S a 304 - u)) a 307 (cFi S a 307 + u))) :=
  propext ⟨fun h => by
    simp only [spX2_ship] at h
    obtain ⟨_, _, e, h⟩ := h
    simp only [List.cons.injEq, Value.int.injEq, Value.ref.injEq, rf_eq, and_true, true_and] at e
    obtain ⟨rfl, rfl⟩ := e
    exact h, fun h => ⟨_, _, rfl, h⟩⟩

set_option maxHeartbeats 4000000 in
set_option maxRecDepth 20000 in
theorem semX2_ship (l : Launch) (hl : l.stackTraces = false) (W9 : xWd) : xSem l W9 (cI) yX2_ship wsX2_ship 0 0 (spX2_ship W9) := by
  refine xSem_of (call := fun _ => none) (thrf := fun _ => "") cI_law (by decide +kernel) rfl ckX2_ship usX2_ship xCallsOK_nil xThrOK_nil ?_ ?_
  · intro av S KF h
    obtain ⟨a, u, rfl, h⟩ := h
    exact ⟨by intro v hv; simp only [List.mem_cons, List.not_mem_nil, or_false] at hv; rcases hv with rfl | rfl <;> first | rfl | exact cat_rf, Nat.le_of_ble_eq_true rfl⟩
  intro av S KF h G hG
  obtain ⟨a, u, rfl, h⟩ := h
  rw [show (spX2_ship W9).1 _ S = _ from spcX2_ship] at hG
  try dsimp only at hG
  change G 0 [some (.ref a), some (.int u)] [] S 0 0
  obtain ⟨h0, h⟩ := h
  refine xgo0 hG (fun fu hfu => ?_)
  clear hG
  simp only [↓cg_3_4, ↓cg_3_7, ↓cp_3_4, ↓cp_3_7, ↓vm_aload_n, ↓vm_dup, ↓vm_getfield, ↓vm_iadd, ↓vm_iload_n, ↓vm_isub, ↓vm_putfield, ↓vm_return_, ↓tbX2_ship_0, ↓tbX2_ship_1, ↓tbX2_ship_2, ↓tbX2_ship_5, ↓tbX2_ship_6, ↓tbX2_ship_7, ↓tbX2_ship_10, ↓tbX2_ship_11, ↓tbX2_ship_12, ↓tbX2_ship_15, ↓tbX2_ship_16, ↓tbX2_ship_17, ↓tbX2_ship_20, hfu, xstep0, xJ1_hit, xJ1_go, xJ2_hit1, xJ2_hit2, xJ2_go, ↓xif_t, ↓xif_f, seval, ↓xca_eq, ↓xre_l, ↓xre_r, xmask_t, xmask_f, xmask_nil, ↓xst_eq, xX_eq, eI_eq, eMc_eq, eMs_eq, eF_eq, eThr_eq, ↓xS1_mk, ↓xSI_mk, ↓xSR_mk, ↓xLI_0, ↓xLI_s, ↓xLR_0, ↓xLR_s, vRef_ref, vRef_null, vRef_rf, cat_int, cat_ref, cat_null, cat_rf, rf_some, rf_none, rf_null, rf_eq, rf_ref, ref_rf, ref_null, ref_ref, xOk_0, xOk_1, xOk_2r, xOk_2n, xOk_2f, vOpt_rf, vOpt_ref, vOpt_null, List.set_cons_zero, List.set_cons_succ, List.take_succ_cons, List.take_zero, List.drop_succ_cons, List.drop_zero, List.reverse_cons, List.reverse_nil, List.nil_append, List.cons_append, List.append_nil, List.length_cons, List.length_nil, List.map_cons, List.map_nil, List.sum_cons, List.sum_nil, Option.toList_some, Option.toList_none, xRecv_mk, true_and, and_true, true_implies, Nat.reduceAdd, Nat.reduceLeDiff, Nat.zero_le, Nat.le_refl, Nat.add_zero, Nat.zero_add, reduceIte, not_true_eq_false, not_false_eq_true, false_implies, and_self, implies_true, eq_self, Nat.reduceEqDiff, List.cons.injEq, xsn_1, xsn_2, false_and, and_false, or_false, false_or, or_true, true_or, xsn_3, xsn_4, h0, cK_setI, cFi_setI]
  try simp only [xif_e]
  exact h

def cPay (S : cS) (a : Nat) (u o : Int32) : Int32 := u * (10 * (if 0 ≤ cFi S a 303 - cFi S a 302 then cFi S a 303 - cFi S a 302 else 0 - (cFi S a 303 - cFi S a 302)) * cFi S a 306 / 100 + 5 * cFi S a 310 - (if 0 < o - cFi S a 305 then o - cFi S a 305 else 0))

def tbX2_deliver : List (Nat × xHint) := [(0, .iconst 0, 0, 0, 0, []), (1, .iload_n 2, 2, 0, 0, []), (2, .aload_n 0, 0, 0, 0, []), (3, .getfield 25, 3, 5, 0, []), (6, .isub, 0, 0, 0, []), (7, .invokestatic 34, 0, 2, 0, []), (10, .istore_n 3, 3, 0, 0, []), (11, .iload_n 1, 1, 0, 0, []), (12, .bipush 10, 0, 0, 0, []), (14, .aload_n 0, 0, 0, 0, []), (15, .getfield 19, 3, 3, 0, []), (18, .aload_n 0, 0, 0, 0, []), (19, .getfield 16, 3, 2, 0, []), (22, .isub, 0, 0, 0, []), (23, .invokestatic 40, 1, 1, 0, []), (26, .imul, 0, 0, 0, []), (27, .aload_n 0, 0, 0, 0, []), (28, .getfield 28, 3, 6, 0, []), (31, .imul, 0, 0, 0, []), (32, .bipush 100, 0, 0, 0, []), (34, .idiv, 0, 0, 0, []), (35, .iconst 5, 0, 0, 0, []), (36, .aload_n 0, 0, 0, 0, []), (37, .getfield 44, 3, 10, 0, []), (40, .imul, 0, 0, 0, []), (41, .iadd, 0, 0, 0, []), (42, .iload_n 3, 3, 0, 0, []), (43, .isub, 0, 0, 0, []), (44, .imul, 0, 0, 0, []), (45, .istore 4, 4, 0, 0, []), (47, .aload_n 0, 0, 0, 0, []), (48, .dup, 0, 0, 0, []), (49, .getfield 31, 3, 7, 0, []), (52, .iload_n 1, 1, 0, 0, []), (53, .isub, 0, 0, 0, []), (54, .putfield 31, 3, 7, 0, []), (57, .aload_n 0, 0, 0, 0, []), (58, .dup, 0, 0, 0, []), (59, .getfield 47, 3, 8, 0, []), (62, .iload_n 1, 1, 0, 0, []), (63, .iadd, 0, 0, 0, []), (64, .putfield 47, 3, 8, 0, []), (67, .aload_n 0, 0, 0, 0, []), (68, .dup, 0, 0, 0, []), (69, .getfield 50, 3, 9, 0, []), (72, .iload 4, 4, 0, 0, []), (74, .iadd, 0, 0, 0, []), (75, .putfield 50, 3, 9, 0, []), (78, .iload 4, 4, 0, 0, []), (80, .ireturn, 0, 0, 0, [])]
def clX2_deliver : List (Instr × Nat × Nat × Nat) := [(.invokestatic 34, 0, 2, 0), (.invokestatic 40, 1, 1, 0)]
def thX2_deliver : List (Nat × Nat) := []
theorem ckX2_deliver : tbX2_deliver.all (xRow RX2 cX2_deliver wsX2_deliver vwCl [3] clX2_deliver thX2_deliver 5 (yX2_deliver.name == "<init>") (some .int)) = true := xRow_q 0xac04153200b56004153200b4592a2f00b5601b2f00b4592a1f00b5641b1f00b4592a043668641d60682c00b42a086c6410681c00b42a682800b8641000b42a1300b42a0a101b3e2200b8641900b42a1c03 81 (by decide +kernel) (by decide +kernel)
theorem usX2_deliver : xUse wsX2_deliver vwCl [3] = true := xUse_g rfl (lw_good lwl_X2_deliver lwl_X20 (by decide +kernel)) xUse_n
theorem tbX2_deliver_0 {k : Instr → Nat → Nat → Nat → List Nat → Prop} : xse (xFind tbX2_deliver 0) k = k (.iconst 0) 0 0 0 [] := rfl
theorem tbX2_deliver_1 {k : Instr → Nat → Nat → Nat → List Nat → Prop} : xse (xFind tbX2_deliver 1) k = k (.iload_n 2) 2 0 0 [] := rfl
theorem tbX2_deliver_2 {k : Instr → Nat → Nat → Nat → List Nat → Prop} : xse (xFind tbX2_deliver 2) k = k (.aload_n 0) 0 0 0 [] := rfl
theorem tbX2_deliver_3 {k : Instr → Nat → Nat → Nat → List Nat → Prop} : xse (xFind tbX2_deliver 3) k = k (.getfield 25) 3 5 0 [] := rfl
theorem tbX2_deliver_6 {k : Instr → Nat → Nat → Nat → List Nat → Prop} : xse (xFind tbX2_deliver 6) k = k (.isub) 0 0 0 [] := rfl
theorem tbX2_deliver_7 {k : Instr → Nat → Nat → Nat → List Nat → Prop} : xse (xFind tbX2_deliver 7) k = k (.invokestatic 34) 0 2 0 [] := rfl
theorem tbX2_deliver_10 {k : Instr → Nat → Nat → Nat → List Nat → Prop} : xse (xFind tbX2_deliver 10) k = k (.istore_n 3) 3 0 0 [] := rfl
theorem tbX2_deliver_11 {k : Instr → Nat → Nat → Nat → List Nat → Prop} : xse (xFind tbX2_deliver 11) k = k (.iload_n 1) 1 0 0 [] := rfl
theorem tbX2_deliver_12 {k : Instr → Nat → Nat → Nat → List Nat → Prop} : xse (xFind tbX2_deliver 12) k = k (.bipush 10) 0 0 0 [] := rfl
theorem tbX2_deliver_14 {k : Instr → Nat → Nat → Nat → List Nat → Prop} : xse (xFind tbX2_deliver 14) k = k (.aload_n 0) 0 0 0 [] := rfl
theorem tbX2_deliver_15 {k : Instr → Nat → Nat → Nat → List Nat → Prop} : xse (xFind tbX2_deliver 15) k = k (.getfield 19) 3 3 0 [] := rfl
theorem tbX2_deliver_18 {k : Instr → Nat → Nat → Nat → List Nat → Prop} : xse (xFind tbX2_deliver 18) k = k (.aload_n 0) 0 0 0 [] := rfl
theorem tbX2_deliver_19 {k : Instr → Nat → Nat → Nat → List Nat → Prop} : xse (xFind tbX2_deliver 19) k = k (.getfield 16) 3 2 0 [] := rfl
theorem tbX2_deliver_22 {k : Instr → Nat → Nat → Nat → List Nat → Prop} : xse (xFind tbX2_deliver 22) k = k (.isub) 0 0 0 [] := rfl
theorem tbX2_deliver_23 {k : Instr → Nat → Nat → Nat → List Nat → Prop} : xse (xFind tbX2_deliver 23) k = k (.invokestatic 40) 1 1 0 [] := rfl
theorem tbX2_deliver_26 {k : Instr → Nat → Nat → Nat → List Nat → Prop} : xse (xFind tbX2_deliver 26) k = k (.imul) 0 0 0 [] := rfl
theorem tbX2_deliver_27 {k : Instr → Nat → Nat → Nat → List Nat → Prop} : xse (xFind tbX2_deliver 27) k = k (.aload_n 0) 0 0 0 [] := rfl
theorem tbX2_deliver_28 {k : Instr → Nat → Nat → Nat → List Nat → Prop} : xse (xFind tbX2_deliver 28) k = k (.getfield 28) 3 6 0 [] := rfl
theorem tbX2_deliver_31 {k : Instr → Nat → Nat → Nat → List Nat → Prop} : xse (xFind tbX2_deliver 31) k = k (.imul) 0 0 0 [] := rfl
theorem tbX2_deliver_32 {k : Instr → Nat → Nat → Nat → List Nat → Prop} : xse (xFind tbX2_deliver 32) k = k (.bipush 100) 0 0 0 [] := rfl
theorem tbX2_deliver_34 {k : Instr → Nat → Nat → Nat → List Nat → Prop} : xse (xFind tbX2_deliver 34) k = k (.idiv) 0 0 0 [] := rfl
theorem tbX2_deliver_35 {k : Instr → Nat → Nat → Nat → List Nat → Prop} : xse (xFind tbX2_deliver 35) k = k (.iconst 5) 0 0 0 [] := rfl
theorem tbX2_deliver_36 {k : Instr → Nat → Nat → Nat → List Nat → Prop} : xse (xFind tbX2_deliver 36) k = k (.aload_n 0) 0 0 0 [] := rfl
theorem tbX2_deliver_37 {k : Instr → Nat → Nat → Nat → List Nat → Prop} : xse (xFind tbX2_deliver 37) k = k (.getfield 44) 3 10 0 [] := rfl
theorem tbX2_deliver_40 {k : Instr → Nat → Nat → Nat → List Nat → Prop} : xse (xFind tbX2_deliver 40) k = k (.imul) 0 0 0 [] := rfl
theorem tbX2_deliver_41 {k : Instr → Nat → Nat → Nat → List Nat → Prop} : xse (xFind tbX2_deliver 41) k = k (.iadd) 0 0 0 [] := rfl
theorem tbX2_deliver_42 {k : Instr → Nat → Nat → Nat → List Nat → Prop} : xse (xFind tbX2_deliver 42) k = k (.iload_n 3) 3 0 0 [] := rfl
theorem tbX2_deliver_43 {k : Instr → Nat → Nat → Nat → List Nat → Prop} : xse (xFind tbX2_deliver 43) k = k (.isub) 0 0 0 [] := rfl
theorem tbX2_deliver_44 {k : Instr → Nat → Nat → Nat → List Nat → Prop} : xse (xFind tbX2_deliver 44) k = k (.imul) 0 0 0 [] := rfl
theorem tbX2_deliver_45 {k : Instr → Nat → Nat → Nat → List Nat → Prop} : xse (xFind tbX2_deliver 45) k = k (.istore 4) 4 0 0 [] := rfl
theorem tbX2_deliver_47 {k : Instr → Nat → Nat → Nat → List Nat → Prop} : xse (xFind tbX2_deliver 47) k = k (.aload_n 0) 0 0 0 [] := rfl
theorem tbX2_deliver_48 {k : Instr → Nat → Nat → Nat → List Nat → Prop} : xse (xFind tbX2_deliver 48) k = k (.dup) 0 0 0 [] := rfl
theorem tbX2_deliver_49 {k : Instr → Nat → Nat → Nat → List Nat → Prop} : xse (xFind tbX2_deliver 49) k = k (.getfield 31) 3 7 0 [] := rfl
theorem tbX2_deliver_52 {k : Instr → Nat → Nat → Nat → List Nat → Prop} : xse (xFind tbX2_deliver 52) k = k (.iload_n 1) 1 0 0 [] := rfl
theorem tbX2_deliver_53 {k : Instr → Nat → Nat → Nat → List Nat → Prop} : xse (xFind tbX2_deliver 53) k = k (.isub) 0 0 0 [] := rfl
theorem tbX2_deliver_54 {k : Instr → Nat → Nat → Nat → List Nat → Prop} : xse (xFind tbX2_deliver 54) k = k (.putfield 31) 3 7 0 [] := rfl
theorem tbX2_deliver_57 {k : Instr → Nat → Nat → Nat → List Nat → Prop} : xse (xFind tbX2_deliver 57) k = k (.aload_n 0) 0 0 0 [] := rfl
theorem tbX2_deliver_58 {k : Instr → Nat → Nat → Nat → List Nat → Prop} : xse (xFind tbX2_deliver 58) k = k (.dup) 0 0 0 [] := rfl
theorem tbX2_deliver_59 {k : Instr → Nat → Nat → Nat → List Nat → Prop} : xse (xFind tbX2_deliver 59) k = k (.getfield 47) 3 8 0 [] := rfl
theorem tbX2_deliver_62 {k : Instr → Nat → Nat → Nat → List Nat → Prop} : xse (xFind tbX2_deliver 62) k = k (.iload_n 1) 1 0 0 [] := rfl
theorem tbX2_deliver_63 {k : Instr → Nat → Nat → Nat → List Nat → Prop} : xse (xFind tbX2_deliver 63) k = k (.iadd) 0 0 0 [] := rfl
theorem tbX2_deliver_64 {k : Instr → Nat → Nat → Nat → List Nat → Prop} : xse (xFind tbX2_deliver 64) k = k (.putfield 47) 3 8 0 [] := rfl
theorem tbX2_deliver_67 {k : Instr → Nat → Nat → Nat → List Nat → Prop} : xse (xFind tbX2_deliver 67) k = k (.aload_n 0) 0 0 0 [] := rfl
theorem tbX2_deliver_68 {k : Instr → Nat → Nat → Nat → List Nat → Prop} : xse (xFind tbX2_deliver 68) k = k (.dup) 0 0 0 [] := rfl
theorem tbX2_deliver_69 {k : Instr → Nat → Nat → Nat → List Nat → Prop} : xse (xFind tbX2_deliver 69) k = k (.getfield 50) 3 9 0 [] := rfl
theorem tbX2_deliver_72 {k : Instr → Nat → Nat → Nat → List Nat → Prop} : xse (xFind tbX2_deliver 72) k = k (.iload 4) 4 0 0 [] := rfl
theorem tbX2_deliver_74 {k : Instr → Nat → Nat → Nat → List Nat → Prop} : xse (xFind tbX2_deliver 74) k = k (.iadd) 0 0 0 [] := rfl
theorem tbX2_deliver_75 {k : Instr → Nat → Nat → Nat → List Nat → Prop} : xse (xFind tbX2_deliver 75) k = k (.putfield 50) 3 9 0 [] := rfl
theorem tbX2_deliver_78 {k : Instr → Nat → Nat → Nat → List Nat → Prop} : xse (xFind tbX2_deliver 78) k = k (.iload 4) 4 0 0 [] := rfl
theorem tbX2_deliver_80 {k : Instr → Nat → Nat → Nat → List Nat → Prop} : xse (xFind tbX2_deliver 80) k = k (.ireturn) 0 0 0 [] := rfl

def spX2_deliver (W9 : xWd) : xSp cS := (fun av S => (0, 0), fun av S K => ∃ (a : Nat) (u : Int32) (o : Int32), av = [.ref a, .int u, .int o] ∧ (cK S a = 4 ∧ K (rI (cPay S a u o)) (cSetI (cSetI (cSetI S a 307 (cFi S a 307 - u)) a 308 (cFi S a 308 + u)) a 309 (cFi S a 309 + cPay S a u o))))
theorem spcX2_deliver {av : List Value} {S : cS} {W9 : xWd} : (spX2_deliver W9).1 av S = (0, 0) := rfl
theorem spwX2_deliver {S : cS} {W9 : xWd} {K : xRes → cS → Prop} {a : Nat} {u : Int32} {o : Int32} : (spX2_deliver W9).2 [.ref a, .int u, .int o] S K = (cK S a = 4 ∧ K (rI (cPay S a u o)) (cSetI (cSetI (cSetI S a 307 (cFi S a 307 - u)) a 308 (cFi S a 308 + u)) a 309 (cFi S a 309 + cPay S a u o))) :=
  propext ⟨fun h => by
    simp only [spX2_deliver] at h
    obtain ⟨_, _, _, e, h⟩ := h
    simp only [List.cons.injEq, Value.int.injEq, Value.ref.injEq, rf_eq, and_true, true_and] at e
    obtain ⟨rfl, rfl, rfl⟩ := e
    exact h, fun h => ⟨_, _, _, rfl, h⟩⟩

def callX2_deliver (W9 : xWd) : Nat → Option (xSp cS) := fun n => match n with | 0 => some (sp_max cS) | 1 => some (sp_abs cS) | _ => none

theorem callX2_deliver_0 {W9 : xWd} {k : xSp cS → Prop} : xcs (callX2_deliver W9 0) k = k (sp_max cS) := rfl

theorem callX2_deliver_1 {W9 : xWd} {k : xSp cS → Prop} : xcs (callX2_deliver W9 1) k = k (sp_abs cS) := rfl

theorem crX2_deliver (l : Launch) (hl : l.stackTraces = false) (W9 : xWd) : xCallsOK l W9 (cI) (callX2_deliver W9) clX2_deliver RX2 wsX2_deliver 1 21 5 := by
  intro E A p e R s m args below meth c hI hF hL X
  exact List.forall_mem_cons.mpr ⟨⟨_, rfl, xCR_max X (by decide +kernel) (by decide +kernel) (by decide +kernel) (by decide +kernel) (by rw [hF, hL]; decide)⟩,
    List.forall_mem_cons.mpr ⟨⟨_, rfl, xCR_abs X (by decide +kernel) (by decide +kernel) (by decide +kernel) (by decide +kernel) (by rw [hF, hL]; decide)⟩,
    fun _ h => nomatch h⟩⟩

set_option maxHeartbeats 4000000 in
set_option maxRecDepth 20000 in
theorem semX2_deliver (l : Launch) (hl : l.stackTraces = false) (W9 : xWd) : xSem l W9 (cI) yX2_deliver wsX2_deliver 1 21 (spX2_deliver W9) := by
  refine xSem_of (call := callX2_deliver W9) (thrf := fun _ => "") cI_law (by decide +kernel) rfl ckX2_deliver usX2_deliver (crX2_deliver l hl W9) xThrOK_nil ?_ ?_
  · intro av S KF h
    obtain ⟨a, u, o, rfl, h⟩ := h
    exact ⟨by intro v hv; simp only [List.mem_cons, List.not_mem_nil, or_false] at hv; rcases hv with rfl | rfl | rfl <;> first | rfl | exact cat_rf, Nat.le_of_ble_eq_true rfl⟩
  intro av S KF h G hG
  obtain ⟨a, u, o, rfl, h⟩ := h
  rw [show (spX2_deliver W9).1 _ S = _ from spcX2_deliver] at hG
  try dsimp only at hG
  change G 0 [some (.ref a), some (.int u), some (.int o), none, none] [] S 0 0
  obtain ⟨h0, h⟩ := h
  refine xgo0 hG (fun fu hfu => ?_)
  clear hG
  simp only [↓callX2_deliver_0, ↓callX2_deliver_1, ↓cg_3_10, ↓cg_3_2, ↓cg_3_3, ↓cg_3_5, ↓cg_3_6, ↓cg_3_7, ↓cg_3_8, ↓cg_3_9, ↓cp_3_7, ↓cp_3_8, ↓cp_3_9, kb_10, kb_100, kc_10, kc_100, ki_0, ki_5, ↓vm_aload_n, ↓vm_bipush, ↓vm_dup, ↓vm_getfield, ↓vm_iadd, ↓vm_iconst, ↓vm_idiv, ↓vm_iload, ↓vm_iload_n, ↓vm_imul, ↓vm_invokestatic, ↓vm_ireturn, ↓vm_istore, ↓vm_istore_n, ↓vm_isub, ↓vm_putfield, ↓xc_1, ↓xc_2, ↓tbX2_deliver_0, ↓tbX2_deliver_1, ↓tbX2_deliver_2, ↓tbX2_deliver_3, ↓tbX2_deliver_6, ↓tbX2_deliver_7, ↓tbX2_deliver_10, ↓tbX2_deliver_11, ↓tbX2_deliver_12, ↓tbX2_deliver_14, ↓tbX2_deliver_15, ↓tbX2_deliver_18, ↓tbX2_deliver_19, ↓tbX2_deliver_22, ↓tbX2_deliver_23, ↓tbX2_deliver_26, ↓tbX2_deliver_27, ↓tbX2_deliver_28, ↓tbX2_deliver_31, ↓tbX2_deliver_32, ↓tbX2_deliver_34, ↓tbX2_deliver_35, ↓tbX2_deliver_36, ↓tbX2_deliver_37, ↓tbX2_deliver_40, ↓tbX2_deliver_41, ↓tbX2_deliver_42, ↓tbX2_deliver_43, ↓tbX2_deliver_44, ↓tbX2_deliver_45, ↓tbX2_deliver_47, ↓tbX2_deliver_48, ↓tbX2_deliver_49, ↓tbX2_deliver_52, ↓tbX2_deliver_53, ↓tbX2_deliver_54, ↓tbX2_deliver_57, ↓tbX2_deliver_58, ↓tbX2_deliver_59, ↓tbX2_deliver_62, ↓tbX2_deliver_63, ↓tbX2_deliver_64, ↓tbX2_deliver_67, ↓tbX2_deliver_68, ↓tbX2_deliver_69, ↓tbX2_deliver_72, ↓tbX2_deliver_74, ↓tbX2_deliver_75, ↓tbX2_deliver_78, ↓tbX2_deliver_80, hfu, xstep0, xJ1_hit, xJ1_go, xJ2_hit1, xJ2_hit2, xJ2_go, ↓xif_t, ↓xif_f, seval, ↓xca_eq, ↓xre_l, ↓xre_r, xmask_t, xmask_f, xmask_nil, ↓xst_eq, xX_eq, eI_eq, eMc_eq, eMs_eq, eF_eq, eThr_eq, ↓xS1_mk, ↓xSI_mk, ↓xSR_mk, ↓xLI_0, ↓xLI_s, ↓xLR_0, ↓xLR_s, vRef_ref, vRef_null, vRef_rf, cat_int, cat_ref, cat_null, cat_rf, rf_some, rf_none, rf_null, rf_eq, rf_ref, ref_rf, ref_null, ref_ref, xOk_0, xOk_1, xOk_2r, xOk_2n, xOk_2f, vOpt_rf, vOpt_ref, vOpt_null, List.set_cons_zero, List.set_cons_succ, List.take_succ_cons, List.take_zero, List.drop_succ_cons, List.drop_zero, List.reverse_cons, List.reverse_nil, List.nil_append, List.cons_append, List.append_nil, List.length_cons, List.length_nil, List.map_cons, List.map_nil, List.sum_cons, List.sum_nil, Option.toList_some, Option.toList_none, xRecv_mk, true_and, and_true, true_implies, Nat.reduceAdd, Nat.reduceLeDiff, Nat.zero_le, Nat.le_refl, Nat.add_zero, Nat.zero_add, reduceIte, not_true_eq_false, not_false_eq_true, false_implies, and_self, implies_true, eq_self, Nat.reduceEqDiff, List.cons.injEq, xsn_1, xsn_2, false_and, and_false, or_false, false_or, or_true, true_or, xsn_3, xsn_4, h0, cK_setI, cFi_setI, ↓sp_max_w, sp_max_c, ↓sp_abs_w, sp_abs_c]
  try simp only [xif_e]
  unfold cPay at h
  first | exact h | grind

def tbX3_isFull : List (Nat × xHint) := [(0, .aload_n 0, 0, 0, 0, []), (1, .getfield 13, 4, 1, 0, []), (4, .aload_n 0, 0, 0, 0, []), (5, .getfield 9, 4, 0, 2, []), (8, .arraylength, 0, 0, 0, []), (9, .if_icmp .lt 7, 16, 0, 0, []), (12, .iconst 1, 0, 0, 0, []), (13, .goto 4, 17, 0, 0, []), (16, .iconst 0, 0, 0, 0, []), (17, .ireturn, 1, 0, 0, [])]
def clX3_isFull : List (Instr × Nat × Nat × Nat) := []
def thX3_isFull : List (Nat × Nat) := []
theorem ckX3_isFull : tbX3_isFull.all (xRow RX3 cX3_isFull wsX3_isFull vwCl [4] clX3_isFull thX3_isFull 1 (yX3_isFull.name == "<init>") (some .boolean)) = true := xRow_q 0xac030400a7040700a1be0900b42a0d00b42a 18 (by decide +kernel) (by decide +kernel)
theorem usX3_isFull : xUse wsX3_isFull vwCl [4] = true := xUse_g rfl (lw_good lwl_X3_isFull lwl_X30 (by decide +kernel)) xUse_n
theorem tbX3_isFull_0 {k : Instr → Nat → Nat → Nat → List Nat → Prop} : xse (xFind tbX3_isFull 0) k = k (.aload_n 0) 0 0 0 [] := rfl
theorem tbX3_isFull_1 {k : Instr → Nat → Nat → Nat → List Nat → Prop} : xse (xFind tbX3_isFull 1) k = k (.getfield 13) 4 1 0 [] := rfl
theorem tbX3_isFull_4 {k : Instr → Nat → Nat → Nat → List Nat → Prop} : xse (xFind tbX3_isFull 4) k = k (.aload_n 0) 0 0 0 [] := rfl
theorem tbX3_isFull_5 {k : Instr → Nat → Nat → Nat → List Nat → Prop} : xse (xFind tbX3_isFull 5) k = k (.getfield 9) 4 0 2 [] := rfl
theorem tbX3_isFull_8 {k : Instr → Nat → Nat → Nat → List Nat → Prop} : xse (xFind tbX3_isFull 8) k = k (.arraylength) 0 0 0 [] := rfl
theorem tbX3_isFull_9 {k : Instr → Nat → Nat → Nat → List Nat → Prop} : xse (xFind tbX3_isFull 9) k = k (.if_icmp .lt 7) 16 0 0 [] := rfl
theorem tbX3_isFull_12 {k : Instr → Nat → Nat → Nat → List Nat → Prop} : xse (xFind tbX3_isFull 12) k = k (.iconst 1) 0 0 0 [] := rfl
theorem tbX3_isFull_13 {k : Instr → Nat → Nat → Nat → List Nat → Prop} : xse (xFind tbX3_isFull 13) k = k (.goto 4) 17 0 0 [] := rfl
theorem tbX3_isFull_16 {k : Instr → Nat → Nat → Nat → List Nat → Prop} : xse (xFind tbX3_isFull 16) k = k (.iconst 0) 0 0 0 [] := rfl
theorem tbX3_isFull_17 {k : Instr → Nat → Nat → Nat → List Nat → Prop} : xse (xFind tbX3_isFull 17) k = k (.ireturn) 1 0 0 [] := rfl

def spX3_isFull (W9 : xWd) : xSp cS := (fun av S => (0, 0), fun av S K => ∃ (a : Nat), av = [.ref a] ∧ (cK S a = 5 ∧ cIn S a 400 11 ∧ K (rI (bi (Int32.ofNat (cLen S (cRf S a 400)) ≤ cFi S a 401))) S))
theorem spcX3_isFull {av : List Value} {S : cS} {W9 : xWd} : (spX3_isFull W9).1 av S = (0, 0) := rfl
theorem spwX3_isFull {S : cS} {W9 : xWd} {K : xRes → cS → Prop} {a : Nat} : (spX3_isFull W9).2 [.ref a] S K = (cK S a = 5 ∧ cIn S a 400 11 ∧ K (rI (bi (Int32.ofNat (cLen S (cRf S a 400)) ≤ cFi S a 401))) S) :=
  propext ⟨fun h => by
    simp only [spX3_isFull] at h
    obtain ⟨_, e, h⟩ := h
    simp only [List.cons.injEq, Value.int.injEq, Value.ref.injEq, rf_eq, and_true, true_and] at e
    obtain rfl := e
    exact h, fun h => ⟨_, rfl, h⟩⟩

set_option maxHeartbeats 4000000 in
set_option maxRecDepth 20000 in
theorem semX3_isFull (l : Launch) (hl : l.stackTraces = false) (W9 : xWd) : xSem l W9 (cI) yX3_isFull wsX3_isFull 0 0 (spX3_isFull W9) := by
  refine xSem_of (call := fun _ => none) (thrf := fun _ => "") cI_law (by decide +kernel) rfl ckX3_isFull usX3_isFull xCallsOK_nil xThrOK_nil ?_ ?_
  · intro av S KF h
    obtain ⟨a, rfl, h⟩ := h
    exact ⟨by intro v hv; simp only [List.mem_cons, List.not_mem_nil, or_false] at hv; rcases hv with rfl <;> first | rfl | exact cat_rf, Nat.le_of_ble_eq_true rfl⟩
  intro av S KF h G hG
  obtain ⟨a, rfl, h⟩ := h
  rw [show (spX3_isFull W9).1 _ S = _ from spcX3_isFull] at hG
  try dsimp only at hG
  change G 0 [some (.ref a)] [] S 0 0
  obtain ⟨h0, ⟨h1, h2⟩, h⟩ := h
  refine xgo0 hG (fun fu hfu => ?_)
  clear hG
  simp only [↓calen, ↓cg_4_0, ↓cg_4_1, ki_0, ki_1, ↓vm_aload_n, ↓vm_arraylength, ↓vm_getfield, ↓vm_goto, ↓vm_iconst, ↓vm_if_icmp_lt, ↓vm_ireturn, ↓tbX3_isFull_0, ↓tbX3_isFull_1, ↓tbX3_isFull_4, ↓tbX3_isFull_5, ↓tbX3_isFull_8, ↓tbX3_isFull_9, ↓tbX3_isFull_12, ↓tbX3_isFull_13, ↓tbX3_isFull_16, ↓tbX3_isFull_17, hfu, xstep0, xJ1_hit, xJ1_go, xJ2_hit1, xJ2_hit2, xJ2_go, ↓xif_t, ↓xif_f, seval, ↓xca_eq, ↓xre_l, ↓xre_r, xmask_t, xmask_f, xmask_nil, ↓xst_eq, xX_eq, eI_eq, eMc_eq, eMs_eq, eF_eq, eThr_eq, ↓xS1_mk, ↓xSI_mk, ↓xSR_mk, ↓xLI_0, ↓xLI_s, ↓xLR_0, ↓xLR_s, vRef_ref, vRef_null, vRef_rf, cat_int, cat_ref, cat_null, cat_rf, rf_some, rf_none, rf_null, rf_eq, rf_ref, ref_rf, ref_null, ref_ref, xOk_0, xOk_1, xOk_2r, xOk_2n, xOk_2f, vOpt_rf, vOpt_ref, vOpt_null, List.set_cons_zero, List.set_cons_succ, List.take_succ_cons, List.take_zero, List.drop_succ_cons, List.drop_zero, List.reverse_cons, List.reverse_nil, List.nil_append, List.cons_append, List.append_nil, List.length_cons, List.length_nil, List.map_cons, List.map_nil, List.sum_cons, List.sum_nil, Option.toList_some, Option.toList_none, xRecv_mk, true_and, and_true, true_implies, Nat.reduceAdd, Nat.reduceLeDiff, Nat.zero_le, Nat.le_refl, Nat.add_zero, Nat.zero_add, reduceIte, not_true_eq_false, not_false_eq_true, false_implies, and_self, implies_true, eq_self, Nat.reduceEqDiff, List.cons.injEq, xsn_1, xsn_2, false_and, and_false, or_false, false_or, or_true, true_or, xsn_3, xsn_4, h0, h1, h2]
  try simp only [xif_e]
  grind [bi]

def tbX3_write : List (Nat × xHint) := [(0, .aload_n 0, 0, 0, 0, []), (1, .getfield 13, 4, 1, 0, []), (4, .ifCond .lt 35, 39, 0, 0, []), (7, .aload_n 0, 0, 0, 0, []), (8, .getfield 13, 4, 1, 0, []), (11, .aload_n 0, 0, 0, 0, []), (12, .getfield 9, 4, 0, 2, []), (15, .arraylength, 0, 0, 0, []), (16, .if_icmp .ge 23, 39, 0, 0, []), (19, .aload_n 0, 0, 0, 0, []), (20, .getfield 9, 4, 0, 2, []), (23, .aload_n 0, 0, 0, 0, []), (24, .getfield 13, 4, 1, 0, []), (27, .iload_n 1, 1, 0, 0, []), (28, .iastore, 0, 0, 0, []), (29, .aload_n 0, 0, 0, 0, []), (30, .dup, 0, 0, 0, []), (31, .getfield 13, 4, 1, 0, []), (34, .iconst 1, 0, 0, 0, []), (35, .iadd, 0, 0, 0, []), (36, .putfield 13, 4, 1, 0, []), (39, .return_, 0, 0, 0, [])]
def clX3_write : List (Instr × Nat × Nat × Nat) := []
def thX3_write : List (Nat × Nat) := []
theorem ckX3_write : tbX3_write.all (xRow RX3 cX3_write wsX3_write vwCl [4] clX3_write thX3_write 2 (yX3_write.name == "<init>") none) = true := xRow_q 0xb10d00b560040d00b4592a4f1b0d00b42a0900b42a1700a2be0900b42a0d00b42a23009b0d00b42a 40 (by decide +kernel) (by decide +kernel)
theorem usX3_write : xUse wsX3_write vwCl [4] = true := xUse_g rfl (lw_good lwl_X3_write lwl_X30 (by decide +kernel)) xUse_n
theorem tbX3_write_0 {k : Instr → Nat → Nat → Nat → List Nat → Prop} : xse (xFind tbX3_write 0) k = k (.aload_n 0) 0 0 0 [] := rfl
theorem tbX3_write_1 {k : Instr → Nat → Nat → Nat → List Nat → Prop} : xse (xFind tbX3_write 1) k = k (.getfield 13) 4 1 0 [] := rfl
theorem tbX3_write_4 {k : Instr → Nat → Nat → Nat → List Nat → Prop} : xse (xFind tbX3_write 4) k = k (.ifCond .lt 35) 39 0 0 [] := rfl
theorem tbX3_write_7 {k : Instr → Nat → Nat → Nat → List Nat → Prop} : xse (xFind tbX3_write 7) k = k (.aload_n 0) 0 0 0 [] := rfl
theorem tbX3_write_8 {k : Instr → Nat → Nat → Nat → List Nat → Prop} : xse (xFind tbX3_write 8) k = k (.getfield 13) 4 1 0 [] := rfl
theorem tbX3_write_11 {k : Instr → Nat → Nat → Nat → List Nat → Prop} : xse (xFind tbX3_write 11) k = k (.aload_n 0) 0 0 0 [] := rfl
theorem tbX3_write_12 {k : Instr → Nat → Nat → Nat → List Nat → Prop} : xse (xFind tbX3_write 12) k = k (.getfield 9) 4 0 2 [] := rfl
theorem tbX3_write_15 {k : Instr → Nat → Nat → Nat → List Nat → Prop} : xse (xFind tbX3_write 15) k = k (.arraylength) 0 0 0 [] := rfl
theorem tbX3_write_16 {k : Instr → Nat → Nat → Nat → List Nat → Prop} : xse (xFind tbX3_write 16) k = k (.if_icmp .ge 23) 39 0 0 [] := rfl
theorem tbX3_write_19 {k : Instr → Nat → Nat → Nat → List Nat → Prop} : xse (xFind tbX3_write 19) k = k (.aload_n 0) 0 0 0 [] := rfl
theorem tbX3_write_20 {k : Instr → Nat → Nat → Nat → List Nat → Prop} : xse (xFind tbX3_write 20) k = k (.getfield 9) 4 0 2 [] := rfl
theorem tbX3_write_23 {k : Instr → Nat → Nat → Nat → List Nat → Prop} : xse (xFind tbX3_write 23) k = k (.aload_n 0) 0 0 0 [] := rfl
theorem tbX3_write_24 {k : Instr → Nat → Nat → Nat → List Nat → Prop} : xse (xFind tbX3_write 24) k = k (.getfield 13) 4 1 0 [] := rfl
theorem tbX3_write_27 {k : Instr → Nat → Nat → Nat → List Nat → Prop} : xse (xFind tbX3_write 27) k = k (.iload_n 1) 1 0 0 [] := rfl
theorem tbX3_write_28 {k : Instr → Nat → Nat → Nat → List Nat → Prop} : xse (xFind tbX3_write 28) k = k (.iastore) 0 0 0 [] := rfl
theorem tbX3_write_29 {k : Instr → Nat → Nat → Nat → List Nat → Prop} : xse (xFind tbX3_write 29) k = k (.aload_n 0) 0 0 0 [] := rfl
theorem tbX3_write_30 {k : Instr → Nat → Nat → Nat → List Nat → Prop} : xse (xFind tbX3_write 30) k = k (.dup) 0 0 0 [] := rfl
theorem tbX3_write_31 {k : Instr → Nat → Nat → Nat → List Nat → Prop} : xse (xFind tbX3_write 31) k = k (.getfield 13) 4 1 0 [] := rfl
theorem tbX3_write_34 {k : Instr → Nat → Nat → Nat → List Nat → Prop} : xse (xFind tbX3_write 34) k = k (.iconst 1) 0 0 0 [] := rfl
theorem tbX3_write_35 {k : Instr → Nat → Nat → Nat → List Nat → Prop} : xse (xFind tbX3_write 35) k = k (.iadd) 0 0 0 [] := rfl
theorem tbX3_write_36 {k : Instr → Nat → Nat → Nat → List Nat → Prop} : xse (xFind tbX3_write 36) k = k (.putfield 13) 4 1 0 [] := rfl
theorem tbX3_write_39 {k : Instr → Nat → Nat → Nat → List Nat → Prop} : xse (xFind tbX3_write 39) k = k (.return_) 0 0 0 [] := rfl

def spX3_write (W9 : xWd) : xSp cS := (fun av S => (0, 0), fun av S K => ∃ (a : Nat) (x : Int32), av = [.ref a, .int x] ∧ (cK S a = 5 ∧ cIn S a 400 11 ∧ (∃ k, cFi S a 401 = nI k ∧ k < cLen S (cRf S a 400) ∧ cLen S (cRf S a 400) = 64 ∧ K rV (cSetI (cAst S (cRf S a 400) k x) a 401 (nI (k + 1))))))
theorem spcX3_write {av : List Value} {S : cS} {W9 : xWd} : (spX3_write W9).1 av S = (0, 0) := rfl
theorem spwX3_write {S : cS} {W9 : xWd} {K : xRes → cS → Prop} {a : Nat} {x : Int32} : (spX3_write W9).2 [.ref a, .int x] S K = (cK S a = 5 ∧ cIn S a 400 11 ∧ (∃ k, cFi S a 401 = nI k ∧ k < cLen S (cRf S a 400) ∧ cLen S (cRf S a 400) = 64 ∧ K rV (cSetI (cAst S (cRf S a 400) k x) a 401 (nI (k + 1))))) :=
  propext ⟨fun h => by
    simp only [spX3_write] at h
    obtain ⟨_, _, e, h⟩ := h
    simp only [List.cons.injEq, Value.int.injEq, Value.ref.injEq, rf_eq, and_true, true_and] at e
    obtain ⟨rfl, rfl⟩ := e
    exact h, fun h => ⟨_, _, rfl, h⟩⟩

set_option maxHeartbeats 4000000 in
set_option maxRecDepth 20000 in
theorem semX3_write (l : Launch) (hl : l.stackTraces = false) (W9 : xWd) : xSem l W9 (cI) yX3_write wsX3_write 0 0 (spX3_write W9) := by
  refine xSem_of (call := fun _ => none) (thrf := fun _ => "") cI_law (by decide +kernel) rfl ckX3_write usX3_write xCallsOK_nil xThrOK_nil ?_ ?_
  · intro av S KF h
    obtain ⟨a, x, rfl, h⟩ := h
    exact ⟨by intro v hv; simp only [List.mem_cons, List.not_mem_nil, or_false] at hv; rcases hv with rfl | rfl <;> first | rfl | exact cat_rf, Nat.le_of_ble_eq_true rfl⟩
  intro av S KF h G hG
  obtain ⟨a, x, rfl, h⟩ := h
  rw [show (spX3_write W9).1 _ S = _ from spcX3_write] at hG
  try dsimp only at hG
  change G 0 [some (.ref a), some (.int x)] [] S 0 0
  obtain ⟨h0, ⟨h1, h2⟩, k, h3, h4, h5, h⟩ := h

  rw [h5] at h4
  have e0 : (nI k < 0) = False := eq_false (nI_pos (by omega))
  have e2 : (0 ≤ nI k) = True := eq_true (nI_pos' (by omega))
  have e1 : ((64 : Int32) ≤ nI k) = False := ge_nI h4 (show 64 < 1000 by omega)
  refine xgo0 hG (fun fu hfu => ?_)
  simp only [↓calen, ↓cast_0, ↓cg_4_0, ↓cg_4_1, ↓cp_4_1, ki_1, ↓vm_aload_n, ↓vm_arraylength, ↓vm_dup, ↓vm_getfield, ↓vm_iadd, ↓vm_iastore, ↓vm_iconst, ↓vm_ifCond_lt, ↓vm_if_icmp_ge, ↓vm_iload_n, ↓vm_putfield, ↓vm_return_, ↓tbX3_write_0, ↓tbX3_write_1, ↓tbX3_write_4, ↓tbX3_write_7, ↓tbX3_write_8, ↓tbX3_write_11, ↓tbX3_write_12, ↓tbX3_write_15, ↓tbX3_write_16, ↓tbX3_write_19, ↓tbX3_write_20, ↓tbX3_write_23, ↓tbX3_write_24, ↓tbX3_write_27, ↓tbX3_write_28, ↓tbX3_write_29, ↓tbX3_write_30, ↓tbX3_write_31, ↓tbX3_write_34, ↓tbX3_write_35, ↓tbX3_write_36, ↓tbX3_write_39, hfu, xstep0, xJ1_hit, xJ1_go, xJ2_hit1, xJ2_hit2, xJ2_go, ↓xif_t, ↓xif_f, seval, ↓xca_eq, ↓xre_l, ↓xre_r, xmask_t, xmask_f, xmask_nil, ↓xst_eq, xX_eq, eI_eq, eMc_eq, eMs_eq, eF_eq, eThr_eq, ↓xS1_mk, ↓xSI_mk, ↓xSR_mk, ↓xLI_0, ↓xLI_s, ↓xLR_0, ↓xLR_s, vRef_ref, vRef_null, vRef_rf, cat_int, cat_ref, cat_null, cat_rf, rf_some, rf_none, rf_null, rf_eq, rf_ref, ref_rf, ref_null, ref_ref, xOk_0, xOk_1, xOk_2r, xOk_2n, xOk_2f, vOpt_rf, vOpt_ref, vOpt_null, List.set_cons_zero, List.set_cons_succ, List.take_succ_cons, List.take_zero, List.drop_succ_cons, List.drop_zero, List.reverse_cons, List.reverse_nil, List.nil_append, List.cons_append, List.append_nil, List.length_cons, List.length_nil, List.map_cons, List.map_nil, List.sum_cons, List.sum_nil, Option.toList_some, Option.toList_none, xRecv_mk, true_and, and_true, true_implies, Nat.reduceAdd, Nat.reduceLeDiff, Nat.zero_le, Nat.le_refl, Nat.add_zero, Nat.zero_add, reduceIte, not_true_eq_false, not_false_eq_true, false_implies, and_self, implies_true, eq_self, Nat.reduceEqDiff, List.cons.injEq, xsn_1, xsn_2, false_and, and_false, or_false, false_or, or_true, true_or, xsn_3, xsn_4, cK_ast, cFr_ast, cLen_ast, cFi_ast, h0, h1, h2, h3, h5, e0, e1, e2, xin_nI h4 (show 64 ≤ 1000 by omega), ix_nI (show k < 1000 by omega), nI1]
  try simp only [xif_e]
  exact h

def tbX6_eventOf : List (Nat × xHint) := [(0, .iload_n 0, 0, 0, 0, []), (1, .bipush 16, 0, 0, 0, []), (3, .ishr, 0, 0, 0, []), (4, .ireturn, 0, 0, 0, [])]
def clX6_eventOf : List (Instr × Nat × Nat × Nat) := []
def thX6_eventOf : List (Nat × Nat) := []
theorem ckX6_eventOf : tbX6_eventOf.all (xRow RX6 cX6_eventOf wsX6_eventOf vwCl [] clX6_eventOf thX6_eventOf 1 (yX6_eventOf.name == "<init>") (some .int)) = true := xRow_q 0xac7a10101a 5 (by decide +kernel) (by decide +kernel)
theorem usX6_eventOf : xUse wsX6_eventOf vwCl [] = true := xUse_n
theorem tbX6_eventOf_0 {k : Instr → Nat → Nat → Nat → List Nat → Prop} : xse (xFind tbX6_eventOf 0) k = k (.iload_n 0) 0 0 0 [] := rfl
theorem tbX6_eventOf_1 {k : Instr → Nat → Nat → Nat → List Nat → Prop} : xse (xFind tbX6_eventOf 1) k = k (.bipush 16) 0 0 0 [] := rfl
theorem tbX6_eventOf_3 {k : Instr → Nat → Nat → Nat → List Nat → Prop} : xse (xFind tbX6_eventOf 3) k = k (.ishr) 0 0 0 [] := rfl
theorem tbX6_eventOf_4 {k : Instr → Nat → Nat → Nat → List Nat → Prop} : xse (xFind tbX6_eventOf 4) k = k (.ireturn) 0 0 0 [] := rfl

def spX6_eventOf (W9 : xWd) : xSp cS := (fun av S => (0, 0), fun av S K => ∃ (x : Int32), av = [.int x] ∧ (K (rI (x >>> (16 &&& 31))) S))
theorem spcX6_eventOf {av : List Value} {S : cS} {W9 : xWd} : (spX6_eventOf W9).1 av S = (0, 0) := rfl
theorem spwX6_eventOf {S : cS} {W9 : xWd} {K : xRes → cS → Prop} {x : Int32} : (spX6_eventOf W9).2 [.int x] S K = (K (rI (x >>> (16 &&& 31))) S) :=
  propext ⟨fun h => by
    simp only [spX6_eventOf] at h
    obtain ⟨_, e, h⟩ := h
    simp only [List.cons.injEq, Value.int.injEq, Value.ref.injEq, rf_eq, and_true, true_and] at e
    obtain rfl := e
    exact h, fun h => ⟨_, rfl, h⟩⟩

set_option maxHeartbeats 4000000 in
set_option maxRecDepth 20000 in
theorem semX6_eventOf (l : Launch) (hl : l.stackTraces = false) (W9 : xWd) : xSem l W9 (cI) yX6_eventOf wsX6_eventOf 0 0 (spX6_eventOf W9) := by
  refine xSem_of (call := fun _ => none) (thrf := fun _ => "") cI_law (by decide +kernel) rfl ckX6_eventOf usX6_eventOf xCallsOK_nil xThrOK_nil ?_ ?_
  · intro av S KF h
    obtain ⟨x, rfl, h⟩ := h
    exact ⟨by intro v hv; simp only [List.mem_cons, List.not_mem_nil, or_false] at hv; rcases hv with rfl <;> first | rfl | exact cat_rf, Nat.le_of_ble_eq_true rfl⟩
  intro av S KF h G hG
  obtain ⟨x, rfl, h⟩ := h
  rw [show (spX6_eventOf W9).1 _ S = _ from spcX6_eventOf] at hG
  try dsimp only at hG
  change G 0 [some (.int x)] [] S 0 0
  refine xgo0 hG (fun fu hfu => ?_)
  clear hG
  simp only [kb_16, kc_16, ↓vm_bipush, ↓vm_iload_n, ↓vm_ireturn, ↓vm_ishr, ↓tbX6_eventOf_0, ↓tbX6_eventOf_1, ↓tbX6_eventOf_3, ↓tbX6_eventOf_4, hfu, xstep0, xJ1_hit, xJ1_go, xJ2_hit1, xJ2_hit2, xJ2_go, ↓xif_t, ↓xif_f, seval, ↓xca_eq, ↓xre_l, ↓xre_r, xmask_t, xmask_f, xmask_nil, ↓xst_eq, xX_eq, eI_eq, eMc_eq, eMs_eq, eF_eq, eThr_eq, ↓xS1_mk, ↓xSI_mk, ↓xSR_mk, ↓xLI_0, ↓xLI_s, ↓xLR_0, ↓xLR_s, vRef_ref, vRef_null, vRef_rf, cat_int, cat_ref, cat_null, cat_rf, rf_some, rf_none, rf_null, rf_eq, rf_ref, ref_rf, ref_null, ref_ref, xOk_0, xOk_1, xOk_2r, xOk_2n, xOk_2f, vOpt_rf, vOpt_ref, vOpt_null, List.set_cons_zero, List.set_cons_succ, List.take_succ_cons, List.take_zero, List.drop_succ_cons, List.drop_zero, List.reverse_cons, List.reverse_nil, List.nil_append, List.cons_append, List.append_nil, List.length_cons, List.length_nil, List.map_cons, List.map_nil, List.sum_cons, List.sum_nil, Option.toList_some, Option.toList_none, xRecv_mk, true_and, and_true, true_implies, Nat.reduceAdd, Nat.reduceLeDiff, Nat.zero_le, Nat.le_refl, Nat.add_zero, Nat.zero_add, reduceIte, not_true_eq_false, not_false_eq_true, false_implies, and_self, implies_true, eq_self, Nat.reduceEqDiff, List.cons.injEq, xsn_1, xsn_2, false_and, and_false, or_false, false_or, or_true, true_or, xsn_3, xsn_4]
  try simp only [xif_e]
  exact h

def tbX6_placeOf : List (Nat × xHint) := [(0, .iload_n 0, 0, 0, 0, []), (1, .sipush 255, 0, 0, 0, []), (4, .iand, 0, 0, 0, []), (5, .ireturn, 0, 0, 0, [])]
def clX6_placeOf : List (Instr × Nat × Nat × Nat) := []
def thX6_placeOf : List (Nat × Nat) := []
theorem ckX6_placeOf : tbX6_placeOf.all (xRow RX6 cX6_placeOf wsX6_placeOf vwCl [] clX6_placeOf thX6_placeOf 1 (yX6_placeOf.name == "<init>") (some .int)) = true := xRow_q 0xac7eff00111a 6 (by decide +kernel) (by decide +kernel)
theorem usX6_placeOf : xUse wsX6_placeOf vwCl [] = true := xUse_n
theorem tbX6_placeOf_0 {k : Instr → Nat → Nat → Nat → List Nat → Prop} : xse (xFind tbX6_placeOf 0) k = k (.iload_n 0) 0 0 0 [] := rfl
theorem tbX6_placeOf_1 {k : Instr → Nat → Nat → Nat → List Nat → Prop} : xse (xFind tbX6_placeOf 1) k = k (.sipush 255) 0 0 0 [] := rfl
theorem tbX6_placeOf_4 {k : Instr → Nat → Nat → Nat → List Nat → Prop} : xse (xFind tbX6_placeOf 4) k = k (.iand) 0 0 0 [] := rfl
theorem tbX6_placeOf_5 {k : Instr → Nat → Nat → Nat → List Nat → Prop} : xse (xFind tbX6_placeOf 5) k = k (.ireturn) 0 0 0 [] := rfl

def spX6_placeOf (W9 : xWd) : xSp cS := (fun av S => (0, 0), fun av S K => ∃ (x : Int32), av = [.int x] ∧ (K (rI (x &&& 255)) S))
theorem spcX6_placeOf {av : List Value} {S : cS} {W9 : xWd} : (spX6_placeOf W9).1 av S = (0, 0) := rfl
theorem spwX6_placeOf {S : cS} {W9 : xWd} {K : xRes → cS → Prop} {x : Int32} : (spX6_placeOf W9).2 [.int x] S K = (K (rI (x &&& 255)) S) :=
  propext ⟨fun h => by
    simp only [spX6_placeOf] at h
    obtain ⟨_, e, h⟩ := h
    simp only [List.cons.injEq, Value.int.injEq, Value.ref.injEq, rf_eq, and_true, true_and] at e
    obtain rfl := e
    exact h, fun h => ⟨_, rfl, h⟩⟩

set_option maxHeartbeats 4000000 in
set_option maxRecDepth 20000 in
theorem semX6_placeOf (l : Launch) (hl : l.stackTraces = false) (W9 : xWd) : xSem l W9 (cI) yX6_placeOf wsX6_placeOf 0 0 (spX6_placeOf W9) := by
  refine xSem_of (call := fun _ => none) (thrf := fun _ => "") cI_law (by decide +kernel) rfl ckX6_placeOf usX6_placeOf xCallsOK_nil xThrOK_nil ?_ ?_
  · intro av S KF h
    obtain ⟨x, rfl, h⟩ := h
    exact ⟨by intro v hv; simp only [List.mem_cons, List.not_mem_nil, or_false] at hv; rcases hv with rfl <;> first | rfl | exact cat_rf, Nat.le_of_ble_eq_true rfl⟩
  intro av S KF h G hG
  obtain ⟨x, rfl, h⟩ := h
  rw [show (spX6_placeOf W9).1 _ S = _ from spcX6_placeOf] at hG
  try dsimp only at hG
  change G 0 [some (.int x)] [] S 0 0
  refine xgo0 hG (fun fu hfu => ?_)
  clear hG
  simp only [ks_255, kt_255, ↓vm_iand, ↓vm_iload_n, ↓vm_ireturn, ↓vm_sipush, ↓tbX6_placeOf_0, ↓tbX6_placeOf_1, ↓tbX6_placeOf_4, ↓tbX6_placeOf_5, hfu, xstep0, xJ1_hit, xJ1_go, xJ2_hit1, xJ2_hit2, xJ2_go, ↓xif_t, ↓xif_f, seval, ↓xca_eq, ↓xre_l, ↓xre_r, xmask_t, xmask_f, xmask_nil, ↓xst_eq, xX_eq, eI_eq, eMc_eq, eMs_eq, eF_eq, eThr_eq, ↓xS1_mk, ↓xSI_mk, ↓xSR_mk, ↓xLI_0, ↓xLI_s, ↓xLR_0, ↓xLR_s, vRef_ref, vRef_null, vRef_rf, cat_int, cat_ref, cat_null, cat_rf, rf_some, rf_none, rf_null, rf_eq, rf_ref, ref_rf, ref_null, ref_ref, xOk_0, xOk_1, xOk_2r, xOk_2n, xOk_2f, vOpt_rf, vOpt_ref, vOpt_null, List.set_cons_zero, List.set_cons_succ, List.take_succ_cons, List.take_zero, List.drop_succ_cons, List.drop_zero, List.reverse_cons, List.reverse_nil, List.nil_append, List.cons_append, List.append_nil, List.length_cons, List.length_nil, List.map_cons, List.map_nil, List.sum_cons, List.sum_nil, Option.toList_some, Option.toList_none, xRecv_mk, true_and, and_true, true_implies, Nat.reduceAdd, Nat.reduceLeDiff, Nat.zero_le, Nat.le_refl, Nat.add_zero, Nat.zero_add, reduceIte, not_true_eq_false, not_false_eq_true, false_implies, and_self, implies_true, eq_self, Nat.reduceEqDiff, List.cons.injEq, xsn_1, xsn_2, false_and, and_false, or_false, false_or, or_true, true_or, xsn_3, xsn_4]
  try simp only [xif_e]
  exact h

def tbX7_waterOf : List (Nat × xHint) := [(0, .aload_n 1, 1, 0, 0, []), (1, .getfield 73, 6, 1, 0, []), (4, .aload_n 0, 0, 0, 0, []), (5, .getfield 81, 8, 8, 0, []), (8, .iadd, 0, 0, 0, []), (9, .ireturn, 0, 0, 0, [])]
def clX7_waterOf : List (Instr × Nat × Nat × Nat) := []
def thX7_waterOf : List (Nat × Nat) := []
theorem ckX7_waterOf : tbX7_waterOf.all (xRow RX7 cX7_waterOf wsX7_waterOf vwCl [6, 8] clX7_waterOf thX7_waterOf 2 (yX7_waterOf.name == "<init>") (some .int)) = true := xRow_q 0xac605100b42a4900b42b 10 (by decide +kernel) (by decide +kernel)
theorem usX7_waterOf : xUse wsX7_waterOf vwCl [6, 8] = true := xUse_g rfl (lw_good lwl_X7_waterOf lwl_X50 (by decide +kernel)) (xUse_g rfl (lw_good lwl_X7_waterOf lwl_X70 (by decide +kernel)) xUse_n)
theorem tbX7_waterOf_0 {k : Instr → Nat → Nat → Nat → List Nat → Prop} : xse (xFind tbX7_waterOf 0) k = k (.aload_n 1) 1 0 0 [] := rfl
theorem tbX7_waterOf_1 {k : Instr → Nat → Nat → Nat → List Nat → Prop} : xse (xFind tbX7_waterOf 1) k = k (.getfield 73) 6 1 0 [] := rfl
theorem tbX7_waterOf_4 {k : Instr → Nat → Nat → Nat → List Nat → Prop} : xse (xFind tbX7_waterOf 4) k = k (.aload_n 0) 0 0 0 [] := rfl
theorem tbX7_waterOf_5 {k : Instr → Nat → Nat → Nat → List Nat → Prop} : xse (xFind tbX7_waterOf 5) k = k (.getfield 81) 8 8 0 [] := rfl
theorem tbX7_waterOf_8 {k : Instr → Nat → Nat → Nat → List Nat → Prop} : xse (xFind tbX7_waterOf 8) k = k (.iadd) 0 0 0 [] := rfl
theorem tbX7_waterOf_9 {k : Instr → Nat → Nat → Nat → List Nat → Prop} : xse (xFind tbX7_waterOf 9) k = k (.ireturn) 0 0 0 [] := rfl

def spX7_waterOf (W9 : xWd) : xSp cS := (fun av S => (0, 0), fun av S K => ∃ (a : Nat) (s : Nat), av = [.ref a, .ref s] ∧ (cK S a = 9 ∧ cK S s = 7 ∧ K (rI (cFi S s 601 + cFi S a 808)) S))
theorem spcX7_waterOf {av : List Value} {S : cS} {W9 : xWd} : (spX7_waterOf W9).1 av S = (0, 0) := rfl
theorem spwX7_waterOf {S : cS} {W9 : xWd} {K : xRes → cS → Prop} {a : Nat} {s : Nat} : (spX7_waterOf W9).2 [.ref a, .ref s] S K = (cK S a = 9 ∧ cK S s = 7 ∧ K (rI (cFi S s 601 + cFi S a 808)) S) :=
  propext ⟨fun h => by
    simp only [spX7_waterOf] at h
    obtain ⟨_, _, e, h⟩ := h
    simp only [List.cons.injEq, Value.int.injEq, Value.ref.injEq, rf_eq, and_true, true_and] at e
    obtain ⟨rfl, rfl⟩ := e
    exact h, fun h => ⟨_, _, rfl, h⟩⟩

set_option maxHeartbeats 4000000 in
set_option maxRecDepth 20000 in
theorem semX7_waterOf (l : Launch) (hl : l.stackTraces = false) (W9 : xWd) : xSem l W9 (cI) yX7_waterOf wsX7_waterOf 0 0 (spX7_waterOf W9) := by
  refine xSem_of (call := fun _ => none) (thrf := fun _ => "") cI_law (by decide +kernel) rfl ckX7_waterOf usX7_waterOf xCallsOK_nil xThrOK_nil ?_ ?_
  · intro av S KF h
    obtain ⟨a, s, rfl, h⟩ := h
    exact ⟨by intro v hv; simp only [List.mem_cons, List.not_mem_nil, or_false] at hv; rcases hv with rfl | rfl <;> first | rfl | exact cat_rf, Nat.le_of_ble_eq_true rfl⟩
  intro av S KF h G hG
  obtain ⟨a, s, rfl, h⟩ := h
  rw [show (spX7_waterOf W9).1 _ S = _ from spcX7_waterOf] at hG
  try dsimp only at hG
  change G 0 [some (.ref a), some (.ref s)] [] S 0 0
  obtain ⟨h0, h1, h⟩ := h
  refine xgo0 hG (fun fu hfu => ?_)
  clear hG
  simp only [↓cg_6_1, ↓cg_8_8, ↓vm_aload_n, ↓vm_getfield, ↓vm_iadd, ↓vm_ireturn, ↓tbX7_waterOf_0, ↓tbX7_waterOf_1, ↓tbX7_waterOf_4, ↓tbX7_waterOf_5, ↓tbX7_waterOf_8, ↓tbX7_waterOf_9, hfu, xstep0, xJ1_hit, xJ1_go, xJ2_hit1, xJ2_hit2, xJ2_go, ↓xif_t, ↓xif_f, seval, ↓xca_eq, ↓xre_l, ↓xre_r, xmask_t, xmask_f, xmask_nil, ↓xst_eq, xX_eq, eI_eq, eMc_eq, eMs_eq, eF_eq, eThr_eq, ↓xS1_mk, ↓xSI_mk, ↓xSR_mk, ↓xLI_0, ↓xLI_s, ↓xLR_0, ↓xLR_s, vRef_ref, vRef_null, vRef_rf, cat_int, cat_ref, cat_null, cat_rf, rf_some, rf_none, rf_null, rf_eq, rf_ref, ref_rf, ref_null, ref_ref, xOk_0, xOk_1, xOk_2r, xOk_2n, xOk_2f, vOpt_rf, vOpt_ref, vOpt_null, List.set_cons_zero, List.set_cons_succ, List.take_succ_cons, List.take_zero, List.drop_succ_cons, List.drop_zero, List.reverse_cons, List.reverse_nil, List.nil_append, List.cons_append, List.append_nil, List.length_cons, List.length_nil, List.map_cons, List.map_nil, List.sum_cons, List.sum_nil, Option.toList_some, Option.toList_none, xRecv_mk, true_and, and_true, true_implies, Nat.reduceAdd, Nat.reduceLeDiff, Nat.zero_le, Nat.le_refl, Nat.add_zero, Nat.zero_add, reduceIte, not_true_eq_false, not_false_eq_true, false_implies, and_self, implies_true, eq_self, Nat.reduceEqDiff, List.cons.injEq, xsn_1, xsn_2, false_and, and_false, or_false, false_or, or_true, true_or, xsn_3, xsn_4, h0, h1]
  try simp only [xif_e]
  exact h

def tbX7_stageIn : List (Nat × xHint) := [(0, .aload_n 0, 0, 0, 0, []), (1, .getfield 81, 8, 8, 0, []), (4, .iload_n 1, 1, 0, 0, []), (5, .aload_n 0, 0, 0, 0, []), (6, .getfield 84, 8, 9, 0, []), (9, .imul, 0, 0, 0, []), (10, .isub, 0, 0, 0, []), (11, .istore_n 2, 2, 0, 0, []), (12, .bipush (-30), 0, 0, 0, []), (14, .bipush 60, 0, 0, 0, []), (16, .iload_n 2, 2, 0, 0, []), (17, .invokestatic 309, 0, 2, 0, []), (20, .invokestatic 304, 1, 2, 0, []), (23, .ireturn, 0, 0, 0, [])]
def clX7_stageIn : List (Instr × Nat × Nat × Nat) := [(.invokestatic 309, 0, 2, 0), (.invokestatic 304, 1, 2, 0)]
def thX7_stageIn : List (Nat × Nat) := []
theorem ckX7_stageIn : tbX7_stageIn.all (xRow RX7 cX7_stageIn wsX7_stageIn vwCl [8] clX7_stageIn thX7_stageIn 3 (yX7_stageIn.name == "<init>") (some .int)) = true := xRow_q 0xac3001b83501b81c3c10e2103d64685400b42a1b5100b42a 24 (by decide +kernel) (by decide +kernel)
theorem usX7_stageIn : xUse wsX7_stageIn vwCl [8] = true := xUse_g rfl (lw_good lwl_X7_stageIn lwl_X70 (by decide +kernel)) xUse_n
theorem tbX7_stageIn_0 {k : Instr → Nat → Nat → Nat → List Nat → Prop} : xse (xFind tbX7_stageIn 0) k = k (.aload_n 0) 0 0 0 [] := rfl
theorem tbX7_stageIn_1 {k : Instr → Nat → Nat → Nat → List Nat → Prop} : xse (xFind tbX7_stageIn 1) k = k (.getfield 81) 8 8 0 [] := rfl
theorem tbX7_stageIn_4 {k : Instr → Nat → Nat → Nat → List Nat → Prop} : xse (xFind tbX7_stageIn 4) k = k (.iload_n 1) 1 0 0 [] := rfl
theorem tbX7_stageIn_5 {k : Instr → Nat → Nat → Nat → List Nat → Prop} : xse (xFind tbX7_stageIn 5) k = k (.aload_n 0) 0 0 0 [] := rfl
theorem tbX7_stageIn_6 {k : Instr → Nat → Nat → Nat → List Nat → Prop} : xse (xFind tbX7_stageIn 6) k = k (.getfield 84) 8 9 0 [] := rfl
theorem tbX7_stageIn_9 {k : Instr → Nat → Nat → Nat → List Nat → Prop} : xse (xFind tbX7_stageIn 9) k = k (.imul) 0 0 0 [] := rfl
theorem tbX7_stageIn_10 {k : Instr → Nat → Nat → Nat → List Nat → Prop} : xse (xFind tbX7_stageIn 10) k = k (.isub) 0 0 0 [] := rfl
theorem tbX7_stageIn_11 {k : Instr → Nat → Nat → Nat → List Nat → Prop} : xse (xFind tbX7_stageIn 11) k = k (.istore_n 2) 2 0 0 [] := rfl
theorem tbX7_stageIn_12 {k : Instr → Nat → Nat → Nat → List Nat → Prop} : xse (xFind tbX7_stageIn 12) k = k (.bipush (-30)) 0 0 0 [] := rfl
theorem tbX7_stageIn_14 {k : Instr → Nat → Nat → Nat → List Nat → Prop} : xse (xFind tbX7_stageIn 14) k = k (.bipush 60) 0 0 0 [] := rfl
theorem tbX7_stageIn_16 {k : Instr → Nat → Nat → Nat → List Nat → Prop} : xse (xFind tbX7_stageIn 16) k = k (.iload_n 2) 2 0 0 [] := rfl
theorem tbX7_stageIn_17 {k : Instr → Nat → Nat → Nat → List Nat → Prop} : xse (xFind tbX7_stageIn 17) k = k (.invokestatic 309) 0 2 0 [] := rfl
theorem tbX7_stageIn_20 {k : Instr → Nat → Nat → Nat → List Nat → Prop} : xse (xFind tbX7_stageIn 20) k = k (.invokestatic 304) 1 2 0 [] := rfl
theorem tbX7_stageIn_23 {k : Instr → Nat → Nat → Nat → List Nat → Prop} : xse (xFind tbX7_stageIn 23) k = k (.ireturn) 0 0 0 [] := rfl

def spX7_stageIn (W9 : xWd) : xSp cS := (fun av S => (0, 0), fun av S K => ∃ (a : Nat) (d : Int32), av = [.ref a, .int d] ∧ (cK S a = 9 ∧ K (rI (rMax (-30) (rMin 60 (cFi S a 808 - d * cFi S a 809)))) S))
theorem spcX7_stageIn {av : List Value} {S : cS} {W9 : xWd} : (spX7_stageIn W9).1 av S = (0, 0) := rfl
theorem spwX7_stageIn {S : cS} {W9 : xWd} {K : xRes → cS → Prop} {a : Nat} {d : Int32} : (spX7_stageIn W9).2 [.ref a, .int d] S K = (cK S a = 9 ∧ K (rI (rMax (-30) (rMin 60 (cFi S a 808 - d * cFi S a 809)))) S) :=
  propext ⟨fun h => by
    simp only [spX7_stageIn] at h
    obtain ⟨_, _, e, h⟩ := h
    simp only [List.cons.injEq, Value.int.injEq, Value.ref.injEq, rf_eq, and_true, true_and] at e
    obtain ⟨rfl, rfl⟩ := e
    exact h, fun h => ⟨_, _, rfl, h⟩⟩

def callX7_stageIn (W9 : xWd) : Nat → Option (xSp cS) := fun n => match n with | 0 => some (sp_min cS) | 1 => some (sp_max cS) | _ => none

theorem callX7_stageIn_0 {W9 : xWd} {k : xSp cS → Prop} : xcs (callX7_stageIn W9 0) k = k (sp_min cS) := rfl

theorem callX7_stageIn_1 {W9 : xWd} {k : xSp cS → Prop} : xcs (callX7_stageIn W9 1) k = k (sp_max cS) := rfl

theorem crX7_stageIn (l : Launch) (hl : l.stackTraces = false) (W9 : xWd) : xCallsOK l W9 (cI) (callX7_stageIn W9) clX7_stageIn RX7 wsX7_stageIn 1 21 3 := by
  intro E A p e R s m args below meth c hI hF hL X
  exact List.forall_mem_cons.mpr ⟨⟨_, rfl, xCR_min X (by decide +kernel) (by decide +kernel) (by decide +kernel) (by decide +kernel) (by rw [hF, hL]; decide)⟩,
    List.forall_mem_cons.mpr ⟨⟨_, rfl, xCR_max X (by decide +kernel) (by decide +kernel) (by decide +kernel) (by decide +kernel) (by rw [hF, hL]; decide)⟩,
    fun _ h => nomatch h⟩⟩

set_option maxHeartbeats 4000000 in
set_option maxRecDepth 20000 in
theorem semX7_stageIn (l : Launch) (hl : l.stackTraces = false) (W9 : xWd) : xSem l W9 (cI) yX7_stageIn wsX7_stageIn 1 21 (spX7_stageIn W9) := by
  refine xSem_of (call := callX7_stageIn W9) (thrf := fun _ => "") cI_law (by decide +kernel) rfl ckX7_stageIn usX7_stageIn (crX7_stageIn l hl W9) xThrOK_nil ?_ ?_
  · intro av S KF h
    obtain ⟨a, d, rfl, h⟩ := h
    exact ⟨by intro v hv; simp only [List.mem_cons, List.not_mem_nil, or_false] at hv; rcases hv with rfl | rfl <;> first | rfl | exact cat_rf, Nat.le_of_ble_eq_true rfl⟩
  intro av S KF h G hG
  obtain ⟨a, d, rfl, h⟩ := h
  rw [show (spX7_stageIn W9).1 _ S = _ from spcX7_stageIn] at hG
  try dsimp only at hG
  change G 0 [some (.ref a), some (.int d), none] [] S 0 0
  obtain ⟨h0, h⟩ := h
  refine xgo0 hG (fun fu hfu => ?_)
  clear hG
  simp only [↓callX7_stageIn_0, ↓callX7_stageIn_1, ↓cg_8_8, ↓cg_8_9, kb_60, kb_m30, kc_60, kc_m30, ↓vm_aload_n, ↓vm_bipush, ↓vm_getfield, ↓vm_iload_n, ↓vm_imul, ↓vm_invokestatic, ↓vm_ireturn, ↓vm_istore_n, ↓vm_isub, ↓xc_2, ↓tbX7_stageIn_0, ↓tbX7_stageIn_1, ↓tbX7_stageIn_4, ↓tbX7_stageIn_5, ↓tbX7_stageIn_6, ↓tbX7_stageIn_9, ↓tbX7_stageIn_10, ↓tbX7_stageIn_11, ↓tbX7_stageIn_12, ↓tbX7_stageIn_14, ↓tbX7_stageIn_16, ↓tbX7_stageIn_17, ↓tbX7_stageIn_20, ↓tbX7_stageIn_23, hfu, xstep0, xJ1_hit, xJ1_go, xJ2_hit1, xJ2_hit2, xJ2_go, ↓xif_t, ↓xif_f, seval, ↓xca_eq, ↓xre_l, ↓xre_r, xmask_t, xmask_f, xmask_nil, ↓xst_eq, xX_eq, eI_eq, eMc_eq, eMs_eq, eF_eq, eThr_eq, ↓xS1_mk, ↓xSI_mk, ↓xSR_mk, ↓xLI_0, ↓xLI_s, ↓xLR_0, ↓xLR_s, vRef_ref, vRef_null, vRef_rf, cat_int, cat_ref, cat_null, cat_rf, rf_some, rf_none, rf_null, rf_eq, rf_ref, ref_rf, ref_null, ref_ref, xOk_0, xOk_1, xOk_2r, xOk_2n, xOk_2f, vOpt_rf, vOpt_ref, vOpt_null, List.set_cons_zero, List.set_cons_succ, List.take_succ_cons, List.take_zero, List.drop_succ_cons, List.drop_zero, List.reverse_cons, List.reverse_nil, List.nil_append, List.cons_append, List.append_nil, List.length_cons, List.length_nil, List.map_cons, List.map_nil, List.sum_cons, List.sum_nil, Option.toList_some, Option.toList_none, xRecv_mk, true_and, and_true, true_implies, Nat.reduceAdd, Nat.reduceLeDiff, Nat.zero_le, Nat.le_refl, Nat.add_zero, Nat.zero_add, reduceIte, not_true_eq_false, not_false_eq_true, false_implies, and_self, implies_true, eq_self, Nat.reduceEqDiff, List.cons.injEq, xsn_1, xsn_2, false_and, and_false, or_false, false_or, or_true, true_or, xsn_3, xsn_4, h0, ↓sp_min_w, sp_min_c, ↓sp_max_w, sp_max_c]
  try simp only [xif_e]
  unfold rMax rMin at h
  first | exact h | grind
