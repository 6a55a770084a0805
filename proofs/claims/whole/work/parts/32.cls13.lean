/-! The class: the story's pages. -/
/-- the pages one behind the other; how many notes each has -/
def pgA (S : cS) (o : Nat) : Nat → Nat
  | 0 => cRf S o 700
  | j + 1 => cRf S (pgA S o j) 402
def pgN (S : cS) (o j : Nat) : Nat := (cFi S (pgA S o j) 401).toNatClampNeg
/-- a story of n pages that may be read -/
def stOk (S : cS) (o n : Nat) : Prop := cK S o = 8 ∧ cFr S o 700 = some (cRf S o 700) ∧ 0 < n ∧ ∀ j, j < n → cK S (pgA S o j) = 5 ∧ cIn S (pgA S o j) 400 11 ∧ cLen S (cRf S (pgA S o j) 400) = 64 ∧ cFi S (pgA S o j) 401 = nI (pgN S o j) ∧ pgN S o j ≤ 64 ∧ cFr S (pgA S o j) 402 = (if j + 1 < n then some (pgA S o (j + 1)) else none)
def ltI (S : cS) (d : Nat) (e f w z : Int32) : Nat → Int32
  | 0 => z
  | i + 1 => if (cRi S d i >>> (16 &&& 31) = e ∨ cRi S d i >>> (16 &&& 31) = f) ∧ cRi S d i >>> (8 &&& 31) &&& 255 = w then cRi S d i else ltI S d e f w z i
def ltO (S : cS) (o : Nat) (e f w : Int32) : Nat → Int32
  | 0 => 0
  | j + 1 => ltI S (cRf S (pgA S o j) 400) e f w (ltO S o e f w j) (pgN S o j)

def tbX6_latestOf : List (Nat × xHint) := [(0, .iconst 0, 0, 0, 0, []), (1, .istore 4, 4, 0, 0, []), (3, .aload_n 0, 0, 0, 0, []), (4, .getfield 10, 7, 0, 2, []), (7, .astore 5, 5, 0, 0, []), (9, .aload 5, 5, 0, 0, []), (11, .ifnull 100, 111, 0, 0, []), (14, .iconst 0, 0, 0, 0, []), (15, .istore 6, 6, 0, 0, []), (17, .iload 6, 6, 0, 0, []), (19, .aload 5, 5, 0, 0, []), (21, .getfield 38, 4, 1, 0, []), (24, .if_icmp .ge 77, 101, 0, 0, []), (27, .iload 6, 6, 0, 0, []), (29, .aload 5, 5, 0, 0, []), (31, .getfield 41, 4, 0, 2, []), (34, .arraylength, 0, 0, 0, []), (35, .if_icmp .ge 66, 101, 0, 0, []), (38, .aload 5, 5, 0, 0, []), (40, .getfield 41, 4, 0, 2, []), (43, .iload 6, 6, 0, 0, []), (45, .iaload, 0, 0, 0, []), (46, .istore 7, 7, 0, 0, []), (48, .iload 7, 7, 0, 0, []), (50, .invokestatic 45, 0, 1, 0, []), (53, .iload_n 1, 1, 0, 0, []), (54, .if_icmp .eq 12, 66, 0, 0, []), (57, .iload 7, 7, 0, 0, []), (59, .invokestatic 45, 0, 1, 0, []), (62, .iload_n 2, 2, 0, 0, []), (63, .if_icmp .ne 7, 70, 0, 0, []), (66, .iconst 1, 0, 0, 0, []), (67, .goto 4, 71, 0, 0, []), (70, .iconst 0, 0, 0, 0, []), (71, .istore 8, 8, 0, 0, []), (73, .iload 8, 8, 0, 0, []), (75, .ifCond .eq 20, 95, 0, 0, []), (78, .iload 7, 7, 0, 0, []), (80, .bipush 8, 0, 0, 0, []), (82, .ishr, 0, 0, 0, []), (83, .sipush 255, 0, 0, 0, []), (86, .iand, 0, 0, 0, []), (87, .iload_n 3, 3, 0, 0, []), (88, .if_icmp .ne 7, 95, 0, 0, []), (91, .iload 7, 7, 0, 0, []), (93, .istore 4, 4, 0, 0, []), (95, .iinc 6 1, 6, 0, 0, []), (98, .goto (-81), 17, 0, 0, []), (101, .aload 5, 5, 0, 0, []), (103, .getfield 27, 4, 2, 2, []), (106, .astore 5, 5, 0, 0, []), (108, .goto (-99), 9, 0, 0, []), (111, .iload 4, 4, 0, 0, []), (113, .ireturn, 0, 0, 0, [])]
def clX6_latestOf : List (Instr × Nat × Nat × Nat) := [(.invokestatic 45, 0, 1, 0)]
def thX6_latestOf : List (Nat × Nat) := []
theorem ckX6_latestOf : tbX6_latestOf.all (xRow RX6 cX6_latestOf wsX6_latestOf vwCl [4, 7] clX6_latestOf thX6_latestOf 9 (yX6_latestOf.name == "<init>") (some .int)) = true := xRow_q 0xac04159dffa7053a1b00b40519afffa7010684043607150700a01d7eff00117a0810071514009908150836030400a7040700a01c2d00b807150c009f1b2d00b8071507362e06152900b405194200a2be2900b4051906154d00a22600b4051906150636036400c60519053a0a00b42a043603 114 (by decide +kernel) (by decide +kernel)
theorem usX6_latestOf : xUse wsX6_latestOf vwCl [4, 7] = true := xUse_g rfl (lw_good lwl_X6_latestOf lwl_X30 (by decide +kernel)) (xUse_g rfl (lw_good lwl_X6_latestOf lwl_X60 (by decide +kernel)) xUse_n)
theorem tbX6_latestOf_0 {k : Instr → Nat → Nat → Nat → List Nat → Prop} : xse (xFind tbX6_latestOf 0) k = k (.iconst 0) 0 0 0 [] := rfl
theorem tbX6_latestOf_1 {k : Instr → Nat → Nat → Nat → List Nat → Prop} : xse (xFind tbX6_latestOf 1) k = k (.istore 4) 4 0 0 [] := rfl
theorem tbX6_latestOf_3 {k : Instr → Nat → Nat → Nat → List Nat → Prop} : xse (xFind tbX6_latestOf 3) k = k (.aload_n 0) 0 0 0 [] := rfl
theorem tbX6_latestOf_4 {k : Instr → Nat → Nat → Nat → List Nat → Prop} : xse (xFind tbX6_latestOf 4) k = k (.getfield 10) 7 0 2 [] := rfl
theorem tbX6_latestOf_7 {k : Instr → Nat → Nat → Nat → List Nat → Prop} : xse (xFind tbX6_latestOf 7) k = k (.astore 5) 5 0 0 [] := rfl
theorem tbX6_latestOf_9 {k : Instr → Nat → Nat → Nat → List Nat → Prop} : xse (xFind tbX6_latestOf 9) k = k (.aload 5) 5 0 0 [] := rfl
theorem tbX6_latestOf_11 {k : Instr → Nat → Nat → Nat → List Nat → Prop} : xse (xFind tbX6_latestOf 11) k = k (.ifnull 100) 111 0 0 [] := rfl
theorem tbX6_latestOf_14 {k : Instr → Nat → Nat → Nat → List Nat → Prop} : xse (xFind tbX6_latestOf 14) k = k (.iconst 0) 0 0 0 [] := rfl
theorem tbX6_latestOf_15 {k : Instr → Nat → Nat → Nat → List Nat → Prop} : xse (xFind tbX6_latestOf 15) k = k (.istore 6) 6 0 0 [] := rfl
theorem tbX6_latestOf_17 {k : Instr → Nat → Nat → Nat → List Nat → Prop} : xse (xFind tbX6_latestOf 17) k = k (.iload 6) 6 0 0 [] := rfl
theorem tbX6_latestOf_19 {k : Instr → Nat → Nat → Nat → List Nat → Prop} : xse (xFind tbX6_latestOf 19) k = k (.aload 5) 5 0 0 [] := rfl
theorem tbX6_latestOf_21 {k : Instr → Nat → Nat → Nat → List Nat → Prop} : xse (xFind tbX6_latestOf 21) k = k (.getfield 38) 4 1 0 [] := rfl
theorem tbX6_latestOf_24 {k : Instr → Nat → Nat → Nat → List Nat → Prop} : xse (xFind tbX6_latestOf 24) k = k (.if_icmp .ge 77) 101 0 0 [] := rfl
theorem tbX6_latestOf_27 {k : Instr → Nat → Nat → Nat → List Nat → Prop} : xse (xFind tbX6_latestOf 27) k = k (.iload 6) 6 0 0 [] := rfl
theorem tbX6_latestOf_29 {k : Instr → Nat → Nat → Nat → List Nat → Prop} : xse (xFind tbX6_latestOf 29) k = k (.aload 5) 5 0 0 [] := rfl
theorem tbX6_latestOf_31 {k : Instr → Nat → Nat → Nat → List Nat → Prop} : xse (xFind tbX6_latestOf 31) k = k (.getfield 41) 4 0 2 [] := rfl
theorem tbX6_latestOf_34 {k : Instr → Nat → Nat → Nat → List Nat → Prop} : xse (xFind tbX6_latestOf 34) k = k (.arraylength) 0 0 0 [] := rfl
theorem tbX6_latestOf_35 {k : Instr → Nat → Nat → Nat → List Nat → Prop} : xse (xFind tbX6_latestOf 35) k = k (.if_icmp .ge 66) 101 0 0 [] := rfl
theorem tbX6_latestOf_38 {k : Instr → Nat → Nat → Nat → List Nat → Prop} : xse (xFind tbX6_latestOf 38) k = k (.aload 5) 5 0 0 [] := rfl
theorem tbX6_latestOf_40 {k : Instr → Nat → Nat → Nat → List Nat → Prop} : xse (xFind tbX6_latestOf 40) k = k (.getfield 41) 4 0 2 [] := rfl
theorem tbX6_latestOf_43 {k : Instr → Nat → Nat → Nat → List Nat → Prop} : xse (xFind tbX6_latestOf 43) k = k (.iload 6) 6 0 0 [] := rfl
theorem tbX6_latestOf_45 {k : Instr → Nat → Nat → Nat → List Nat → Prop} : xse (xFind tbX6_latestOf 45) k = k (.iaload) 0 0 0 [] := rfl
theorem tbX6_latestOf_46 {k : Instr → Nat → Nat → Nat → List Nat → Prop} : xse (xFind tbX6_latestOf 46) k = k (.istore 7) 7 0 0 [] := rfl
theorem tbX6_latestOf_48 {k : Instr → Nat → Nat → Nat → List Nat → Prop} : xse (xFind tbX6_latestOf 48) k = k (.iload 7) 7 0 0 [] := rfl
theorem tbX6_latestOf_50 {k : Instr → Nat → Nat → Nat → List Nat → Prop} : xse (xFind tbX6_latestOf 50) k = k (.invokestatic 45) 0 1 0 [] := rfl
theorem tbX6_latestOf_53 {k : Instr → Nat → Nat → Nat → List Nat → Prop} : xse (xFind tbX6_latestOf 53) k = k (.iload_n 1) 1 0 0 [] := rfl
theorem tbX6_latestOf_54 {k : Instr → Nat → Nat → Nat → List Nat → Prop} : xse (xFind tbX6_latestOf 54) k = k (.if_icmp .eq 12) 66 0 0 [] := rfl
theorem tbX6_latestOf_57 {k : Instr → Nat → Nat → Nat → List Nat → Prop} : xse (xFind tbX6_latestOf 57) k = k (.iload 7) 7 0 0 [] := rfl
theorem tbX6_latestOf_59 {k : Instr → Nat → Nat → Nat → List Nat → Prop} : xse (xFind tbX6_latestOf 59) k = k (.invokestatic 45) 0 1 0 [] := rfl
theorem tbX6_latestOf_62 {k : Instr → Nat → Nat → Nat → List Nat → Prop} : xse (xFind tbX6_latestOf 62) k = k (.iload_n 2) 2 0 0 [] := rfl
theorem tbX6_latestOf_63 {k : Instr → Nat → Nat → Nat → List Nat → Prop} : xse (xFind tbX6_latestOf 63) k = k (.if_icmp .ne 7) 70 0 0 [] := rfl
theorem tbX6_latestOf_66 {k : Instr → Nat → Nat → Nat → List Nat → Prop} : xse (xFind tbX6_latestOf 66) k = k (.iconst 1) 0 0 0 [] := rfl
theorem tbX6_latestOf_67 {k : Instr → Nat → Nat → Nat → List Nat → Prop} : xse (xFind tbX6_latestOf 67) k = k (.goto 4) 71 0 0 [] := rfl
theorem tbX6_latestOf_70 {k : Instr → Nat → Nat → Nat → List Nat → Prop} : xse (xFind tbX6_latestOf 70) k = k (.iconst 0) 0 0 0 [] := rfl
theorem tbX6_latestOf_71 {k : Instr → Nat → Nat → Nat → List Nat → Prop} : xse (xFind tbX6_latestOf 71) k = k (.istore 8) 8 0 0 [] := rfl
theorem tbX6_latestOf_73 {k : Instr → Nat → Nat → Nat → List Nat → Prop} : xse (xFind tbX6_latestOf 73) k = k (.iload 8) 8 0 0 [] := rfl
theorem tbX6_latestOf_75 {k : Instr → Nat → Nat → Nat → List Nat → Prop} : xse (xFind tbX6_latestOf 75) k = k (.ifCond .eq 20) 95 0 0 [] := rfl
theorem tbX6_latestOf_78 {k : Instr → Nat → Nat → Nat → List Nat → Prop} : xse (xFind tbX6_latestOf 78) k = k (.iload 7) 7 0 0 [] := rfl
theorem tbX6_latestOf_80 {k : Instr → Nat → Nat → Nat → List Nat → Prop} : xse (xFind tbX6_latestOf 80) k = k (.bipush 8) 0 0 0 [] := rfl
theorem tbX6_latestOf_82 {k : Instr → Nat → Nat → Nat → List Nat → Prop} : xse (xFind tbX6_latestOf 82) k = k (.ishr) 0 0 0 [] := rfl
theorem tbX6_latestOf_83 {k : Instr → Nat → Nat → Nat → List Nat → Prop} : xse (xFind tbX6_latestOf 83) k = k (.sipush 255) 0 0 0 [] := rfl
theorem tbX6_latestOf_86 {k : Instr → Nat → Nat → Nat → List Nat → Prop} : xse (xFind tbX6_latestOf 86) k = k (.iand) 0 0 0 [] := rfl
theorem tbX6_latestOf_87 {k : Instr → Nat → Nat → Nat → List Nat → Prop} : xse (xFind tbX6_latestOf 87) k = k (.iload_n 3) 3 0 0 [] := rfl
theorem tbX6_latestOf_88 {k : Instr → Nat → Nat → Nat → List Nat → Prop} : xse (xFind tbX6_latestOf 88) k = k (.if_icmp .ne 7) 95 0 0 [] := rfl
theorem tbX6_latestOf_91 {k : Instr → Nat → Nat → Nat → List Nat → Prop} : xse (xFind tbX6_latestOf 91) k = k (.iload 7) 7 0 0 [] := rfl
theorem tbX6_latestOf_93 {k : Instr → Nat → Nat → Nat → List Nat → Prop} : xse (xFind tbX6_latestOf 93) k = k (.istore 4) 4 0 0 [] := rfl
theorem tbX6_latestOf_95 {k : Instr → Nat → Nat → Nat → List Nat → Prop} : xse (xFind tbX6_latestOf 95) k = k (.iinc 6 1) 6 0 0 [] := rfl
theorem tbX6_latestOf_98 {k : Instr → Nat → Nat → Nat → List Nat → Prop} : xse (xFind tbX6_latestOf 98) k = k (.goto (-81)) 17 0 0 [] := rfl
theorem tbX6_latestOf_101 {k : Instr → Nat → Nat → Nat → List Nat → Prop} : xse (xFind tbX6_latestOf 101) k = k (.aload 5) 5 0 0 [] := rfl
theorem tbX6_latestOf_103 {k : Instr → Nat → Nat → Nat → List Nat → Prop} : xse (xFind tbX6_latestOf 103) k = k (.getfield 27) 4 2 2 [] := rfl
theorem tbX6_latestOf_106 {k : Instr → Nat → Nat → Nat → List Nat → Prop} : xse (xFind tbX6_latestOf 106) k = k (.astore 5) 5 0 0 [] := rfl
theorem tbX6_latestOf_108 {k : Instr → Nat → Nat → Nat → List Nat → Prop} : xse (xFind tbX6_latestOf 108) k = k (.goto (-99)) 9 0 0 [] := rfl
theorem tbX6_latestOf_111 {k : Instr → Nat → Nat → Nat → List Nat → Prop} : xse (xFind tbX6_latestOf 111) k = k (.iload 4) 4 0 0 [] := rfl
theorem tbX6_latestOf_113 {k : Instr → Nat → Nat → Nat → List Nat → Prop} : xse (xFind tbX6_latestOf 113) k = k (.ireturn) 0 0 0 [] := rfl

def spX6_latestOf (W9 : xWd) : xSp cS := (fun av S => (0, 0), fun av S K => ∃ (a : Nat) (e : Int32) (f : Int32) (w : Int32), av = [.ref a, .int e, .int f, .int w] ∧ (∃ n, stOk S a n ∧ K (rI (ltO S a e f w n)) S))
theorem spcX6_latestOf {av : List Value} {S : cS} {W9 : xWd} : (spX6_latestOf W9).1 av S = (0, 0) := rfl
theorem spwX6_latestOf {S : cS} {W9 : xWd} {K : xRes → cS → Prop} {a : Nat} {e : Int32} {f : Int32} {w : Int32} : (spX6_latestOf W9).2 [.ref a, .int e, .int f, .int w] S K = (∃ n, stOk S a n ∧ K (rI (ltO S a e f w n)) S) :=
  propext ⟨fun h => by
    simp only [spX6_latestOf] at h
    obtain ⟨_, _, _, _, e, h⟩ := h
    simp only [List.cons.injEq, Value.int.injEq, Value.ref.injEq, rf_eq, and_true, true_and] at e
    obtain ⟨rfl, rfl, rfl, rfl⟩ := e
    exact h, fun h => ⟨_, _, _, _, rfl, h⟩⟩

def callX6_latestOf (W9 : xWd) : Nat → Option (xSp cS) := fun n => match n with | 0 => some (spX6_eventOf W9) | _ => none

theorem callX6_latestOf_0 {W9 : xWd} {k : xSp cS → Prop} : xcs (callX6_latestOf W9 0) k = k (spX6_eventOf W9) := rfl

theorem crX6_latestOf (l : Launch) (hl : l.stackTraces = false) (W9 : xWd) : xCallsOK l W9 (cI) (callX6_latestOf W9) clX6_latestOf RX6 wsX6_latestOf 1 20 9 := by
  intro E A p e R s m args below meth c hI hF hL X
  exact List.forall_mem_cons.mpr ⟨⟨_, rfl, xCR_S X (by rw [hI]; exact (semX6_eventOf l hl W9)) gX6_latestOf_X6_eventOf rfl (by decide +kernel) (by rw [hF, hL]; decide)⟩,
    fun _ h => nomatch h⟩

set_option maxHeartbeats 4000000 in
set_option maxRecDepth 20000 in
theorem semX6_latestOf (l : Launch) (hl : l.stackTraces = false) (W9 : xWd) : xSem l W9 (cI) yX6_latestOf wsX6_latestOf 1 20 (spX6_latestOf W9) := by
  refine xSem_of (call := callX6_latestOf W9) (thrf := fun _ => "") cI_law (by decide +kernel) rfl ckX6_latestOf usX6_latestOf (crX6_latestOf l hl W9) xThrOK_nil ?_ ?_
  · intro av S KF h
    obtain ⟨a, e, f, w, rfl, h⟩ := h
    exact ⟨by intro v hv; simp only [List.mem_cons, List.not_mem_nil, or_false] at hv; rcases hv with rfl | rfl | rfl | rfl <;> first | rfl | exact cat_rf, Nat.le_of_ble_eq_true rfl⟩
  intro av S KF h G hG
  obtain ⟨a, e, f, w, rfl, h⟩ := h
  rw [show (spX6_latestOf W9).1 _ S = _ from spcX6_latestOf] at hG
  try dsimp only at hG
  change G 0 [some (.ref a), some (.int e), some (.int f), some (.int w), none, none, none, none, none] [] S 0 0
  obtain ⟨n, ⟨h0, h1, hn, hp⟩, h⟩ := h

  have hpg0 : pgA S a 0 = cRf S a 700 := rfl
  have cE : ∀ lv st S2 cs ss, (lv = [some (.ref a), some (.int e), some (.int f), some (.int w), some (.int (ltO S a e f w n)), some .null, none, none, none] ∧ st = [] ∧ S = S2 ∧ cs = 0 ∧ ss = 0) → G 9 lv st S2 cs ss := by
    rintro lv st S2 cs ss ⟨rfl, rfl, rfl, rfl, (rfl)⟩
    refine xgo0 hG (fun fu hfu => ?_)
    simp only [↓cald_0, ↓calen, ↓callX6_latestOf_0, ↓cg_4_0, ↓cg_4_1, ↓cg_4_2, ↓cg_7_0, kb_8, kc_8, ki_0, ki_1, ks_255, kt_255, ↓vm_aload, ↓vm_aload_n, ↓vm_arraylength, ↓vm_astore, ↓vm_bipush, ↓vm_getfield, ↓vm_goto, ↓vm_iaload, ↓vm_iand, ↓vm_iconst, ↓vm_ifCond_eq, ↓vm_if_icmp_eq, ↓vm_if_icmp_ge, ↓vm_if_icmp_ne, ↓vm_ifnull, ↓vm_iinc, ↓vm_iload, ↓vm_iload_n, ↓vm_invokestatic, ↓vm_ireturn, ↓vm_ishr, ↓vm_istore, ↓vm_sipush, ↓xc_1, ↓tbX6_latestOf_0, ↓tbX6_latestOf_1, ↓tbX6_latestOf_3, ↓tbX6_latestOf_4, ↓tbX6_latestOf_7, ↓tbX6_latestOf_9, ↓tbX6_latestOf_11, ↓tbX6_latestOf_14, ↓tbX6_latestOf_15, ↓tbX6_latestOf_17, ↓tbX6_latestOf_19, ↓tbX6_latestOf_21, ↓tbX6_latestOf_24, ↓tbX6_latestOf_27, ↓tbX6_latestOf_29, ↓tbX6_latestOf_31, ↓tbX6_latestOf_34, ↓tbX6_latestOf_35, ↓tbX6_latestOf_38, ↓tbX6_latestOf_40, ↓tbX6_latestOf_43, ↓tbX6_latestOf_45, ↓tbX6_latestOf_46, ↓tbX6_latestOf_48, ↓tbX6_latestOf_50, ↓tbX6_latestOf_53, ↓tbX6_latestOf_54, ↓tbX6_latestOf_57, ↓tbX6_latestOf_59, ↓tbX6_latestOf_62, ↓tbX6_latestOf_63, ↓tbX6_latestOf_66, ↓tbX6_latestOf_67, ↓tbX6_latestOf_70, ↓tbX6_latestOf_71, ↓tbX6_latestOf_73, ↓tbX6_latestOf_75, ↓tbX6_latestOf_78, ↓tbX6_latestOf_80, ↓tbX6_latestOf_82, ↓tbX6_latestOf_83, ↓tbX6_latestOf_86, ↓tbX6_latestOf_87, ↓tbX6_latestOf_88, ↓tbX6_latestOf_91, ↓tbX6_latestOf_93, ↓tbX6_latestOf_95, ↓tbX6_latestOf_98, ↓tbX6_latestOf_101, ↓tbX6_latestOf_103, ↓tbX6_latestOf_106, ↓tbX6_latestOf_108, ↓tbX6_latestOf_111, ↓tbX6_latestOf_113, hfu, xstep0, xJ1_hit, xJ1_go, xJ2_hit1, xJ2_hit2, xJ2_go, ↓xif_t, ↓xif_f, seval, ↓xca_eq, ↓xre_l, ↓xre_r, xmask_t, xmask_f, xmask_nil, ↓xst_eq, xX_eq, eI_eq, eMc_eq, eMs_eq, eF_eq, eThr_eq, ↓xS1_mk, ↓xSI_mk, ↓xSR_mk, ↓xLI_0, ↓xLI_s, ↓xLR_0, ↓xLR_s, vRef_ref, vRef_null, vRef_rf, cat_int, cat_ref, cat_null, cat_rf, rf_some, rf_none, rf_null, rf_eq, rf_ref, ref_rf, ref_null, ref_ref, xOk_0, xOk_1, xOk_2r, xOk_2n, xOk_2f, vOpt_rf, vOpt_ref, vOpt_null, List.set_cons_zero, List.set_cons_succ, List.take_succ_cons, List.take_zero, List.drop_succ_cons, List.drop_zero, List.reverse_cons, List.reverse_nil, List.nil_append, List.cons_append, List.append_nil, List.length_cons, List.length_nil, List.map_cons, List.map_nil, List.sum_cons, List.sum_nil, Option.toList_some, Option.toList_none, xRecv_mk, true_and, and_true, true_implies, Nat.reduceAdd, Nat.reduceLeDiff, Nat.zero_le, Nat.le_refl, Nat.add_zero, Nat.zero_add, reduceIte, not_true_eq_false, not_false_eq_true, false_implies, and_self, implies_true, eq_self, Nat.reduceEqDiff, List.cons.injEq, xsn_1, xsn_2, false_and, and_false, or_false, false_or, or_true, true_or, xsn_3, xsn_4, ↓spwX6_eventOf, spcX6_eventOf]
    try simp only [xif_e]
    exact h
  have loop : ∀ m j, j + m + 1 = n → ∀ lv st S2 cs ss, (lv = [some (.ref a), some (.int e), some (.int f), some (.int w), some (.int (ltO S a e f w j)), some (.ref (pgA S a j)), none, none, none] ∧ st = [] ∧ S = S2 ∧ cs = 0 ∧ ss = 0) → G 9 lv st S2 cs ss := by
    have inner : ∀ j, j < n → (∀ lv st S2 cs ss, (lv = [some (.ref a), some (.int e), some (.int f), some (.int w), some (.int (ltO S a e f w (j + 1))), some (va_rf (if j + 1 < n then some (pgA S a (j + 1)) else none)), none, none, none] ∧ st = [] ∧ S = S2 ∧ cs = 0 ∧ ss = 0) → G 9 lv st S2 cs ss) → ∀ lv st S2 cs ss, (lv = [some (.ref a), some (.int e), some (.int f), some (.int w), some (.int (ltO S a e f w j)), some (.ref (pgA S a j)), none, none, none] ∧ st = [] ∧ S = S2 ∧ cs = 0 ∧ ss = 0) → G 9 lv st S2 cs ss := by
      intro j hj hnext
      obtain ⟨p1, ⟨p2, p3⟩, p4, p5, p6, p7⟩ := hp j hj
      have hO : ltO S a e f w (j + 1) = ltI S (cRf S (pgA S a j) 400) e f w (ltO S a e f w j) (pgN S a j) := rfl
      rw [hO] at hnext
      generalize hd : cRf S (pgA S a j) 400 = d at *
      generalize hu : pgN S a j = u at *
      generalize hz : ltO S a e f w j = z at *
      have il := xloop2 hG 17 [true, true, true, true, true, true, true, false, false] (fun i lv st S2 cs ss => lv = [some (.ref a), some (.int e), some (.int f), some (.int w), some (.int (ltI S d e f w z i)), some (.ref (pgA S a j)), some (.int (nI i)), none, none] ∧ st = [] ∧ S = S2 ∧ cs = 0 ∧ ss = 0) u 9 [true, true, true, true, true, true, false, false, false] _ hnext (by
          rintro i hi lv st S2 cs ss ⟨rfl, rfl, rfl, rfl, rfl⟩ fu hfu
          have e0 : (nI u ≤ nI i) = False := ge_nI hi (by omega)
          have e1 : ((64 : Int32) ≤ nI i) = False := ge_nI (show i < 64 by omega) (show 64 < 1000 by omega)
          have hs : ltI S d e f w z (i + 1) = if (cRi S d i >>> (16 &&& 31) = e ∨ cRi S d i >>> (16 &&& 31) = f) ∧ cRi S d i >>> (8 &&& 31) &&& 255 = w then cRi S d i else ltI S d e f w z i := rfl
          simp only [↓cald_0, ↓calen, ↓callX6_latestOf_0, ↓cg_4_0, ↓cg_4_1, ↓cg_4_2, ↓cg_7_0, kb_8, kc_8, ki_0, ki_1, ks_255, kt_255, ↓vm_aload, ↓vm_aload_n, ↓vm_arraylength, ↓vm_astore, ↓vm_bipush, ↓vm_getfield, ↓vm_goto, ↓vm_iaload, ↓vm_iand, ↓vm_iconst, ↓vm_ifCond_eq, ↓vm_if_icmp_eq, ↓vm_if_icmp_ge, ↓vm_if_icmp_ne, ↓vm_ifnull, ↓vm_iinc, ↓vm_iload, ↓vm_iload_n, ↓vm_invokestatic, ↓vm_ireturn, ↓vm_ishr, ↓vm_istore, ↓vm_sipush, ↓xc_1, ↓tbX6_latestOf_0, ↓tbX6_latestOf_1, ↓tbX6_latestOf_3, ↓tbX6_latestOf_4, ↓tbX6_latestOf_7, ↓tbX6_latestOf_9, ↓tbX6_latestOf_11, ↓tbX6_latestOf_14, ↓tbX6_latestOf_15, ↓tbX6_latestOf_17, ↓tbX6_latestOf_19, ↓tbX6_latestOf_21, ↓tbX6_latestOf_24, ↓tbX6_latestOf_27, ↓tbX6_latestOf_29, ↓tbX6_latestOf_31, ↓tbX6_latestOf_34, ↓tbX6_latestOf_35, ↓tbX6_latestOf_38, ↓tbX6_latestOf_40, ↓tbX6_latestOf_43, ↓tbX6_latestOf_45, ↓tbX6_latestOf_46, ↓tbX6_latestOf_48, ↓tbX6_latestOf_50, ↓tbX6_latestOf_53, ↓tbX6_latestOf_54, ↓tbX6_latestOf_57, ↓tbX6_latestOf_59, ↓tbX6_latestOf_62, ↓tbX6_latestOf_63, ↓tbX6_latestOf_66, ↓tbX6_latestOf_67, ↓tbX6_latestOf_70, ↓tbX6_latestOf_71, ↓tbX6_latestOf_73, ↓tbX6_latestOf_75, ↓tbX6_latestOf_78, ↓tbX6_latestOf_80, ↓tbX6_latestOf_82, ↓tbX6_latestOf_83, ↓tbX6_latestOf_86, ↓tbX6_latestOf_87, ↓tbX6_latestOf_88, ↓tbX6_latestOf_91, ↓tbX6_latestOf_93, ↓tbX6_latestOf_95, ↓tbX6_latestOf_98, ↓tbX6_latestOf_101, ↓tbX6_latestOf_103, ↓tbX6_latestOf_106, ↓tbX6_latestOf_108, ↓tbX6_latestOf_111, ↓tbX6_latestOf_113, hfu, xstep0, xJ1_hit, xJ1_go, xJ2_hit1, xJ2_hit2, xJ2_go, ↓xif_t, ↓xif_f, seval, ↓xca_eq, ↓xre_l, ↓xre_r, xmask_t, xmask_f, xmask_nil, ↓xst_eq, xX_eq, eI_eq, eMc_eq, eMs_eq, eF_eq, eThr_eq, ↓xS1_mk, ↓xSI_mk, ↓xSR_mk, ↓xLI_0, ↓xLI_s, ↓xLR_0, ↓xLR_s, vRef_ref, vRef_null, vRef_rf, cat_int, cat_ref, cat_null, cat_rf, rf_some, rf_none, rf_null, rf_eq, rf_ref, ref_rf, ref_null, ref_ref, xOk_0, xOk_1, xOk_2r, xOk_2n, xOk_2f, vOpt_rf, vOpt_ref, vOpt_null, List.set_cons_zero, List.set_cons_succ, List.take_succ_cons, List.take_zero, List.drop_succ_cons, List.drop_zero, List.reverse_cons, List.reverse_nil, List.nil_append, List.cons_append, List.append_nil, List.length_cons, List.length_nil, List.map_cons, List.map_nil, List.sum_cons, List.sum_nil, Option.toList_some, Option.toList_none, xRecv_mk, true_and, and_true, true_implies, Nat.reduceAdd, Nat.reduceLeDiff, Nat.zero_le, Nat.le_refl, Nat.add_zero, Nat.zero_add, reduceIte, not_true_eq_false, not_false_eq_true, false_implies, and_self, implies_true, eq_self, Nat.reduceEqDiff, List.cons.injEq, xsn_1, xsn_2, false_and, and_false, or_false, false_or, or_true, true_or, xsn_3, xsn_4, ↓spwX6_eventOf, spcX6_eventOf, p1, p2, hd, p3, p4, p5, e0, e1, xin_nI (show i < 64 by omega) (show 64 ≤ 1000 by omega), ix_nI (show i < 1000 by omega), nI1]
          try simp only [xif_e]
          repeat' (first | with_reducible apply And.intro | with_reducible intro _)
          all_goals grind) (by
          rintro lv st S2 cs ss ⟨rfl, rfl, rfl, rfl, rfl⟩ fu hfu
          simp only [↓cald_0, ↓calen, ↓callX6_latestOf_0, ↓cg_4_0, ↓cg_4_1, ↓cg_4_2, ↓cg_7_0, kb_8, kc_8, ki_0, ki_1, ks_255, kt_255, ↓vm_aload, ↓vm_aload_n, ↓vm_arraylength, ↓vm_astore, ↓vm_bipush, ↓vm_getfield, ↓vm_goto, ↓vm_iaload, ↓vm_iand, ↓vm_iconst, ↓vm_ifCond_eq, ↓vm_if_icmp_eq, ↓vm_if_icmp_ge, ↓vm_if_icmp_ne, ↓vm_ifnull, ↓vm_iinc, ↓vm_iload, ↓vm_iload_n, ↓vm_invokestatic, ↓vm_ireturn, ↓vm_ishr, ↓vm_istore, ↓vm_sipush, ↓xc_1, ↓tbX6_latestOf_0, ↓tbX6_latestOf_1, ↓tbX6_latestOf_3, ↓tbX6_latestOf_4, ↓tbX6_latestOf_7, ↓tbX6_latestOf_9, ↓tbX6_latestOf_11, ↓tbX6_latestOf_14, ↓tbX6_latestOf_15, ↓tbX6_latestOf_17, ↓tbX6_latestOf_19, ↓tbX6_latestOf_21, ↓tbX6_latestOf_24, ↓tbX6_latestOf_27, ↓tbX6_latestOf_29, ↓tbX6_latestOf_31, ↓tbX6_latestOf_34, ↓tbX6_latestOf_35, ↓tbX6_latestOf_38, ↓tbX6_latestOf_40, ↓tbX6_latestOf_43, ↓tbX6_latestOf_45, ↓tbX6_latestOf_46, ↓tbX6_latestOf_48, ↓tbX6_latestOf_50, ↓tbX6_latestOf_53, ↓tbX6_latestOf_54, ↓tbX6_latestOf_57, ↓tbX6_latestOf_59, ↓tbX6_latestOf_62, ↓tbX6_latestOf_63, ↓tbX6_latestOf_66, ↓tbX6_latestOf_67, ↓tbX6_latestOf_70, ↓tbX6_latestOf_71, ↓tbX6_latestOf_73, ↓tbX6_latestOf_75, ↓tbX6_latestOf_78, ↓tbX6_latestOf_80, ↓tbX6_latestOf_82, ↓tbX6_latestOf_83, ↓tbX6_latestOf_86, ↓tbX6_latestOf_87, ↓tbX6_latestOf_88, ↓tbX6_latestOf_91, ↓tbX6_latestOf_93, ↓tbX6_latestOf_95, ↓tbX6_latestOf_98, ↓tbX6_latestOf_101, ↓tbX6_latestOf_103, ↓tbX6_latestOf_106, ↓tbX6_latestOf_108, ↓tbX6_latestOf_111, ↓tbX6_latestOf_113, hfu, xstep0, xJ1_hit, xJ1_go, xJ2_hit1, xJ2_hit2, xJ2_go, ↓xif_t, ↓xif_f, seval, ↓xca_eq, ↓xre_l, ↓xre_r, xmask_t, xmask_f, xmask_nil, ↓xst_eq, xX_eq, eI_eq, eMc_eq, eMs_eq, eF_eq, eThr_eq, ↓xS1_mk, ↓xSI_mk, ↓xSR_mk, ↓xLI_0, ↓xLI_s, ↓xLR_0, ↓xLR_s, vRef_ref, vRef_null, vRef_rf, cat_int, cat_ref, cat_null, cat_rf, rf_some, rf_none, rf_null, rf_eq, rf_ref, ref_rf, ref_null, ref_ref, xOk_0, xOk_1, xOk_2r, xOk_2n, xOk_2f, vOpt_rf, vOpt_ref, vOpt_null, List.set_cons_zero, List.set_cons_succ, List.take_succ_cons, List.take_zero, List.drop_succ_cons, List.drop_zero, List.reverse_cons, List.reverse_nil, List.nil_append, List.cons_append, List.append_nil, List.length_cons, List.length_nil, List.map_cons, List.map_nil, List.sum_cons, List.sum_nil, Option.toList_some, Option.toList_none, xRecv_mk, true_and, and_true, true_implies, Nat.reduceAdd, Nat.reduceLeDiff, Nat.zero_le, Nat.le_refl, Nat.add_zero, Nat.zero_add, reduceIte, not_true_eq_false, not_false_eq_true, false_implies, and_self, implies_true, eq_self, Nat.reduceEqDiff, List.cons.injEq, xsn_1, xsn_2, false_and, and_false, or_false, false_or, or_true, true_or, xsn_3, xsn_4, ↓spwX6_eventOf, spcX6_eventOf, p1, p2, hd, p3, p5, p7, le_nI_self]
          try simp only [xif_e]
          repeat' (first | rfl | apply And.intro))
      rintro lv st S2 cs ss ⟨rfl, rfl, rfl, rfl, (rfl)⟩
      refine xgo hG (mb := [true, true, true, true, true, true, true, false, false]) (il 0 (Nat.zero_le _)) (fun fu hfu => ?_)
      simp only [↓cald_0, ↓calen, ↓callX6_latestOf_0, ↓cg_4_0, ↓cg_4_1, ↓cg_4_2, ↓cg_7_0, kb_8, kc_8, ki_0, ki_1, ks_255, kt_255, ↓vm_aload, ↓vm_aload_n, ↓vm_arraylength, ↓vm_astore, ↓vm_bipush, ↓vm_getfield, ↓vm_goto, ↓vm_iaload, ↓vm_iand, ↓vm_iconst, ↓vm_ifCond_eq, ↓vm_if_icmp_eq, ↓vm_if_icmp_ge, ↓vm_if_icmp_ne, ↓vm_ifnull, ↓vm_iinc, ↓vm_iload, ↓vm_iload_n, ↓vm_invokestatic, ↓vm_ireturn, ↓vm_ishr, ↓vm_istore, ↓vm_sipush, ↓xc_1, ↓tbX6_latestOf_0, ↓tbX6_latestOf_1, ↓tbX6_latestOf_3, ↓tbX6_latestOf_4, ↓tbX6_latestOf_7, ↓tbX6_latestOf_9, ↓tbX6_latestOf_11, ↓tbX6_latestOf_14, ↓tbX6_latestOf_15, ↓tbX6_latestOf_17, ↓tbX6_latestOf_19, ↓tbX6_latestOf_21, ↓tbX6_latestOf_24, ↓tbX6_latestOf_27, ↓tbX6_latestOf_29, ↓tbX6_latestOf_31, ↓tbX6_latestOf_34, ↓tbX6_latestOf_35, ↓tbX6_latestOf_38, ↓tbX6_latestOf_40, ↓tbX6_latestOf_43, ↓tbX6_latestOf_45, ↓tbX6_latestOf_46, ↓tbX6_latestOf_48, ↓tbX6_latestOf_50, ↓tbX6_latestOf_53, ↓tbX6_latestOf_54, ↓tbX6_latestOf_57, ↓tbX6_latestOf_59, ↓tbX6_latestOf_62, ↓tbX6_latestOf_63, ↓tbX6_latestOf_66, ↓tbX6_latestOf_67, ↓tbX6_latestOf_70, ↓tbX6_latestOf_71, ↓tbX6_latestOf_73, ↓tbX6_latestOf_75, ↓tbX6_latestOf_78, ↓tbX6_latestOf_80, ↓tbX6_latestOf_82, ↓tbX6_latestOf_83, ↓tbX6_latestOf_86, ↓tbX6_latestOf_87, ↓tbX6_latestOf_88, ↓tbX6_latestOf_91, ↓tbX6_latestOf_93, ↓tbX6_latestOf_95, ↓tbX6_latestOf_98, ↓tbX6_latestOf_101, ↓tbX6_latestOf_103, ↓tbX6_latestOf_106, ↓tbX6_latestOf_108, ↓tbX6_latestOf_111, ↓tbX6_latestOf_113, hfu, xstep0, xJ1_hit, xJ1_go, xJ2_hit1, xJ2_hit2, xJ2_go, ↓xif_t, ↓xif_f, seval, ↓xca_eq, ↓xre_l, ↓xre_r, xmask_t, xmask_f, xmask_nil, ↓xst_eq, xX_eq, eI_eq, eMc_eq, eMs_eq, eF_eq, eThr_eq, ↓xS1_mk, ↓xSI_mk, ↓xSR_mk, ↓xLI_0, ↓xLI_s, ↓xLR_0, ↓xLR_s, vRef_ref, vRef_null, vRef_rf, cat_int, cat_ref, cat_null, cat_rf, rf_some, rf_none, rf_null, rf_eq, rf_ref, ref_rf, ref_null, ref_ref, xOk_0, xOk_1, xOk_2r, xOk_2n, xOk_2f, vOpt_rf, vOpt_ref, vOpt_null, List.set_cons_zero, List.set_cons_succ, List.take_succ_cons, List.take_zero, List.drop_succ_cons, List.drop_zero, List.reverse_cons, List.reverse_nil, List.nil_append, List.cons_append, List.append_nil, List.length_cons, List.length_nil, List.map_cons, List.map_nil, List.sum_cons, List.sum_nil, Option.toList_some, Option.toList_none, xRecv_mk, true_and, and_true, true_implies, Nat.reduceAdd, Nat.reduceLeDiff, Nat.zero_le, Nat.le_refl, Nat.add_zero, Nat.zero_add, reduceIte, not_true_eq_false, not_false_eq_true, false_implies, and_self, implies_true, eq_self, Nat.reduceEqDiff, List.cons.injEq, xsn_1, xsn_2, false_and, and_false, or_false, false_or, or_true, true_or, xsn_3, xsn_4, ↓spwX6_eventOf, spcX6_eventOf]
      try simp only [xif_e]
      repeat' (first | rfl | apply And.intro)
    intro m
    induction m with
    | zero =>
      intro j hj
      refine inner j (by omega) ?_
      rw [if_neg (by omega), show j + 1 = n by omega]
      exact cE
    | succ m ih =>
      intro j hj
      refine inner j (by omega) ?_
      rw [if_pos (by omega)]
      exact ih (j + 1) (by omega)
  refine xgo hG (mb := [true, true, true, true, true, true, false, false, false]) (loop (n - 1) 0 (by omega)) (pc := 0) (fun fu hfu => ?_)
  simp only [↓cald_0, ↓calen, ↓callX6_latestOf_0, ↓cg_4_0, ↓cg_4_1, ↓cg_4_2, ↓cg_7_0, kb_8, kc_8, ki_0, ki_1, ks_255, kt_255, ↓vm_aload, ↓vm_aload_n, ↓vm_arraylength, ↓vm_astore, ↓vm_bipush, ↓vm_getfield, ↓vm_goto, ↓vm_iaload, ↓vm_iand, ↓vm_iconst, ↓vm_ifCond_eq, ↓vm_if_icmp_eq, ↓vm_if_icmp_ge, ↓vm_if_icmp_ne, ↓vm_ifnull, ↓vm_iinc, ↓vm_iload, ↓vm_iload_n, ↓vm_invokestatic, ↓vm_ireturn, ↓vm_ishr, ↓vm_istore, ↓vm_sipush, ↓xc_1, ↓tbX6_latestOf_0, ↓tbX6_latestOf_1, ↓tbX6_latestOf_3, ↓tbX6_latestOf_4, ↓tbX6_latestOf_7, ↓tbX6_latestOf_9, ↓tbX6_latestOf_11, ↓tbX6_latestOf_14, ↓tbX6_latestOf_15, ↓tbX6_latestOf_17, ↓tbX6_latestOf_19, ↓tbX6_latestOf_21, ↓tbX6_latestOf_24, ↓tbX6_latestOf_27, ↓tbX6_latestOf_29, ↓tbX6_latestOf_31, ↓tbX6_latestOf_34, ↓tbX6_latestOf_35, ↓tbX6_latestOf_38, ↓tbX6_latestOf_40, ↓tbX6_latestOf_43, ↓tbX6_latestOf_45, ↓tbX6_latestOf_46, ↓tbX6_latestOf_48, ↓tbX6_latestOf_50, ↓tbX6_latestOf_53, ↓tbX6_latestOf_54, ↓tbX6_latestOf_57, ↓tbX6_latestOf_59, ↓tbX6_latestOf_62, ↓tbX6_latestOf_63, ↓tbX6_latestOf_66, ↓tbX6_latestOf_67, ↓tbX6_latestOf_70, ↓tbX6_latestOf_71, ↓tbX6_latestOf_73, ↓tbX6_latestOf_75, ↓tbX6_latestOf_78, ↓tbX6_latestOf_80, ↓tbX6_latestOf_82, ↓tbX6_latestOf_83, ↓tbX6_latestOf_86, ↓tbX6_latestOf_87, ↓tbX6_latestOf_88, ↓tbX6_latestOf_91, ↓tbX6_latestOf_93, ↓tbX6_latestOf_95, ↓tbX6_latestOf_98, ↓tbX6_latestOf_101, ↓tbX6_latestOf_103, ↓tbX6_latestOf_106, ↓tbX6_latestOf_108, ↓tbX6_latestOf_111, ↓tbX6_latestOf_113, hfu, xstep0, xJ1_hit, xJ1_go, xJ2_hit1, xJ2_hit2, xJ2_go, ↓xif_t, ↓xif_f, seval, ↓xca_eq, ↓xre_l, ↓xre_r, xmask_t, xmask_f, xmask_nil, ↓xst_eq, xX_eq, eI_eq, eMc_eq, eMs_eq, eF_eq, eThr_eq, ↓xS1_mk, ↓xSI_mk, ↓xSR_mk, ↓xLI_0, ↓xLI_s, ↓xLR_0, ↓xLR_s, vRef_ref, vRef_null, vRef_rf, cat_int, cat_ref, cat_null, cat_rf, rf_some, rf_none, rf_null, rf_eq, rf_ref, ref_rf, ref_null, ref_ref, xOk_0, xOk_1, xOk_2r, xOk_2n, xOk_2f, vOpt_rf, vOpt_ref, vOpt_null, List.set_cons_zero, List.set_cons_succ, List.take_succ_cons, List.take_zero, List.drop_succ_cons, List.drop_zero, List.reverse_cons, List.reverse_nil, List.nil_append, List.cons_append, List.append_nil, List.length_cons, List.length_nil, List.map_cons, List.map_nil, List.sum_cons, List.sum_nil, Option.toList_some, Option.toList_none, xRecv_mk, true_and, and_true, true_implies, Nat.reduceAdd, Nat.reduceLeDiff, Nat.zero_le, Nat.le_refl, Nat.add_zero, Nat.zero_add, reduceIte, not_true_eq_false, not_false_eq_true, false_implies, and_self, implies_true, eq_self, Nat.reduceEqDiff, List.cons.injEq, xsn_1, xsn_2, false_and, and_false, or_false, false_or, or_true, true_or, xsn_3, xsn_4, ↓spwX6_eventOf, spcX6_eventOf, h0, h1, hpg0]
  try simp only [xif_e]
  repeat' (first | rfl | apply And.intro)

def tbX6_latestOfBarge : List (Nat × xHint) := [(0, .aload_n 0, 0, 0, 0, []), (1, .iconst 0, 0, 0, 0, []), (2, .iconst 1, 0, 0, 0, []), (3, .iload_n 1, 1, 0, 0, []), (4, .invokevirtual 34, 0, 4, 7, []), (7, .ireturn, 0, 0, 0, [])]
def clX6_latestOfBarge : List (Instr × Nat × Nat × Nat) := [(.invokevirtual 34, 0, 4, 7)]
def thX6_latestOfBarge : List (Nat × Nat) := []
theorem ckX6_latestOfBarge : tbX6_latestOfBarge.all (xRow RX6 cX6_latestOfBarge wsX6_latestOfBarge vwCl [] clX6_latestOfBarge thX6_latestOfBarge 2 (yX6_latestOfBarge.name == "<init>") (some .int)) = true := xRow_q 0xac2200b61b04032a 8 (by decide +kernel) (by decide +kernel)
theorem usX6_latestOfBarge : xUse wsX6_latestOfBarge vwCl [] = true := xUse_n
theorem tbX6_latestOfBarge_0 {k : Instr → Nat → Nat → Nat → List Nat → Prop} : xse (xFind tbX6_latestOfBarge 0) k = k (.aload_n 0) 0 0 0 [] := rfl
theorem tbX6_latestOfBarge_1 {k : Instr → Nat → Nat → Nat → List Nat → Prop} : xse (xFind tbX6_latestOfBarge 1) k = k (.iconst 0) 0 0 0 [] := rfl
theorem tbX6_latestOfBarge_2 {k : Instr → Nat → Nat → Nat → List Nat → Prop} : xse (xFind tbX6_latestOfBarge 2) k = k (.iconst 1) 0 0 0 [] := rfl
theorem tbX6_latestOfBarge_3 {k : Instr → Nat → Nat → Nat → List Nat → Prop} : xse (xFind tbX6_latestOfBarge 3) k = k (.iload_n 1) 1 0 0 [] := rfl
theorem tbX6_latestOfBarge_4 {k : Instr → Nat → Nat → Nat → List Nat → Prop} : xse (xFind tbX6_latestOfBarge 4) k = k (.invokevirtual 34) 0 4 7 [] := rfl
theorem tbX6_latestOfBarge_7 {k : Instr → Nat → Nat → Nat → List Nat → Prop} : xse (xFind tbX6_latestOfBarge 7) k = k (.ireturn) 0 0 0 [] := rfl

def spX6_latestOfBarge (W9 : xWd) : xSp cS := (fun av S => (0, 0), fun av S K => ∃ (a : Nat) (k : Int32), av = [.ref a, .int k] ∧ (∃ n, stOk S a n ∧ K (rI (ltO S a 0 1 k n)) S))
theorem spcX6_latestOfBarge {av : List Value} {S : cS} {W9 : xWd} : (spX6_latestOfBarge W9).1 av S = (0, 0) := rfl
theorem spwX6_latestOfBarge {S : cS} {W9 : xWd} {K : xRes → cS → Prop} {a : Nat} {k : Int32} : (spX6_latestOfBarge W9).2 [.ref a, .int k] S K = (∃ n, stOk S a n ∧ K (rI (ltO S a 0 1 k n)) S) :=
  propext ⟨fun h => by
    simp only [spX6_latestOfBarge] at h
    obtain ⟨_, _, e, h⟩ := h
    simp only [List.cons.injEq, Value.int.injEq, Value.ref.injEq, rf_eq, and_true, true_and] at e
    obtain ⟨rfl, rfl⟩ := e
    exact h, fun h => ⟨_, _, rfl, h⟩⟩

def callX6_latestOfBarge (W9 : xWd) : Nat → Option (xSp cS) := fun n => match n with | 0 => some (spX6_latestOf W9) | _ => none

theorem callX6_latestOfBarge_0 {W9 : xWd} {k : xSp cS → Prop} : xcs (callX6_latestOfBarge W9 0) k = k (spX6_latestOf W9) := rfl

theorem crX6_latestOfBarge (l : Launch) (hl : l.stackTraces = false) (W9 : xWd) : xCallsOK l W9 (cI) (callX6_latestOfBarge W9) clX6_latestOfBarge RX6 wsX6_latestOfBarge 2 48 2 := by
  intro E A p e R s m args below meth c hI hF hL X
  exact List.forall_mem_cons.mpr ⟨⟨_, rfl, xCR_V X (by rw [hI]; exact (semX6_latestOf l hl W9)) gX6_latestOfBarge_X6_latestOf rfl rfl (by decide +kernel) (by rw [hF, hL]; decide)⟩,
    fun _ h => nomatch h⟩

set_option maxHeartbeats 4000000 in
set_option maxRecDepth 20000 in
theorem semX6_latestOfBarge (l : Launch) (hl : l.stackTraces = false) (W9 : xWd) : xSem l W9 (cI) yX6_latestOfBarge wsX6_latestOfBarge 2 48 (spX6_latestOfBarge W9) := by
  refine xSem_of (call := callX6_latestOfBarge W9) (thrf := fun _ => "") cI_law (by decide +kernel) rfl ckX6_latestOfBarge usX6_latestOfBarge (crX6_latestOfBarge l hl W9) xThrOK_nil ?_ ?_
  · intro av S KF h
    obtain ⟨a, k, rfl, h⟩ := h
    exact ⟨by intro v hv; simp only [List.mem_cons, List.not_mem_nil, or_false] at hv; rcases hv with rfl | rfl <;> first | rfl | exact cat_rf, Nat.le_of_ble_eq_true rfl⟩
  intro av S KF h G hG
  obtain ⟨a, k, rfl, h⟩ := h
  rw [show (spX6_latestOfBarge W9).1 _ S = _ from spcX6_latestOfBarge] at hG
  try dsimp only at hG
  change G 0 [some (.ref a), some (.int k)] [] S 0 0
  obtain ⟨n, h0, h⟩ := h
  have h1 := h0.1

  refine xgo0 hG (fun fu hfu => ?_)
  simp only [↓callX6_latestOfBarge_0, cisa, ki_0, ki_1, ↓vm_aload_n, ↓vm_iconst, ↓vm_iload_n, ↓vm_invokevirtual, ↓vm_ireturn, ↓xc_4, ↓tbX6_latestOfBarge_0, ↓tbX6_latestOfBarge_1, ↓tbX6_latestOfBarge_2, ↓tbX6_latestOfBarge_3, ↓tbX6_latestOfBarge_4, ↓tbX6_latestOfBarge_7, hfu, xstep0, xJ1_hit, xJ1_go, xJ2_hit1, xJ2_hit2, xJ2_go, ↓xif_t, ↓xif_f, seval, ↓xca_eq, ↓xre_l, ↓xre_r, xmask_t, xmask_f, xmask_nil, ↓xst_eq, xX_eq, eI_eq, eMc_eq, eMs_eq, eF_eq, eThr_eq, ↓xS1_mk, ↓xSI_mk, ↓xSR_mk, ↓xLI_0, ↓xLI_s, ↓xLR_0, ↓xLR_s, vRef_ref, vRef_null, vRef_rf, cat_int, cat_ref, cat_null, cat_rf, rf_some, rf_none, rf_null, rf_eq, rf_ref, ref_rf, ref_null, ref_ref, xOk_0, xOk_1, xOk_2r, xOk_2n, xOk_2f, vOpt_rf, vOpt_ref, vOpt_null, List.set_cons_zero, List.set_cons_succ, List.take_succ_cons, List.take_zero, List.drop_succ_cons, List.drop_zero, List.reverse_cons, List.reverse_nil, List.nil_append, List.cons_append, List.append_nil, List.length_cons, List.length_nil, List.map_cons, List.map_nil, List.sum_cons, List.sum_nil, Option.toList_some, Option.toList_none, xRecv_mk, true_and, and_true, true_implies, Nat.reduceAdd, Nat.reduceLeDiff, Nat.zero_le, Nat.le_refl, Nat.add_zero, Nat.zero_add, reduceIte, not_true_eq_false, not_false_eq_true, false_implies, and_self, implies_true, eq_self, Nat.reduceEqDiff, List.cons.injEq, xsn_1, xsn_2, false_and, and_false, or_false, false_or, or_true, true_or, xsn_3, xsn_4, ↓spwX6_latestOf, spcX6_latestOf, h1]
  try simp only [xif_e]
  exact ⟨n, h0, h⟩

def tbX6_latestOfBoat : List (Nat × xHint) := [(0, .aload_n 0, 0, 0, 0, []), (1, .iconst 2, 0, 0, 0, []), (2, .iconst 3, 0, 0, 0, []), (3, .iload_n 1, 1, 0, 0, []), (4, .invokevirtual 34, 0, 4, 7, []), (7, .ireturn, 0, 0, 0, [])]
def clX6_latestOfBoat : List (Instr × Nat × Nat × Nat) := [(.invokevirtual 34, 0, 4, 7)]
def thX6_latestOfBoat : List (Nat × Nat) := []
theorem ckX6_latestOfBoat : tbX6_latestOfBoat.all (xRow RX6 cX6_latestOfBoat wsX6_latestOfBoat vwCl [] clX6_latestOfBoat thX6_latestOfBoat 2 (yX6_latestOfBoat.name == "<init>") (some .int)) = true := xRow_q 0xac2200b61b06052a 8 (by decide +kernel) (by decide +kernel)
theorem usX6_latestOfBoat : xUse wsX6_latestOfBoat vwCl [] = true := xUse_n
theorem tbX6_latestOfBoat_0 {k : Instr → Nat → Nat → Nat → List Nat → Prop} : xse (xFind tbX6_latestOfBoat 0) k = k (.aload_n 0) 0 0 0 [] := rfl
theorem tbX6_latestOfBoat_1 {k : Instr → Nat → Nat → Nat → List Nat → Prop} : xse (xFind tbX6_latestOfBoat 1) k = k (.iconst 2) 0 0 0 [] := rfl
theorem tbX6_latestOfBoat_2 {k : Instr → Nat → Nat → Nat → List Nat → Prop} : xse (xFind tbX6_latestOfBoat 2) k = k (.iconst 3) 0 0 0 [] := rfl
theorem tbX6_latestOfBoat_3 {k : Instr → Nat → Nat → Nat → List Nat → Prop} : xse (xFind tbX6_latestOfBoat 3) k = k (.iload_n 1) 1 0 0 [] := rfl
theorem tbX6_latestOfBoat_4 {k : Instr → Nat → Nat → Nat → List Nat → Prop} : xse (xFind tbX6_latestOfBoat 4) k = k (.invokevirtual 34) 0 4 7 [] := rfl
theorem tbX6_latestOfBoat_7 {k : Instr → Nat → Nat → Nat → List Nat → Prop} : xse (xFind tbX6_latestOfBoat 7) k = k (.ireturn) 0 0 0 [] := rfl

def spX6_latestOfBoat (W9 : xWd) : xSp cS := (fun av S => (0, 0), fun av S K => ∃ (a : Nat) (k : Int32), av = [.ref a, .int k] ∧ (∃ n, stOk S a n ∧ K (rI (ltO S a 2 3 k n)) S))
theorem spcX6_latestOfBoat {av : List Value} {S : cS} {W9 : xWd} : (spX6_latestOfBoat W9).1 av S = (0, 0) := rfl
theorem spwX6_latestOfBoat {S : cS} {W9 : xWd} {K : xRes → cS → Prop} {a : Nat} {k : Int32} : (spX6_latestOfBoat W9).2 [.ref a, .int k] S K = (∃ n, stOk S a n ∧ K (rI (ltO S a 2 3 k n)) S) :=
  propext ⟨fun h => by
    simp only [spX6_latestOfBoat] at h
    obtain ⟨_, _, e, h⟩ := h
    simp only [List.cons.injEq, Value.int.injEq, Value.ref.injEq, rf_eq, and_true, true_and] at e
    obtain ⟨rfl, rfl⟩ := e
    exact h, fun h => ⟨_, _, rfl, h⟩⟩

def callX6_latestOfBoat (W9 : xWd) : Nat → Option (xSp cS) := fun n => match n with | 0 => some (spX6_latestOf W9) | _ => none

theorem callX6_latestOfBoat_0 {W9 : xWd} {k : xSp cS → Prop} : xcs (callX6_latestOfBoat W9 0) k = k (spX6_latestOf W9) := rfl

theorem crX6_latestOfBoat (l : Launch) (hl : l.stackTraces = false) (W9 : xWd) : xCallsOK l W9 (cI) (callX6_latestOfBoat W9) clX6_latestOfBoat RX6 wsX6_latestOfBoat 2 48 2 := by
  intro E A p e R s m args below meth c hI hF hL X
  exact List.forall_mem_cons.mpr ⟨⟨_, rfl, xCR_V X (by rw [hI]; exact (semX6_latestOf l hl W9)) gX6_latestOfBoat_X6_latestOf rfl rfl (by decide +kernel) (by rw [hF, hL]; decide)⟩,
    fun _ h => nomatch h⟩

set_option maxHeartbeats 4000000 in
set_option maxRecDepth 20000 in
theorem semX6_latestOfBoat (l : Launch) (hl : l.stackTraces = false) (W9 : xWd) : xSem l W9 (cI) yX6_latestOfBoat wsX6_latestOfBoat 2 48 (spX6_latestOfBoat W9) := by
  refine xSem_of (call := callX6_latestOfBoat W9) (thrf := fun _ => "") cI_law (by decide +kernel) rfl ckX6_latestOfBoat usX6_latestOfBoat (crX6_latestOfBoat l hl W9) xThrOK_nil ?_ ?_
  · intro av S KF h
    obtain ⟨a, k, rfl, h⟩ := h
    exact ⟨by intro v hv; simp only [List.mem_cons, List.not_mem_nil, or_false] at hv; rcases hv with rfl | rfl <;> first | rfl | exact cat_rf, Nat.le_of_ble_eq_true rfl⟩
  intro av S KF h G hG
  obtain ⟨a, k, rfl, h⟩ := h
  rw [show (spX6_latestOfBoat W9).1 _ S = _ from spcX6_latestOfBoat] at hG
  try dsimp only at hG
  change G 0 [some (.ref a), some (.int k)] [] S 0 0
  obtain ⟨n, h0, h⟩ := h
  have h1 := h0.1

  refine xgo0 hG (fun fu hfu => ?_)
  simp only [↓callX6_latestOfBoat_0, cisa, ki_2, ki_3, ↓vm_aload_n, ↓vm_iconst, ↓vm_iload_n, ↓vm_invokevirtual, ↓vm_ireturn, ↓xc_4, ↓tbX6_latestOfBoat_0, ↓tbX6_latestOfBoat_1, ↓tbX6_latestOfBoat_2, ↓tbX6_latestOfBoat_3, ↓tbX6_latestOfBoat_4, ↓tbX6_latestOfBoat_7, hfu, xstep0, xJ1_hit, xJ1_go, xJ2_hit1, xJ2_hit2, xJ2_go, ↓xif_t, ↓xif_f, seval, ↓xca_eq, ↓xre_l, ↓xre_r, xmask_t, xmask_f, xmask_nil, ↓xst_eq, xX_eq, eI_eq, eMc_eq, eMs_eq, eF_eq, eThr_eq, ↓xS1_mk, ↓xSI_mk, ↓xSR_mk, ↓xLI_0, ↓xLI_s, ↓xLR_0, ↓xLR_s, vRef_ref, vRef_null, vRef_rf, cat_int, cat_ref, cat_null, cat_rf, rf_some, rf_none, rf_null, rf_eq, rf_ref, ref_rf, ref_null, ref_ref, xOk_0, xOk_1, xOk_2r, xOk_2n, xOk_2f, vOpt_rf, vOpt_ref, vOpt_null, List.set_cons_zero, List.set_cons_succ, List.take_succ_cons, List.take_zero, List.drop_succ_cons, List.drop_zero, List.reverse_cons, List.reverse_nil, List.nil_append, List.cons_append, List.append_nil, List.length_cons, List.length_nil, List.map_cons, List.map_nil, List.sum_cons, List.sum_nil, Option.toList_some, Option.toList_none, xRecv_mk, true_and, and_true, true_implies, Nat.reduceAdd, Nat.reduceLeDiff, Nat.zero_le, Nat.le_refl, Nat.add_zero, Nat.zero_add, reduceIte, not_true_eq_false, not_false_eq_true, false_implies, and_self, implies_true, eq_self, Nat.reduceEqDiff, List.cons.injEq, xsn_1, xsn_2, false_and, and_false, or_false, false_or, or_true, true_or, xsn_3, xsn_4, ↓spwX6_latestOf, spcX6_latestOf, h1]
  try simp only [xif_e]
  exact ⟨n, h0, h⟩
