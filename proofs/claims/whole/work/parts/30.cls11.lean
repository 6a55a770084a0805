/-! The class: what is told of a barge. -/
/-- what a barge owes: its row, in which it lies, its deal -/
def gOk (S : cS) (g : Nat) : Prop := cIn S g 102 6 ∧ rOk S (cRf S g 102) ∧ rHas S (cRf S g 102) g ∧ ∀ c, cFr S g 104 = some c → cK S c = 4
def cTlg (S : cS) (o g : Nat) (w : Int32) : Int32 :=
  if w = 0 then cWh S (cRf S o 804) (cRf S g 102) else if w = 1 then cFi S g 103 else if w = 2 then (if cFr S g 104 = none then -1 else cFi S (cRf S g 104) 300)
  else if w = 3 then cFi S g 105 else if w = 4 then cFi S (cRf S g 102) 502 else if w = 5 then rPl S (cRf S g 102) g (rN S (cRf S g 102)) 0
  else if cFi S (cRf S g 102) 500 = -1 then rBh S (cRf S g 102) g 0 else 0

def tbX7_ofBarge : List (Nat × xHint) := [(0, .aload_n 0, 0, 0, 0, []), (1, .iload_n 1, 1, 0, 0, []), (2, .invokevirtual 153, 0, 2, 8, []), (5, .astore_n 3, 3, 0, 0, []), (6, .aload_n 3, 3, 0, 0, []), (7, .getfield 200, 1, 2, 2, []), (10, .astore 4, 4, 0, 0, []), (12, .iload_n 2, 2, 0, 0, []), (13, .tableswitch 111 0 6 #[43, 50, 55, 74, 79, 85, 92], 124, 0, 0, [56, 63, 68, 87, 92, 98, 105]), (56, .aload_n 0, 0, 0, 0, []), (57, .aload 4, 4, 0, 0, []), (59, .invokevirtual 357, 1, 2, 8, []), (62, .ireturn, 0, 0, 0, []), (63, .aload_n 3, 3, 0, 0, []), (64, .getfield 165, 1, 3, 0, []), (67, .ireturn, 0, 0, 0, []), (68, .aload_n 3, 3, 0, 0, []), (69, .getfield 181, 1, 4, 2, []), (72, .ifnonnull 7, 79, 0, 0, []), (75, .iconst (-1), 0, 0, 0, []), (76, .goto 10, 86, 0, 0, []), (79, .aload_n 3, 3, 0, 0, []), (80, .getfield 181, 1, 4, 2, []), (83, .getfield 139, 3, 0, 0, []), (86, .ireturn, 0, 0, 0, []), (87, .aload_n 3, 3, 0, 0, []), (88, .getfield 188, 1, 5, 0, []), (91, .ireturn, 0, 0, 0, []), (92, .aload 4, 4, 0, 0, []), (94, .getfield 361, 5, 2, 0, []), (97, .ireturn, 0, 0, 0, []), (98, .aload 4, 4, 0, 0, []), (100, .aload_n 3, 3, 0, 0, []), (101, .invokevirtual 264, 2, 2, 5, []), (104, .ireturn, 0, 0, 0, []), (105, .aload 4, 4, 0, 0, []), (107, .invokevirtual 204, 3, 1, 5, []), (110, .ifCond .eq 7, 117, 0, 0, []), (113, .iconst 0, 0, 0, 0, []), (114, .goto 9, 123, 0, 0, []), (117, .aload 4, 4, 0, 0, []), (119, .aload_n 3, 3, 0, 0, []), (120, .invokevirtual 248, 4, 2, 5, []), (123, .ireturn, 0, 0, 0, []), (124, .new 347, 1, 0, 0, [])]
def clX7_ofBarge : List (Instr × Nat × Nat × Nat) := [(.invokevirtual 153, 0, 2, 8), (.invokevirtual 357, 1, 2, 8), (.invokevirtual 264, 2, 2, 5), (.invokevirtual 204, 3, 1, 5), (.invokevirtual 248, 4, 2, 5)]
def thX7_ofBarge : List (Nat × Nat) := [(124, 0)]
theorem ckX7_ofBarge : tbX7_ofBarge.all (xRow RX7 cX7_ofBarge wsX7_ofBarge vwCl [1, 3, 5] clX7_ofBarge thX7_ofBarge 5 (yX7_ofBarge.name == "<init>") (some .int)) = true := xRow_q 0xbf5f01b76c0113595b01bbacf800b62d04190900a703070099cc00b60419ac0801b62d0419ac6901b40419acbc00b42dac8b00b4b500b42d0a00a7020700c7b500b42daca500b42dac6501b604192a5c000000550000004f0000004a00000037000000320000002b00000006000000000000006f0000000000aa1c043ac800b42d4e9900b61b2a 135 (by decide +kernel) (by decide +kernel)
theorem usX7_ofBarge : xUse wsX7_ofBarge vwCl [1, 3, 5] = true := xUse_g rfl (lw_good lwl_X7_ofBarge lwl_X00 (by decide +kernel)) (xUse_g rfl (lw_good lwl_X7_ofBarge lwl_X20 (by decide +kernel)) (xUse_g rfl (lw_good lwl_X7_ofBarge lwl_X40 (by decide +kernel)) xUse_n))
theorem tbX7_ofBarge_0 {k : Instr → Nat → Nat → Nat → List Nat → Prop} : xse (xFind tbX7_ofBarge 0) k = k (.aload_n 0) 0 0 0 [] := rfl
theorem tbX7_ofBarge_1 {k : Instr → Nat → Nat → Nat → List Nat → Prop} : xse (xFind tbX7_ofBarge 1) k = k (.iload_n 1) 1 0 0 [] := rfl
theorem tbX7_ofBarge_2 {k : Instr → Nat → Nat → Nat → List Nat → Prop} : xse (xFind tbX7_ofBarge 2) k = k (.invokevirtual 153) 0 2 8 [] := rfl
theorem tbX7_ofBarge_5 {k : Instr → Nat → Nat → Nat → List Nat → Prop} : xse (xFind tbX7_ofBarge 5) k = k (.astore_n 3) 3 0 0 [] := rfl
theorem tbX7_ofBarge_6 {k : Instr → Nat → Nat → Nat → List Nat → Prop} : xse (xFind tbX7_ofBarge 6) k = k (.aload_n 3) 3 0 0 [] := rfl
theorem tbX7_ofBarge_7 {k : Instr → Nat → Nat → Nat → List Nat → Prop} : xse (xFind tbX7_ofBarge 7) k = k (.getfield 200) 1 2 2 [] := rfl
theorem tbX7_ofBarge_10 {k : Instr → Nat → Nat → Nat → List Nat → Prop} : xse (xFind tbX7_ofBarge 10) k = k (.astore 4) 4 0 0 [] := rfl
theorem tbX7_ofBarge_12 {k : Instr → Nat → Nat → Nat → List Nat → Prop} : xse (xFind tbX7_ofBarge 12) k = k (.iload_n 2) 2 0 0 [] := rfl
theorem tbX7_ofBarge_13 {k : Instr → Nat → Nat → Nat → List Nat → Prop} : xse (xFind tbX7_ofBarge 13) k = k (.tableswitch 111 0 6 #[43, 50, 55, 74, 79, 85, 92]) 124 0 0 [56, 63, 68, 87, 92, 98, 105] := rfl
theorem tbX7_ofBarge_56 {k : Instr → Nat → Nat → Nat → List Nat → Prop} : xse (xFind tbX7_ofBarge 56) k = k (.aload_n 0) 0 0 0 [] := rfl
theorem tbX7_ofBarge_57 {k : Instr → Nat → Nat → Nat → List Nat → Prop} : xse (xFind tbX7_ofBarge 57) k = k (.aload 4) 4 0 0 [] := rfl
theorem tbX7_ofBarge_59 {k : Instr → Nat → Nat → Nat → List Nat → Prop} : xse (xFind tbX7_ofBarge 59) k = k (.invokevirtual 357) 1 2 8 [] := rfl
theorem tbX7_ofBarge_62 {k : Instr → Nat → Nat → Nat → List Nat → Prop} : xse (xFind tbX7_ofBarge 62) k = k (.ireturn) 0 0 0 [] := rfl
theorem tbX7_ofBarge_63 {k : Instr → Nat → Nat → Nat → List Nat → Prop} : xse (xFind tbX7_ofBarge 63) k = k (.aload_n 3) 3 0 0 [] := rfl
theorem tbX7_ofBarge_64 {k : Instr → Nat → Nat → Nat → List Nat → Prop} : xse (xFind tbX7_ofBarge 64) k = k (.getfield 165) 1 3 0 [] := rfl
theorem tbX7_ofBarge_67 {k : Instr → Nat → Nat → Nat → List Nat → Prop} : xse (xFind tbX7_ofBarge 67) k = k (.ireturn) 0 0 0 [] := rfl
theorem tbX7_ofBarge_68 {k : Instr → Nat → Nat → Nat → List Nat → Prop} : xse (xFind tbX7_ofBarge 68) k = k (.aload_n 3) 3 0 0 [] := rfl
theorem tbX7_ofBarge_69 {k : Instr → Nat → Nat → Nat → List Nat → Prop} : xse (xFind tbX7_ofBarge 69) k = k (.getfield 181) 1 4 2 [] := rfl
theorem tbX7_ofBarge_72 {k : Instr → Nat → Nat → Nat → List Nat → Prop} : xse (xFind tbX7_ofBarge 72) k = k (.ifnonnull 7) 79 0 0 [] := rfl
theorem tbX7_ofBarge_75 {k : Instr → Nat → Nat → Nat → List Nat → Prop} : xse (xFind tbX7_ofBarge 75) k = k (.iconst (-1)) 0 0 0 [] := rfl
theorem tbX7_ofBarge_76 {k : Instr → Nat → Nat → Nat → List Nat → Prop} : xse (xFind tbX7_ofBarge 76) k = k (.goto 10) 86 0 0 [] := rfl
theorem tbX7_ofBarge_79 {k : Instr → Nat → Nat → Nat → List Nat → Prop} : xse (xFind tbX7_ofBarge 79) k = k (.aload_n 3) 3 0 0 [] := rfl
theorem tbX7_ofBarge_80 {k : Instr → Nat → Nat → Nat → List Nat → Prop} : xse (xFind tbX7_ofBarge 80) k = k (.getfield 181) 1 4 2 [] := rfl
theorem tbX7_ofBarge_83 {k : Instr → Nat → Nat → Nat → List Nat → Prop} : xse (xFind tbX7_ofBarge 83) k = k (.getfield 139) 3 0 0 [] := rfl
theorem tbX7_ofBarge_86 {k : Instr → Nat → Nat → Nat → List Nat → Prop} : xse (xFind tbX7_ofBarge 86) k = k (.ireturn) 0 0 0 [] := rfl
theorem tbX7_ofBarge_87 {k : Instr → Nat → Nat → Nat → List Nat → Prop} : xse (xFind tbX7_ofBarge 87) k = k (.aload_n 3) 3 0 0 [] := rfl
theorem tbX7_ofBarge_88 {k : Instr → Nat → Nat → Nat → List Nat → Prop} : xse (xFind tbX7_ofBarge 88) k = k (.getfield 188) 1 5 0 [] := rfl
theorem tbX7_ofBarge_91 {k : Instr → Nat → Nat → Nat → List Nat → Prop} : xse (xFind tbX7_ofBarge 91) k = k (.ireturn) 0 0 0 [] := rfl
theorem tbX7_ofBarge_92 {k : Instr → Nat → Nat → Nat → List Nat → Prop} : xse (xFind tbX7_ofBarge 92) k = k (.aload 4) 4 0 0 [] := rfl
theorem tbX7_ofBarge_94 {k : Instr → Nat → Nat → Nat → List Nat → Prop} : xse (xFind tbX7_ofBarge 94) k = k (.getfield 361) 5 2 0 [] := rfl
theorem tbX7_ofBarge_97 {k : Instr → Nat → Nat → Nat → List Nat → Prop} : xse (xFind tbX7_ofBarge 97) k = k (.ireturn) 0 0 0 [] := rfl
theorem tbX7_ofBarge_98 {k : Instr → Nat → Nat → Nat → List Nat → Prop} : xse (xFind tbX7_ofBarge 98) k = k (.aload 4) 4 0 0 [] := rfl
theorem tbX7_ofBarge_100 {k : Instr → Nat → Nat → Nat → List Nat → Prop} : xse (xFind tbX7_ofBarge 100) k = k (.aload_n 3) 3 0 0 [] := rfl
theorem tbX7_ofBarge_101 {k : Instr → Nat → Nat → Nat → List Nat → Prop} : xse (xFind tbX7_ofBarge 101) k = k (.invokevirtual 264) 2 2 5 [] := rfl
theorem tbX7_ofBarge_104 {k : Instr → Nat → Nat → Nat → List Nat → Prop} : xse (xFind tbX7_ofBarge 104) k = k (.ireturn) 0 0 0 [] := rfl
theorem tbX7_ofBarge_105 {k : Instr → Nat → Nat → Nat → List Nat → Prop} : xse (xFind tbX7_ofBarge 105) k = k (.aload 4) 4 0 0 [] := rfl
theorem tbX7_ofBarge_107 {k : Instr → Nat → Nat → Nat → List Nat → Prop} : xse (xFind tbX7_ofBarge 107) k = k (.invokevirtual 204) 3 1 5 [] := rfl
theorem tbX7_ofBarge_110 {k : Instr → Nat → Nat → Nat → List Nat → Prop} : xse (xFind tbX7_ofBarge 110) k = k (.ifCond .eq 7) 117 0 0 [] := rfl
theorem tbX7_ofBarge_113 {k : Instr → Nat → Nat → Nat → List Nat → Prop} : xse (xFind tbX7_ofBarge 113) k = k (.iconst 0) 0 0 0 [] := rfl
theorem tbX7_ofBarge_114 {k : Instr → Nat → Nat → Nat → List Nat → Prop} : xse (xFind tbX7_ofBarge 114) k = k (.goto 9) 123 0 0 [] := rfl
theorem tbX7_ofBarge_117 {k : Instr → Nat → Nat → Nat → List Nat → Prop} : xse (xFind tbX7_ofBarge 117) k = k (.aload 4) 4 0 0 [] := rfl
theorem tbX7_ofBarge_119 {k : Instr → Nat → Nat → Nat → List Nat → Prop} : xse (xFind tbX7_ofBarge 119) k = k (.aload_n 3) 3 0 0 [] := rfl
theorem tbX7_ofBarge_120 {k : Instr → Nat → Nat → Nat → List Nat → Prop} : xse (xFind tbX7_ofBarge 120) k = k (.invokevirtual 248) 4 2 5 [] := rfl
theorem tbX7_ofBarge_123 {k : Instr → Nat → Nat → Nat → List Nat → Prop} : xse (xFind tbX7_ofBarge 123) k = k (.ireturn) 0 0 0 [] := rfl
theorem tbX7_ofBarge_124 {k : Instr → Nat → Nat → Nat → List Nat → Prop} : xse (xFind tbX7_ofBarge 124) k = k (.new 347) 1 0 0 [] := rfl

def spX7_ofBarge (W9 : xWd) : xSp cS := (fun av S => (2, 12), fun av S K => ∃ (a : Nat) (k : Int32) (w : Int32), av = [.ref a, .int k, .int w] ∧ (cK S a = 9 ∧ (cIn S a 804 1 ∧ lAll S (cRf S a 804) 3) ∧ (∀ j, j < lCn S (cRf S a 802) → gOk S (lG S (cRf S a 802) j)) ∧ cIn S a 802 1 ∧ lAll S (cRf S a 802) 2 ∧ (0 ≤ k ∧ k < cFi S (cRf S a 802) 2 → (0 ≤ w ∧ w ≤ 6 → K (rI (cTlg S a (lG S (cRf S a 802) k.toNatClampNeg) w)) S) ∧ (¬ (0 ≤ w ∧ w ≤ 6) → K (rX "java/lang/IndexOutOfBoundsException") S)) ∧ (¬ (0 ≤ k ∧ k < cFi S (cRf S a 802) 2) → K (rX "java/lang/IndexOutOfBoundsException") S)))
theorem spcX7_ofBarge {av : List Value} {S : cS} {W9 : xWd} : (spX7_ofBarge W9).1 av S = (2, 12) := rfl
theorem spwX7_ofBarge {S : cS} {W9 : xWd} {K : xRes → cS → Prop} {a : Nat} {k : Int32} {w : Int32} : (spX7_ofBarge W9).2 [.ref a, .int k, .int w] S K = (cK S a = 9 ∧ (cIn S a 804 1 ∧ lAll S (cRf S a 804) 3) ∧ (∀ j, j < lCn S (cRf S a 802) → gOk S (lG S (cRf S a 802) j)) ∧ cIn S a 802 1 ∧ lAll S (cRf S a 802) 2 ∧ (0 ≤ k ∧ k < cFi S (cRf S a 802) 2 → (0 ≤ w ∧ w ≤ 6 → K (rI (cTlg S a (lG S (cRf S a 802) k.toNatClampNeg) w)) S) ∧ (¬ (0 ≤ w ∧ w ≤ 6) → K (rX "java/lang/IndexOutOfBoundsException") S)) ∧ (¬ (0 ≤ k ∧ k < cFi S (cRf S a 802) 2) → K (rX "java/lang/IndexOutOfBoundsException") S)) :=
  propext ⟨fun h => by
    simp only [spX7_ofBarge] at h
    obtain ⟨_, _, _, e, h⟩ := h
    simp only [List.cons.injEq, Value.int.injEq, Value.ref.injEq, rf_eq, and_true, true_and] at e
    obtain ⟨rfl, rfl, rfl⟩ := e
    exact h, fun h => ⟨_, _, _, rfl, h⟩⟩

def callX7_ofBarge (W9 : xWd) : Nat → Option (xSp cS) := fun n => match n with | 0 => some (spX7_needBarge W9) | 1 => some (spX7_whereIs W9) | 2 => some (spX4_placeOf W9) | 3 => some (spX4_isTow W9) | 4 => some (spX4_behind W9) | _ => none

theorem callX7_ofBarge_0 {W9 : xWd} {k : xSp cS → Prop} : xcs (callX7_ofBarge W9 0) k = k (spX7_needBarge W9) := rfl

theorem callX7_ofBarge_1 {W9 : xWd} {k : xSp cS → Prop} : xcs (callX7_ofBarge W9 1) k = k (spX7_whereIs W9) := rfl

theorem callX7_ofBarge_2 {W9 : xWd} {k : xSp cS → Prop} : xcs (callX7_ofBarge W9 2) k = k (spX4_placeOf W9) := rfl

theorem callX7_ofBarge_3 {W9 : xWd} {k : xSp cS → Prop} : xcs (callX7_ofBarge W9 3) k = k (spX4_isTow W9) := rfl

theorem callX7_ofBarge_4 {W9 : xWd} {k : xSp cS → Prop} : xcs (callX7_ofBarge W9 4) k = k (spX4_behind W9) := rfl

theorem crX7_ofBarge (l : Launch) (hl : l.stackTraces = false) (W9 : xWd) : xCallsOK l W9 (cI) (callX7_ofBarge W9) clX7_ofBarge RX7 wsX7_ofBarge 7 131 5 := by
  intro E A p e R s m args below meth c hI hF hL X
  exact List.forall_mem_cons.mpr ⟨⟨_, rfl, xCR_V X (by rw [hI]; exact (semX7_needBarge l hl W9)) gX7_ofBarge_X7_needBarge rfl rfl (by decide +kernel) (by rw [hF, hL]; decide)⟩,
    List.forall_mem_cons.mpr ⟨⟨_, rfl, xCR_V X (by rw [hI]; exact (semX7_whereIs l hl W9)) gX7_ofBarge_X7_whereIs rfl rfl (by decide +kernel) (by rw [hF, hL]; decide)⟩,
    List.forall_mem_cons.mpr ⟨⟨_, rfl, xCR_V X (by rw [hI]; exact (semX4_placeOf l hl W9)) gX7_ofBarge_X4_placeOf rfl rfl (by decide +kernel) (by rw [hF, hL]; decide)⟩,
    List.forall_mem_cons.mpr ⟨⟨_, rfl, xCR_V X (by rw [hI]; exact (semX4_isTow l hl W9)) gX7_ofBarge_X4_isTow rfl rfl (by decide +kernel) (by rw [hF, hL]; decide)⟩,
    List.forall_mem_cons.mpr ⟨⟨_, rfl, xCR_V X (by rw [hI]; exact (semX4_behind l hl W9)) gX7_ofBarge_X4_behind rfl rfl (by decide +kernel) (by rw [hF, hL]; decide)⟩,
    fun _ h => nomatch h⟩⟩⟩⟩⟩

def thfX7_ofBarge : Nat → String := fun n => match n with | 0 => "java/lang/IndexOutOfBoundsException" | _ => ""

theorem thfX7_ofBarge_0 : thfX7_ofBarge 0 = "java/lang/IndexOutOfBoundsException" := rfl

theorem trX7_ofBarge (l : Launch) (hl : l.stackTraces = false) (W9 : xWd) : xThrOK l W9 thfX7_ofBarge thX7_ofBarge RX7 cX7_ofBarge wsX7_ofBarge 7 131 5 := by
  intro A p e R s m args below meth c hF hL hb hx hml hown hts hAmb hlocks hext
  exact List.forall_mem_cons.mpr ⟨xTR_SW (text := "no such thing is told of a barge") hl hx hb hml hown hts hAmb hlocks hext (by decide +kernel) (ik := 347) (is := 364) (ic := 351) (by decide +kernel) (by decide +kernel) (by decide +kernel) (atin_of (by decide +kernel)) xng_ioobe xgood_ioobe (by decide +kernel) (by decide +kernel) (by decide +kernel) (by decide +kernel) (by decide +kernel) (by rw [hF, hL]; decide),
    fun _ h => nomatch h⟩

set_option maxHeartbeats 4000000 in
set_option maxRecDepth 20000 in
theorem semX7_ofBarge (l : Launch) (hl : l.stackTraces = false) (W9 : xWd) : xSem l W9 (cI) yX7_ofBarge wsX7_ofBarge 7 131 (spX7_ofBarge W9) := by
  refine xSem_of (call := callX7_ofBarge W9) (thrf := thfX7_ofBarge) cI_law (by decide +kernel) rfl ckX7_ofBarge usX7_ofBarge (crX7_ofBarge l hl W9) (trX7_ofBarge l hl W9) ?_ ?_
  · intro av S KF h
    obtain ⟨a, k, w, rfl, h⟩ := h
    exact ⟨by intro v hv; simp only [List.mem_cons, List.not_mem_nil, or_false] at hv; rcases hv with rfl | rfl | rfl <;> first | rfl | exact cat_rf, Nat.le_of_ble_eq_true rfl⟩
  intro av S KF h G hG
  obtain ⟨a, k, w, rfl, h⟩ := h
  rw [show (spX7_ofBarge W9).1 _ S = _ from spcX7_ofBarge] at hG
  try dsimp only at hG
  change G 0 [some (.ref a), some (.int k), some (.int w), none, none] [] S 0 0
  obtain ⟨h0, ⟨hb1, hb2⟩, hb, h1, h2, h3, h4⟩ := h

  by_cases q : 0 ≤ k ∧ k < cFi S (cRf S a 802) 2
  · obtain ⟨h5, h6⟩ := h3 q
    have ix := (lOk_in h2.1 q.1 q.2).2.2
    have g0 := (h2.2 _ ix).2
    obtain ⟨⟨b1, b2⟩, b3, b4, b5⟩ := hb _ ix
    generalize hb0 : lG S (cRf S a 802) k.toNatClampNeg = g at *
    unfold cTlg at h5
    cases hd : cFr S g 104 with
    | none =>
      rw [hd] at h5
      refine xgo0 hG (fun fu hfu => ?_)
      simp only [↓callX7_ofBarge_0, ↓callX7_ofBarge_1, ↓callX7_ofBarge_2, ↓callX7_ofBarge_3, ↓callX7_ofBarge_4, ↓cg_1_2, ↓cg_1_3, ↓cg_1_4, ↓cg_1_5, ↓cg_3_0, ↓cg_5_2, cisa, ki_0, ki_m1, ↓vm_aload, ↓vm_aload_n, ↓vm_astore, ↓vm_astore_n, ↓vm_getfield, ↓vm_goto, ↓vm_iconst, ↓vm_ifCond_eq, ↓vm_ifnonnull, ↓vm_iload_n, ↓vm_invokevirtual, ↓vm_ireturn, ↓vm_newX, ↓vm_tableswitch, ↓xTs_cons, ↓xTs_nil, ↓xc_1, ↓xc_2, ↓tbX7_ofBarge_0, ↓tbX7_ofBarge_1, ↓tbX7_ofBarge_2, ↓tbX7_ofBarge_5, ↓tbX7_ofBarge_6, ↓tbX7_ofBarge_7, ↓tbX7_ofBarge_10, ↓tbX7_ofBarge_12, ↓tbX7_ofBarge_13, ↓tbX7_ofBarge_56, ↓tbX7_ofBarge_57, ↓tbX7_ofBarge_59, ↓tbX7_ofBarge_62, ↓tbX7_ofBarge_63, ↓tbX7_ofBarge_64, ↓tbX7_ofBarge_67, ↓tbX7_ofBarge_68, ↓tbX7_ofBarge_69, ↓tbX7_ofBarge_72, ↓tbX7_ofBarge_75, ↓tbX7_ofBarge_76, ↓tbX7_ofBarge_79, ↓tbX7_ofBarge_80, ↓tbX7_ofBarge_83, ↓tbX7_ofBarge_86, ↓tbX7_ofBarge_87, ↓tbX7_ofBarge_88, ↓tbX7_ofBarge_91, ↓tbX7_ofBarge_92, ↓tbX7_ofBarge_94, ↓tbX7_ofBarge_97, ↓tbX7_ofBarge_98, ↓tbX7_ofBarge_100, ↓tbX7_ofBarge_101, ↓tbX7_ofBarge_104, ↓tbX7_ofBarge_105, ↓tbX7_ofBarge_107, ↓tbX7_ofBarge_110, ↓tbX7_ofBarge_113, ↓tbX7_ofBarge_114, ↓tbX7_ofBarge_117, ↓tbX7_ofBarge_119, ↓tbX7_ofBarge_120, ↓tbX7_ofBarge_123, ↓tbX7_ofBarge_124, hfu, xstep0, xJ1_hit, xJ1_go, xJ2_hit1, xJ2_hit2, xJ2_go, ↓xif_t, ↓xif_f, seval, ↓xca_eq, ↓xre_l, ↓xre_r, xmask_t, xmask_f, xmask_nil, ↓xst_eq, xX_eq, eI_eq, eMc_eq, eMs_eq, eF_eq, eThr_eq, ↓xS1_mk, ↓xSI_mk, ↓xSR_mk, ↓xLI_0, ↓xLI_s, ↓xLR_0, ↓xLR_s, vRef_ref, vRef_null, vRef_rf, cat_int, cat_ref, cat_null, cat_rf, rf_some, rf_none, rf_null, rf_eq, rf_ref, ref_rf, ref_null, ref_ref, xOk_0, xOk_1, xOk_2r, xOk_2n, xOk_2f, vOpt_rf, vOpt_ref, vOpt_null, List.set_cons_zero, List.set_cons_succ, List.take_succ_cons, List.take_zero, List.drop_succ_cons, List.drop_zero, List.reverse_cons, List.reverse_nil, List.nil_append, List.cons_append, List.append_nil, List.length_cons, List.length_nil, List.map_cons, List.map_nil, List.sum_cons, List.sum_nil, Option.toList_some, Option.toList_none, xRecv_mk, true_and, and_true, true_implies, Nat.reduceAdd, Nat.reduceLeDiff, Nat.zero_le, Nat.le_refl, Nat.add_zero, Nat.zero_add, reduceIte, not_true_eq_false, not_false_eq_true, false_implies, and_self, implies_true, eq_self, Nat.reduceEqDiff, List.cons.injEq, xsn_1, xsn_2, false_and, and_false, or_false, false_or, or_true, true_or, xsn_3, xsn_4, ti_0, ti_1, ti_2, ti_3, ti_4, ti_5, ti_6, ti_7, ti_8, ti_9, ti_10, tlt_0, tgt_6, ↓spwX7_needBarge, spcX7_needBarge, ↓spwX7_whereIs, spcX7_whereIs, ↓spwX4_placeOf, spcX4_placeOf, ↓spwX4_isTow, spcX4_isTow, ↓spwX4_behind, spcX4_behind, thfX7_ofBarge_0, h0, h1, h2, hb1, hb2, q, hb0, g0, b1, b2, b3, b4, hd, bi_0]
      try simp only [xif_e]
      repeat' (first | with_reducible apply And.intro | with_reducible intro _)
      all_goals grind (splits := 30)
    | some c =>
      have hc := b5 c hd
      have hr : cRf S g 104 = c := by unfold cRf; rw [hd]; rfl
      rw [hd, hr] at h5
      refine xgo0 hG (fun fu hfu => ?_)
      simp only [↓callX7_ofBarge_0, ↓callX7_ofBarge_1, ↓callX7_ofBarge_2, ↓callX7_ofBarge_3, ↓callX7_ofBarge_4, ↓cg_1_2, ↓cg_1_3, ↓cg_1_4, ↓cg_1_5, ↓cg_3_0, ↓cg_5_2, cisa, ki_0, ki_m1, ↓vm_aload, ↓vm_aload_n, ↓vm_astore, ↓vm_astore_n, ↓vm_getfield, ↓vm_goto, ↓vm_iconst, ↓vm_ifCond_eq, ↓vm_ifnonnull, ↓vm_iload_n, ↓vm_invokevirtual, ↓vm_ireturn, ↓vm_newX, ↓vm_tableswitch, ↓xTs_cons, ↓xTs_nil, ↓xc_1, ↓xc_2, ↓tbX7_ofBarge_0, ↓tbX7_ofBarge_1, ↓tbX7_ofBarge_2, ↓tbX7_ofBarge_5, ↓tbX7_ofBarge_6, ↓tbX7_ofBarge_7, ↓tbX7_ofBarge_10, ↓tbX7_ofBarge_12, ↓tbX7_ofBarge_13, ↓tbX7_ofBarge_56, ↓tbX7_ofBarge_57, ↓tbX7_ofBarge_59, ↓tbX7_ofBarge_62, ↓tbX7_ofBarge_63, ↓tbX7_ofBarge_64, ↓tbX7_ofBarge_67, ↓tbX7_ofBarge_68, ↓tbX7_ofBarge_69, ↓tbX7_ofBarge_72, ↓tbX7_ofBarge_75, ↓tbX7_ofBarge_76, ↓tbX7_ofBarge_79, ↓tbX7_ofBarge_80, ↓tbX7_ofBarge_83, ↓tbX7_ofBarge_86, ↓tbX7_ofBarge_87, ↓tbX7_ofBarge_88, ↓tbX7_ofBarge_91, ↓tbX7_ofBarge_92, ↓tbX7_ofBarge_94, ↓tbX7_ofBarge_97, ↓tbX7_ofBarge_98, ↓tbX7_ofBarge_100, ↓tbX7_ofBarge_101, ↓tbX7_ofBarge_104, ↓tbX7_ofBarge_105, ↓tbX7_ofBarge_107, ↓tbX7_ofBarge_110, ↓tbX7_ofBarge_113, ↓tbX7_ofBarge_114, ↓tbX7_ofBarge_117, ↓tbX7_ofBarge_119, ↓tbX7_ofBarge_120, ↓tbX7_ofBarge_123, ↓tbX7_ofBarge_124, hfu, xstep0, xJ1_hit, xJ1_go, xJ2_hit1, xJ2_hit2, xJ2_go, ↓xif_t, ↓xif_f, seval, ↓xca_eq, ↓xre_l, ↓xre_r, xmask_t, xmask_f, xmask_nil, ↓xst_eq, xX_eq, eI_eq, eMc_eq, eMs_eq, eF_eq, eThr_eq, ↓xS1_mk, ↓xSI_mk, ↓xSR_mk, ↓xLI_0, ↓xLI_s, ↓xLR_0, ↓xLR_s, vRef_ref, vRef_null, vRef_rf, cat_int, cat_ref, cat_null, cat_rf, rf_some, rf_none, rf_null, rf_eq, rf_ref, ref_rf, ref_null, ref_ref, xOk_0, xOk_1, xOk_2r, xOk_2n, xOk_2f, vOpt_rf, vOpt_ref, vOpt_null, List.set_cons_zero, List.set_cons_succ, List.take_succ_cons, List.take_zero, List.drop_succ_cons, List.drop_zero, List.reverse_cons, List.reverse_nil, List.nil_append, List.cons_append, List.append_nil, List.length_cons, List.length_nil, List.map_cons, List.map_nil, List.sum_cons, List.sum_nil, Option.toList_some, Option.toList_none, xRecv_mk, true_and, and_true, true_implies, Nat.reduceAdd, Nat.reduceLeDiff, Nat.zero_le, Nat.le_refl, Nat.add_zero, Nat.zero_add, reduceIte, not_true_eq_false, not_false_eq_true, false_implies, and_self, implies_true, eq_self, Nat.reduceEqDiff, List.cons.injEq, xsn_1, xsn_2, false_and, and_false, or_false, false_or, or_true, true_or, xsn_3, xsn_4, ti_0, ti_1, ti_2, ti_3, ti_4, ti_5, ti_6, ti_7, ti_8, ti_9, ti_10, tlt_0, tgt_6, ↓spwX7_needBarge, spcX7_needBarge, ↓spwX7_whereIs, spcX7_whereIs, ↓spwX4_placeOf, spcX4_placeOf, ↓spwX4_isTow, spcX4_isTow, ↓spwX4_behind, spcX4_behind, thfX7_ofBarge_0, h0, h1, h2, hb1, hb2, q, hb0, g0, b1, b2, b3, b4, hd, hc, bi_0]
      try simp only [xif_e]
      repeat' (first | with_reducible apply And.intro | with_reducible intro _)
      all_goals grind (splits := 30)
  · have h := h4 q
    refine xgo hG (mb := []) (head := 6) (P := fun _ _ _ _ _ => False) (fun _ _ _ _ _ q => q.elim) (pc := 0) (fun fu hfu => ?_)
    simp only [↓callX7_ofBarge_0, ↓callX7_ofBarge_1, ↓callX7_ofBarge_2, ↓callX7_ofBarge_3, ↓callX7_ofBarge_4, ↓cg_1_2, ↓cg_1_3, ↓cg_1_4, ↓cg_1_5, ↓cg_3_0, ↓cg_5_2, cisa, ki_0, ki_m1, ↓vm_aload, ↓vm_aload_n, ↓vm_astore, ↓vm_astore_n, ↓vm_getfield, ↓vm_goto, ↓vm_iconst, ↓vm_ifCond_eq, ↓vm_ifnonnull, ↓vm_iload_n, ↓vm_invokevirtual, ↓vm_ireturn, ↓vm_newX, ↓vm_tableswitch, ↓xTs_cons, ↓xTs_nil, ↓xc_1, ↓xc_2, ↓tbX7_ofBarge_0, ↓tbX7_ofBarge_1, ↓tbX7_ofBarge_2, ↓tbX7_ofBarge_5, ↓tbX7_ofBarge_6, ↓tbX7_ofBarge_7, ↓tbX7_ofBarge_10, ↓tbX7_ofBarge_12, ↓tbX7_ofBarge_13, ↓tbX7_ofBarge_56, ↓tbX7_ofBarge_57, ↓tbX7_ofBarge_59, ↓tbX7_ofBarge_62, ↓tbX7_ofBarge_63, ↓tbX7_ofBarge_64, ↓tbX7_ofBarge_67, ↓tbX7_ofBarge_68, ↓tbX7_ofBarge_69, ↓tbX7_ofBarge_72, ↓tbX7_ofBarge_75, ↓tbX7_ofBarge_76, ↓tbX7_ofBarge_79, ↓tbX7_ofBarge_80, ↓tbX7_ofBarge_83, ↓tbX7_ofBarge_86, ↓tbX7_ofBarge_87, ↓tbX7_ofBarge_88, ↓tbX7_ofBarge_91, ↓tbX7_ofBarge_92, ↓tbX7_ofBarge_94, ↓tbX7_ofBarge_97, ↓tbX7_ofBarge_98, ↓tbX7_ofBarge_100, ↓tbX7_ofBarge_101, ↓tbX7_ofBarge_104, ↓tbX7_ofBarge_105, ↓tbX7_ofBarge_107, ↓tbX7_ofBarge_110, ↓tbX7_ofBarge_113, ↓tbX7_ofBarge_114, ↓tbX7_ofBarge_117, ↓tbX7_ofBarge_119, ↓tbX7_ofBarge_120, ↓tbX7_ofBarge_123, ↓tbX7_ofBarge_124, hfu, xstep0, xJ1_hit, xJ1_go, xJ2_hit1, xJ2_hit2, xJ2_go, ↓xif_t, ↓xif_f, seval, ↓xca_eq, ↓xre_l, ↓xre_r, xmask_t, xmask_f, xmask_nil, ↓xst_eq, xX_eq, eI_eq, eMc_eq, eMs_eq, eF_eq, eThr_eq, ↓xS1_mk, ↓xSI_mk, ↓xSR_mk, ↓xLI_0, ↓xLI_s, ↓xLR_0, ↓xLR_s, vRef_ref, vRef_null, vRef_rf, cat_int, cat_ref, cat_null, cat_rf, rf_some, rf_none, rf_null, rf_eq, rf_ref, ref_rf, ref_null, ref_ref, xOk_0, xOk_1, xOk_2r, xOk_2n, xOk_2f, vOpt_rf, vOpt_ref, vOpt_null, List.set_cons_zero, List.set_cons_succ, List.take_succ_cons, List.take_zero, List.drop_succ_cons, List.drop_zero, List.reverse_cons, List.reverse_nil, List.nil_append, List.cons_append, List.append_nil, List.length_cons, List.length_nil, List.map_cons, List.map_nil, List.sum_cons, List.sum_nil, Option.toList_some, Option.toList_none, xRecv_mk, true_and, and_true, true_implies, Nat.reduceAdd, Nat.reduceLeDiff, Nat.zero_le, Nat.le_refl, Nat.add_zero, Nat.zero_add, reduceIte, not_true_eq_false, not_false_eq_true, false_implies, and_self, implies_true, eq_self, Nat.reduceEqDiff, List.cons.injEq, xsn_1, xsn_2, false_and, and_false, or_false, false_or, or_true, true_or, xsn_3, xsn_4, ti_0, ti_1, ti_2, ti_3, ti_4, ti_5, ti_6, ti_7, ti_8, ti_9, ti_10, tlt_0, tgt_6, ↓spwX7_needBarge, spcX7_needBarge, ↓spwX7_whereIs, spcX7_whereIs, ↓spwX4_placeOf, spcX4_placeOf, ↓spwX4_isTow, spcX4_isTow, ↓spwX4_behind, spcX4_behind, thfX7_ofBarge_0, h0, h1, h2, q]
    try simp only [xif_e]
    first | exact h | grind
