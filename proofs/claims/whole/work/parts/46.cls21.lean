/-! The class: boats brought; barges coupled. -/
def cBoa (W9 : xWd) (S : cS) (b q q2 q3 : Nat) (n w h p o : Int32) : cS := cSetI (cSetI (cSetI (cSetI (cBt W9 S b q q2 q3 n w h) b 206 p) b 207 (-1)) b 209 0) b 211 o
theorem fr1.nO {S S1 : cS} {q ci : Nat} (h : fr1 S S1) (hq : cDead S1 q) : fr1 S (cNewO S1 q ci) := h.trans (fr1_newO hq)
theorem fr1.nI {S S1 : cS} {q z n : Nat} (h : fr1 S S1) (hq : cDead S1 q) : fr1 S (cNewI S1 q z n) := h.trans (fr1_newI hq)
theorem same_newI {S : cS} {L q z n : Nat} : lSame S (cNewI S q z n) L := ⟨rfl, rfl, rfl⟩
theorem lSame.sI {S S1 : cS} {L q g : Nat} {x : Int32} (h : lSame S S1 L) (hg : 2 < g) : lSame S (cSetI S1 q g x) L := h.trans (same_sI (Or.inl hg))
theorem lSame.sR {S S1 : cS} {L q g : Nat} {r : Option Nat} (h : lSame S S1 L) (hg : 2 < g) : lSame S (cSetR S1 q g r) L := h.trans (same_sR (Or.inl hg))
theorem lSame.sI' {S S1 : cS} {L q g : Nat} {x : Int32} (h : lSame S S1 L) (hq : q ≠ L) : lSame S (cSetI S1 q g x) L := h.trans (same_sI (Or.inr hq))
theorem lSame.sR' {S S1 : cS} {L q g : Nat} {r : Option Nat} (h : lSame S S1 L) (hq : q ≠ L) : lSame S (cSetR S1 q g r) L := h.trans (same_sR (Or.inr hq))
theorem lSame.nI {S S1 : cS} {L q z n : Nat} (h : lSame S S1 L) : lSame S (cNewI S1 q z n) L := h.trans same_newI
theorem lSame.nO {S S1 : cS} {L q ci : Nat} (h : lSame S S1 L) (hL : cK S1 L = 1) (hq : cDead S1 q) : lSame S (cNewO S1 q ci) L := h.trans (same_newO hL hq)
/-- what a boat's making keeps -/
theorem cBt1_fr {S : cS} {b q : Nat} {n w h : Int32} (hb : cDead S b) (hq : cDead (cNewO S b 2) q) : fr1 S (cBt1 (cNewO S b 2) b q n w h) := by
  have hq2 : cDead S q := (fr1_newO hb).dead hq
  unfold cBt1
  exact ((((((((fr1_newO hb).sI hb).sI hb).sI hb).nI hq).sR hb).sI hb).sI hb).sI hb
theorem cBt1_same {S : cS} {L b q : Nat} {n w h : Int32} (hL : cK S L = 1) (hb : cDead S b) : lSame S (cBt1 (cNewO S b 2) b q n w h) L := by
  unfold cBt1
  exact ((((((((same_newO hL hb).sI (by omega)).sI (by omega)).sI (by omega)).nI).sR (by omega)).sI (by omega)).sI (by omega)).sI (by omega)
theorem cBoa_fr {W9 : xWd} {S : cS} {b q q2 q3 : Nat} {n w h p o : Int32} (hb : cDead S b) (hq : cDead (cNewO S b 2) q) (hq2 : cDead (cBt1 (cNewO S b 2) b q n w h) q2) (hq3 : cDead (cNewO (cBt1 (cNewO S b 2) b q n w h) q2 5) q3) : fr1 S (cBoa W9 (cNewO S b 2) b q q2 q3 n w h p o) := by
  have f1 := cBt1_fr hb hq (n := n) (w := w) (h := h)
  have d2 := f1.dead hq2
  have f2 := f1.nO hq2 (ci := 5)
  have d3 := f2.dead hq3
  unfold cBoa cBt cRow cLst
  have f3 := (f2.sI d2 (g := 504) (x := 2)).nO (q := q3) (ci := 0) hq3
  exact (((((((((((((f3.sI d3).sR d3).sR d2).sI d2).sI d2).sI d2).sI d2).sR hb).sI hb).sI hb).sI hb).sI hb))
theorem cBoa_same {W9 : xWd} {S : cS} {L b q q2 q3 : Nat} {n w h p o : Int32} (hL : cK S L = 1) (hb : cDead S b) (hq : cDead (cNewO S b 2) q) (hq2 : cDead (cBt1 (cNewO S b 2) b q n w h) q2) (hq3 : cDead (cNewO (cBt1 (cNewO S b 2) b q n w h) q2 5) q3) : lSame S (cBoa W9 (cNewO S b 2) b q q2 q3 n w h p o) L := by
  have f1 := cBt1_fr hb hq (n := n) (w := w) (h := h)
  have hlL := live_of hL (by omega)
  have k1 := (f1.1 L hlL).trans hL
  have f2 := f1.nO hq2 (ci := 5)
  have k2 := (f2.1 L hlL).trans hL
  have n3 : q3 ≠ L := fun z => live_K (f2.1 L hlL) hlL (z ▸ hq3)
  unfold cBoa cBt cRow cLst
  have s2 := (cBt1_same hL hb (q := q) (n := n) (w := w) (h := h)).nO (ci := 5) k1 hq2
  have s3 := (s2.sI (q := q2) (g := 504) (x := 2) (by omega)).nO (q := q3) (ci := 0) k2 hq3
  exact (((((((((((((s3.sI' n3).sR' n3).sR (by omega)).sI (by omega)).sI (by omega)).sI (by omega)).sI (by omega)).sR (by omega)).sI (by omega)).sI (by omega)).sI (by omega)).sI (by omega)))

def tbX7_boat : List (Nat × xHint) := [(0, .iload_n 3, 3, 0, 0, []), (1, .invokestatic 128, 0, 1, 0, []), (4, .iload_n 1, 1, 0, 0, []), (5, .iconst 1, 0, 0, 0, []), (6, .bipush 9, 0, 0, 0, []), (8, .invokestatic 57, 1, 3, 0, []), (11, .iload_n 2, 2, 0, 0, []), (12, .iconst 1, 0, 0, 0, []), (13, .iconst 4, 0, 0, 0, []), (14, .invokestatic 57, 1, 3, 0, []), (17, .aload_n 0, 0, 0, 0, []), (18, .getfield 25, 8, 4, 2, []), (21, .invokevirtual 108, 2, 1, 0, []), (24, .bipush 6, 0, 0, 0, []), (26, .if_icmp .ge 7, 33, 0, 0, []), (29, .iconst 1, 0, 0, 0, []), (30, .goto 4, 34, 0, 0, []), (33, .iconst 0, 0, 0, 0, []), (34, .invokestatic 77, 3, 1, 0, []), (37, .new 210, 0, 2, 15, []), (40, .dup, 0, 0, 0, []), (41, .aload_n 0, 0, 0, 0, []), (42, .getfield 25, 8, 4, 2, []), (45, .invokevirtual 108, 2, 1, 0, []), (48, .iload_n 1, 1, 0, 0, []), (49, .iload_n 2, 2, 0, 0, []), (50, .invokespecial 212, 4, 4, 0, []), (53, .astore 4, 4, 0, 0, []), (55, .aload 4, 4, 0, 0, []), (57, .iload_n 3, 3, 0, 0, []), (58, .aload_n 0, 0, 0, 0, []), (59, .getfield 193, 8, 7, 0, []), (62, .invokevirtual 214, 5, 3, 2, []), (65, .aload_n 0, 0, 0, 0, []), (66, .getfield 25, 8, 4, 2, []), (69, .aload 4, 4, 0, 0, []), (71, .invokevirtual 44, 6, 2, 0, []), (74, .pop, 0, 0, 0, []), (75, .aload_n 0, 0, 0, 0, []), (76, .getfield 35, 8, 6, 2, []), (79, .iconst 2, 0, 0, 0, []), (80, .aload 4, 4, 0, 0, []), (82, .getfield 218, 2, 0, 0, []), (85, .iload_n 3, 3, 0, 0, []), (86, .invokevirtual 125, 7, 4, 7, []), (89, .aload 4, 4, 0, 0, []), (91, .getfield 218, 2, 0, 0, []), (94, .ireturn, 0, 0, 0, [])]
def clX7_boat : List (Instr × Nat × Nat × Nat) := [(.invokestatic 128, 0, 1, 0), (.invokestatic 57, 1, 3, 0), (.invokevirtual 108, 2, 1, 0), (.invokestatic 77, 3, 1, 0), (.invokespecial 212, 4, 4, 0), (.invokevirtual 214, 5, 3, 2), (.invokevirtual 44, 6, 2, 0), (.invokevirtual 125, 7, 4, 7)]
def thX7_boat : List (Nat × Nat) := []
theorem ckX7_boat : tbX7_boat.all (xRow RX7 cX7_boat wsX7_boat vwCl [2, 8] clX7_boat thX7_boat 5 (yX7_boat.name == "<init>") (some .int)) = true := xRow_q 0xacda00b404197d00b61dda00b40419052300b42a572c00b604191900b42ad600b6c100b42a1d0419043ad400b71c1b6c00b61900b42a59d200bb4d00b8030400a7040700a206106c00b61900b42a3900b807041c3900b80910041b8000b81d 95 (by decide +kernel) (by decide +kernel)
theorem usX7_boat : xUse wsX7_boat vwCl [2, 8] = true := xUse_g rfl (lw_good lwl_X7_boat lwl_X10 (by decide +kernel)) (xUse_g rfl (lw_good lwl_X7_boat lwl_X70 (by decide +kernel)) xUse_n)
theorem tbX7_boat_0 {k : Instr → Nat → Nat → Nat → List Nat → Prop} : xse (xFind tbX7_boat 0) k = k (.iload_n 3) 3 0 0 [] := rfl
theorem tbX7_boat_1 {k : Instr → Nat → Nat → Nat → List Nat → Prop} : xse (xFind tbX7_boat 1) k = k (.invokestatic 128) 0 1 0 [] := rfl
theorem tbX7_boat_4 {k : Instr → Nat → Nat → Nat → List Nat → Prop} : xse (xFind tbX7_boat 4) k = k (.iload_n 1) 1 0 0 [] := rfl
theorem tbX7_boat_5 {k : Instr → Nat → Nat → Nat → List Nat → Prop} : xse (xFind tbX7_boat 5) k = k (.iconst 1) 0 0 0 [] := rfl
theorem tbX7_boat_6 {k : Instr → Nat → Nat → Nat → List Nat → Prop} : xse (xFind tbX7_boat 6) k = k (.bipush 9) 0 0 0 [] := rfl
theorem tbX7_boat_8 {k : Instr → Nat → Nat → Nat → List Nat → Prop} : xse (xFind tbX7_boat 8) k = k (.invokestatic 57) 1 3 0 [] := rfl
theorem tbX7_boat_11 {k : Instr → Nat → Nat → Nat → List Nat → Prop} : xse (xFind tbX7_boat 11) k = k (.iload_n 2) 2 0 0 [] := rfl
theorem tbX7_boat_12 {k : Instr → Nat → Nat → Nat → List Nat → Prop} : xse (xFind tbX7_boat 12) k = k (.iconst 1) 0 0 0 [] := rfl
theorem tbX7_boat_13 {k : Instr → Nat → Nat → Nat → List Nat → Prop} : xse (xFind tbX7_boat 13) k = k (.iconst 4) 0 0 0 [] := rfl
theorem tbX7_boat_14 {k : Instr → Nat → Nat → Nat → List Nat → Prop} : xse (xFind tbX7_boat 14) k = k (.invokestatic 57) 1 3 0 [] := rfl
theorem tbX7_boat_17 {k : Instr → Nat → Nat → Nat → List Nat → Prop} : xse (xFind tbX7_boat 17) k = k (.aload_n 0) 0 0 0 [] := rfl
theorem tbX7_boat_18 {k : Instr → Nat → Nat → Nat → List Nat → Prop} : xse (xFind tbX7_boat 18) k = k (.getfield 25) 8 4 2 [] := rfl
theorem tbX7_boat_21 {k : Instr → Nat → Nat → Nat → List Nat → Prop} : xse (xFind tbX7_boat 21) k = k (.invokevirtual 108) 2 1 0 [] := rfl
theorem tbX7_boat_24 {k : Instr → Nat → Nat → Nat → List Nat → Prop} : xse (xFind tbX7_boat 24) k = k (.bipush 6) 0 0 0 [] := rfl
theorem tbX7_boat_26 {k : Instr → Nat → Nat → Nat → List Nat → Prop} : xse (xFind tbX7_boat 26) k = k (.if_icmp .ge 7) 33 0 0 [] := rfl
theorem tbX7_boat_29 {k : Instr → Nat → Nat → Nat → List Nat → Prop} : xse (xFind tbX7_boat 29) k = k (.iconst 1) 0 0 0 [] := rfl
theorem tbX7_boat_30 {k : Instr → Nat → Nat → Nat → List Nat → Prop} : xse (xFind tbX7_boat 30) k = k (.goto 4) 34 0 0 [] := rfl
theorem tbX7_boat_33 {k : Instr → Nat → Nat → Nat → List Nat → Prop} : xse (xFind tbX7_boat 33) k = k (.iconst 0) 0 0 0 [] := rfl
theorem tbX7_boat_34 {k : Instr → Nat → Nat → Nat → List Nat → Prop} : xse (xFind tbX7_boat 34) k = k (.invokestatic 77) 3 1 0 [] := rfl
theorem tbX7_boat_37 {k : Instr → Nat → Nat → Nat → List Nat → Prop} : xse (xFind tbX7_boat 37) k = k (.new 210) 0 2 15 [] := rfl
theorem tbX7_boat_40 {k : Instr → Nat → Nat → Nat → List Nat → Prop} : xse (xFind tbX7_boat 40) k = k (.dup) 0 0 0 [] := rfl
theorem tbX7_boat_41 {k : Instr → Nat → Nat → Nat → List Nat → Prop} : xse (xFind tbX7_boat 41) k = k (.aload_n 0) 0 0 0 [] := rfl
theorem tbX7_boat_42 {k : Instr → Nat → Nat → Nat → List Nat → Prop} : xse (xFind tbX7_boat 42) k = k (.getfield 25) 8 4 2 [] := rfl
theorem tbX7_boat_45 {k : Instr → Nat → Nat → Nat → List Nat → Prop} : xse (xFind tbX7_boat 45) k = k (.invokevirtual 108) 2 1 0 [] := rfl
theorem tbX7_boat_48 {k : Instr → Nat → Nat → Nat → List Nat → Prop} : xse (xFind tbX7_boat 48) k = k (.iload_n 1) 1 0 0 [] := rfl
theorem tbX7_boat_49 {k : Instr → Nat → Nat → Nat → List Nat → Prop} : xse (xFind tbX7_boat 49) k = k (.iload_n 2) 2 0 0 [] := rfl
theorem tbX7_boat_50 {k : Instr → Nat → Nat → Nat → List Nat → Prop} : xse (xFind tbX7_boat 50) k = k (.invokespecial 212) 4 4 0 [] := rfl
theorem tbX7_boat_53 {k : Instr → Nat → Nat → Nat → List Nat → Prop} : xse (xFind tbX7_boat 53) k = k (.astore 4) 4 0 0 [] := rfl
theorem tbX7_boat_55 {k : Instr → Nat → Nat → Nat → List Nat → Prop} : xse (xFind tbX7_boat 55) k = k (.aload 4) 4 0 0 [] := rfl
theorem tbX7_boat_57 {k : Instr → Nat → Nat → Nat → List Nat → Prop} : xse (xFind tbX7_boat 57) k = k (.iload_n 3) 3 0 0 [] := rfl
theorem tbX7_boat_58 {k : Instr → Nat → Nat → Nat → List Nat → Prop} : xse (xFind tbX7_boat 58) k = k (.aload_n 0) 0 0 0 [] := rfl
theorem tbX7_boat_59 {k : Instr → Nat → Nat → Nat → List Nat → Prop} : xse (xFind tbX7_boat 59) k = k (.getfield 193) 8 7 0 [] := rfl
theorem tbX7_boat_62 {k : Instr → Nat → Nat → Nat → List Nat → Prop} : xse (xFind tbX7_boat 62) k = k (.invokevirtual 214) 5 3 2 [] := rfl
theorem tbX7_boat_65 {k : Instr → Nat → Nat → Nat → List Nat → Prop} : xse (xFind tbX7_boat 65) k = k (.aload_n 0) 0 0 0 [] := rfl
theorem tbX7_boat_66 {k : Instr → Nat → Nat → Nat → List Nat → Prop} : xse (xFind tbX7_boat 66) k = k (.getfield 25) 8 4 2 [] := rfl
theorem tbX7_boat_69 {k : Instr → Nat → Nat → Nat → List Nat → Prop} : xse (xFind tbX7_boat 69) k = k (.aload 4) 4 0 0 [] := rfl
theorem tbX7_boat_71 {k : Instr → Nat → Nat → Nat → List Nat → Prop} : xse (xFind tbX7_boat 71) k = k (.invokevirtual 44) 6 2 0 [] := rfl
theorem tbX7_boat_74 {k : Instr → Nat → Nat → Nat → List Nat → Prop} : xse (xFind tbX7_boat 74) k = k (.pop) 0 0 0 [] := rfl
theorem tbX7_boat_75 {k : Instr → Nat → Nat → Nat → List Nat → Prop} : xse (xFind tbX7_boat 75) k = k (.aload_n 0) 0 0 0 [] := rfl
theorem tbX7_boat_76 {k : Instr → Nat → Nat → Nat → List Nat → Prop} : xse (xFind tbX7_boat 76) k = k (.getfield 35) 8 6 2 [] := rfl
theorem tbX7_boat_79 {k : Instr → Nat → Nat → Nat → List Nat → Prop} : xse (xFind tbX7_boat 79) k = k (.iconst 2) 0 0 0 [] := rfl
theorem tbX7_boat_80 {k : Instr → Nat → Nat → Nat → List Nat → Prop} : xse (xFind tbX7_boat 80) k = k (.aload 4) 4 0 0 [] := rfl
theorem tbX7_boat_82 {k : Instr → Nat → Nat → Nat → List Nat → Prop} : xse (xFind tbX7_boat 82) k = k (.getfield 218) 2 0 0 [] := rfl
theorem tbX7_boat_85 {k : Instr → Nat → Nat → Nat → List Nat → Prop} : xse (xFind tbX7_boat 85) k = k (.iload_n 3) 3 0 0 [] := rfl
theorem tbX7_boat_86 {k : Instr → Nat → Nat → Nat → List Nat → Prop} : xse (xFind tbX7_boat 86) k = k (.invokevirtual 125) 7 4 7 [] := rfl
theorem tbX7_boat_89 {k : Instr → Nat → Nat → Nat → List Nat → Prop} : xse (xFind tbX7_boat 89) k = k (.aload 4) 4 0 0 [] := rfl
theorem tbX7_boat_91 {k : Instr → Nat → Nat → Nat → List Nat → Prop} : xse (xFind tbX7_boat 91) k = k (.getfield 218) 2 0 0 [] := rfl
theorem tbX7_boat_94 {k : Instr → Nat → Nat → Nat → List Nat → Prop} : xse (xFind tbX7_boat 94) k = k (.ireturn) 0 0 0 [] := rfl

def spX7_boat (W9 : xWd) : xSp cS := (fun av S => (11, 170), fun av S K => ∃ (a : Nat) (w : Int32) (z : Int32) (p : Int32), av = [.ref a, .int w, .int z, .int p] ∧ (cK S a = 9 ∧ (cIn S a 804 1 ∧ lAll S (cRf S a 804) 3) ∧ lCap W9 S (cRf S a 804) ∧ cFr S a 806 = some (cRf S a 806) ∧ ∃ N x u, stL S (cRf S a 806) N x u ∧ (¬ (0 ≤ p ∧ p < 8) → K (rX "java/lang/IndexOutOfBoundsException") S) ∧ ((0 ≤ p ∧ p < 8) → (¬ ((1 ≤ w ∧ w ≤ 9) ∧ 1 ≤ z ∧ z ≤ 4) → K (rX "java/lang/IllegalArgumentException") S) ∧ (((1 ≤ w ∧ w ≤ 9) ∧ 1 ≤ z ∧ z ≤ 4) → (¬ (cFi S (cRf S a 804) 2 < 6) → K (rX "java/lang/IllegalStateException") S) ∧ ((cFi S (cRf S a 804) 2 < 6) → ∀ b, cDead S b → ∀ q, cDead (cNewO S b 2) q → ∀ q2, cDead (cBt1 (cNewO S b 2) b q (cFi S (cRf S a 804) 2) w z) q2 → ∀ q3, cDead (cNewO (cBt1 (cNewO S b 2) b q (cFi S (cRf S a 804) 2) w z) q2 5) q3 → ∀ x2 S2, lAdd W9 (cSetI (cBoa W9 (cNewO S b 2) b q q2 q3 (cFi S (cRf S a 804) 2) w z p (cFi S a 807)) (cRf S a 804) 0 x2) (cRf S a 804) b S2 → ∀ S4, tlR S2 (cRf S a 806) N x u (cNote 2 (cFi S (cRf S a 804) 2) p) S4 → K (rI (cFi S (cRf S a 804) 2)) S4)))))
theorem spcX7_boat {av : List Value} {S : cS} {W9 : xWd} : (spX7_boat W9).1 av S = (11, 170) := rfl
theorem spwX7_boat {S : cS} {W9 : xWd} {K : xRes → cS → Prop} {a : Nat} {w : Int32} {z : Int32} {p : Int32} : (spX7_boat W9).2 [.ref a, .int w, .int z, .int p] S K = (cK S a = 9 ∧ (cIn S a 804 1 ∧ lAll S (cRf S a 804) 3) ∧ lCap W9 S (cRf S a 804) ∧ cFr S a 806 = some (cRf S a 806) ∧ ∃ N x u, stL S (cRf S a 806) N x u ∧ (¬ (0 ≤ p ∧ p < 8) → K (rX "java/lang/IndexOutOfBoundsException") S) ∧ ((0 ≤ p ∧ p < 8) → (¬ ((1 ≤ w ∧ w ≤ 9) ∧ 1 ≤ z ∧ z ≤ 4) → K (rX "java/lang/IllegalArgumentException") S) ∧ (((1 ≤ w ∧ w ≤ 9) ∧ 1 ≤ z ∧ z ≤ 4) → (¬ (cFi S (cRf S a 804) 2 < 6) → K (rX "java/lang/IllegalStateException") S) ∧ ((cFi S (cRf S a 804) 2 < 6) → ∀ b, cDead S b → ∀ q, cDead (cNewO S b 2) q → ∀ q2, cDead (cBt1 (cNewO S b 2) b q (cFi S (cRf S a 804) 2) w z) q2 → ∀ q3, cDead (cNewO (cBt1 (cNewO S b 2) b q (cFi S (cRf S a 804) 2) w z) q2 5) q3 → ∀ x2 S2, lAdd W9 (cSetI (cBoa W9 (cNewO S b 2) b q q2 q3 (cFi S (cRf S a 804) 2) w z p (cFi S a 807)) (cRf S a 804) 0 x2) (cRf S a 804) b S2 → ∀ S4, tlR S2 (cRf S a 806) N x u (cNote 2 (cFi S (cRf S a 804) 2) p) S4 → K (rI (cFi S (cRf S a 804) 2)) S4)))) :=
  propext ⟨fun h => by
    simp only [spX7_boat] at h
    obtain ⟨_, _, _, _, e, h⟩ := h
    simp only [List.cons.injEq, Value.int.injEq, Value.ref.injEq, rf_eq, and_true, true_and] at e
    obtain ⟨rfl, rfl, rfl, rfl⟩ := e
    exact h, fun h => ⟨_, _, _, _, rfl, h⟩⟩

def callX7_boat (W9 : xWd) : Nat → Option (xSp cS) := fun n => match n with | 0 => some (spX7_needPoint W9) | 1 => some (spX7_needWithin W9) | 2 => some (spJx4a65c_size_8abf5 W9) | 3 => some (spX7_needState W9) | 4 => some (spX1_init W9) | 5 => some (spX1_standAt W9) | 6 => some (spJx4a65c_add_9ea2d W9) | 7 => some (spX6_tell W9) | _ => none

theorem callX7_boat_0 {W9 : xWd} {k : xSp cS → Prop} : xcs (callX7_boat W9 0) k = k (spX7_needPoint W9) := rfl

theorem callX7_boat_1 {W9 : xWd} {k : xSp cS → Prop} : xcs (callX7_boat W9 1) k = k (spX7_needWithin W9) := rfl

theorem callX7_boat_2 {W9 : xWd} {k : xSp cS → Prop} : xcs (callX7_boat W9 2) k = k (spJx4a65c_size_8abf5 W9) := rfl

theorem callX7_boat_3 {W9 : xWd} {k : xSp cS → Prop} : xcs (callX7_boat W9 3) k = k (spX7_needState W9) := rfl

theorem callX7_boat_4 {W9 : xWd} {k : xSp cS → Prop} : xcs (callX7_boat W9 4) k = k (spX1_init W9) := rfl

theorem callX7_boat_5 {W9 : xWd} {k : xSp cS → Prop} : xcs (callX7_boat W9 5) k = k (spX1_standAt W9) := rfl

theorem callX7_boat_6 {W9 : xWd} {k : xSp cS → Prop} : xcs (callX7_boat W9 6) k = k (spJx4a65c_add_9ea2d W9) := rfl

theorem callX7_boat_7 {W9 : xWd} {k : xSp cS → Prop} : xcs (callX7_boat W9 7) k = k (spX6_tell W9) := rfl

theorem crX7_boat (l : Launch) (hl : l.stackTraces = false) (W9 : xWd) : xCallsOK l W9 (cI) (callX7_boat W9) clX7_boat RX7 wsX7_boat 8 191 5 := by
  intro E A p e R s m args below meth c hI hF hL X
  exact List.forall_mem_cons.mpr ⟨⟨_, rfl, xCR_S X (by rw [hI]; exact (semX7_needPoint l hl W9)) gX7_boat_X7_needPoint rfl (by decide +kernel) (by rw [hF, hL]; decide)⟩,
    List.forall_mem_cons.mpr ⟨⟨_, rfl, xCR_S X (by rw [hI]; exact (semX7_needWithin l hl W9)) gX7_boat_X7_needWithin rfl (by decide +kernel) (by rw [hF, hL]; decide)⟩,
    List.forall_mem_cons.mpr ⟨⟨_, rfl, xCR_V X (by rw [hI]; exact (semJx4a65c_size_8abf5 l hl W9)) gX7_boat_Jx4a65c_size_8abf5 rfl rfl (by decide +kernel) (by rw [hF, hL]; decide)⟩,
    List.forall_mem_cons.mpr ⟨⟨_, rfl, xCR_S X (by rw [hI]; exact (semX7_needState l hl W9)) gX7_boat_X7_needState rfl (by decide +kernel) (by rw [hF, hL]; decide)⟩,
    List.forall_mem_cons.mpr ⟨⟨_, rfl, xCR_I X (by rw [hI]; exact (semX1_init l hl W9)) gX7_boat_X1_init rfl (by decide +kernel) (by decide +kernel) (by decide +kernel) rfl sprX1_init (by decide +kernel) (by rw [hF, hL]; decide)⟩,
    List.forall_mem_cons.mpr ⟨⟨_, rfl, xCR_V X (by rw [hI]; exact (semX1_standAt l hl W9)) gX7_boat_X1_standAt rfl rfl (by decide +kernel) (by rw [hF, hL]; decide)⟩,
    List.forall_mem_cons.mpr ⟨⟨_, rfl, xCR_V X (by rw [hI]; exact (semJx4a65c_add_9ea2d l hl W9)) gX7_boat_Jx4a65c_add_9ea2d rfl rfl (by decide +kernel) (by rw [hF, hL]; decide)⟩,
    List.forall_mem_cons.mpr ⟨⟨_, rfl, xCR_V X (by rw [hI]; exact (semX6_tell l hl W9)) gX7_boat_X6_tell rfl rfl (by decide +kernel) (by rw [hF, hL]; decide)⟩,
    fun _ h => nomatch h⟩⟩⟩⟩⟩⟩⟩⟩

set_option maxHeartbeats 1500000 in
set_option maxRecDepth 20000 in
theorem semX7_boat (l : Launch) (hl : l.stackTraces = false) (W9 : xWd) : xSem l W9 (cI) yX7_boat wsX7_boat 8 191 (spX7_boat W9) := by
  refine xSem_of (call := callX7_boat W9) (thrf := fun _ => "") cI_law (by decide +kernel) rfl ckX7_boat usX7_boat (crX7_boat l hl W9) xThrOK_nil ?_ ?_
  · intro av S KF h
    obtain ⟨a, w, z, p, rfl, h⟩ := h
    exact ⟨by intro v hv; simp only [List.mem_cons, List.not_mem_nil, or_false] at hv; rcases hv with rfl | rfl | rfl | rfl <;> first | rfl | exact cat_rf, Nat.le_of_ble_eq_true rfl⟩
  intro av S KF h G hG
  obtain ⟨a, w, z, p, rfl, h⟩ := h
  rw [show (spX7_boat W9).1 _ S = _ from spcX7_boat] at hG
  try dsimp only at hG
  change G 0 [some (.ref a), some (.int w), some (.int z), some (.int p), none] [] S 0 0
  obtain ⟨h0, ⟨⟨h1, h1b⟩, h2⟩, h3, h5, N, x, u, h6, hbad, hok⟩ := h

  generalize hL : cRf S a 804 = L at *
  generalize hSt : cRf S a 806 = st0 at *
  by_cases w1 : 0 ≤ p ∧ p < 8
  · have hz1 := hok w1
    clear hok
    by_cases w2 : (1 ≤ w ∧ w ≤ 9) ∧ 1 ≤ z ∧ z ≤ 4
    · by_cases w3 : cFi S L 2 < 6
      · have hz := ((hz1.2 w2).2 w3)
        have w3b : ((6 : Int32) ≤ cFi S L 2) = False := eq_false (Int32.not_le.mpr w3)
        have h12 : lCn S L < 30 := by
          have y := h3.2.1
          rw [y, show (6 : Int32) = nI 6 from rfl, lt_nI (by have := h3.2.2.1; omega) (by omega)] at w3
          omega
        generalize hNW : cFi S L 2 = nw at *
        have la := live_of h0 (by omega)
        have lL := live_of h1b (by omega)
        have hpm : (-1 = p) = False := eq_false (fun y => by rw [← y] at w1; exact absurd w1.1 (by decide))
        have key2 : ∀ b, cDead S b → ∀ q, cDead (cNewO S b 2) q → ∀ q2, cDead (cBt1 (cNewO S b 2) b q nw w z) q2 → ∀ q3, cDead (cNewO (cBt1 (cNewO S b 2) b q nw w z) q2 5) q3 → G 53 [some (.ref a), some (.int w), some (.int z), some (.int p), none] [.ref b] (cBt W9 (cNewO S b 2) b q q2 q3 nw w z) 8 58 := by
          intro b hb q hq q2 hq2 q3 hq3
          have hr := hz b hb q hq q2 hq2 q3 hq3
          have hfr : fr1 S (cBoa W9 (cNewO S b 2) b q q2 q3 nw w z p (cFi S a 807)) := cBoa_fr hb hq hq2 hq3
          have hsm : lSame S (cBoa W9 (cNewO S b 2) b q q2 q3 nw w z p (cFi S a 807)) L := cBoa_same h1b hb hq hq2 hq3
          have hcp := h3.mono hfr hsm
          have hkd := (lAll_kd h2 (Or.inr (Or.inl rfl))).mono hfr hsm
          have hcn := hsm.rd.1
          have hKa := (hfr.1 a la).trans h0
          have hKL := (hfr.1 L lL).trans h1b
          have hFa := hfr.2.2.1 a 804 (by omega) la
          rw [h1] at hFa
          have hst1 := h6.mono hfr
          have hFs : cFr (cBoa W9 (cNewO S b 2) b q q2 q3 nw w z p (cFi S a 807)) a 806 = some st0 := (hfr.2.2.1 a 806 (by omega) la).trans h5
          have f1 := cBt1_fr hb hq (n := nw) (w := w) (h := z)
          have f2 := f1.nO hq2 (ci := 5)
          have m1 : q ≠ b := ((dead_nO (by omega)).mp hq).1
          have k1 : cK (cBt1 (cNewO S b 2) b q nw w z) b = 3 := by
            unfold cBt1
            simp only [cK_setI, cK_setR, cK_newI, cK_newO, if_neg m1.symm, if_true]
          have m2 : (b = q2) = False := ne_dead k1 (by omega) hq2
          have m3 : (b = q3) = False := eq_false (fun y => by rw [← y] at hq3; exact ((dead_nO (by omega)).mp hq3).2 (by rw [k1]; decide))
          have hKb : cK (cBt W9 (cNewO S b 2) b q q2 q3 nw w z) b = 3 := by
            unfold cBt cRow cLst
            simp only [cK_setI, cK_setR, cK_newO, m2, m3, if_false]
            exact k1
          have hgl : cFi (cBt W9 (cNewO S b 2) b q q2 q3 nw w z) b 210 = -1 := by
            unfold cBt cRow cLst cBt1
            simp only [cFi_setI, cFi_setR, cFi_newO, cFi_newI, m2, m3, Nat.reduceEqDiff, false_and, and_false, and_self, if_true, if_false]
          have hnm : cFi (cBoa W9 (cNewO S b 2) b q q2 q3 nw w z p (cFi S a 807)) b 200 = nw := by
            unfold cBoa cBt cRow cLst cBt1
            simp only [cFi_setI, cFi_setR, cFi_newO, cFi_newI, m2, m3, Nat.reduceEqDiff, false_and, and_false, and_self, if_true, if_false]
          have hho : cFi (cBt W9 (cNewO S b 2) b q q2 q3 nw w z) a 807 = cFi S a 807 := by
            have n1 := ne_dead h0 (by omega) hb
            have n2 := ne_dead ((f1.1 a la).trans h0) (by omega) hq2
            have n3 := ne_dead ((f2.1 a la).trans h0) (by omega) hq3
            unfold cBt cRow cLst cBt1
            simp only [cFi_setI, cFi_setR, cFi_newO, cFi_newI, n1, n2, n3, Nat.reduceEqDiff, false_and, and_false, and_self, if_true, if_false]
          have hKa0 : cK (cBt W9 (cNewO S b 2) b q q2 q3 nw w z) a = 9 := hKa
          have hKB : cK (cBoa W9 (cNewO S b 2) b q q2 q3 nw w z p (cFi S a 807)) b = 3 := hKb
          generalize hS1 : cBoa W9 (cNewO S b 2) b q q2 q3 nw w z p (cFi S a 807) = S1 at *
          unfold cBoa at hS1
          generalize cBt W9 (cNewO S b 2) b q q2 q3 nw w z = S0 at *
          have k75 : ∀ S2, lAdd W9 (cSetI S1 L 0 (cFi S1 L 0 + 1)) L b S2 → G 75 [some (.ref a), some (.int w), some (.int z), some (.int p), some (.ref b)] [] S2 9 103 := by
            intro S2 hA
            have hr2 := hr _ S2 hA
            have hf2 : fr1 S1 S2 := (fr1_m (L := L) (g := 0) (x := cFi S1 L 0 + 1) (by omega)).trans (fr1_add hA)
            have lb1 := live_of hKB (by omega)
            have la1 := live_of hKa (by omega)
            have hKa2 := (hf2.1 a la1).trans hKa
            have hKb2 := (hf2.1 b lb1).trans hKB
            have hnm2 := (hf2.2.1 b 200 (by omega) lb1).trans hnm
            have hFs2 := (hf2.2.2.1 a 806 (by omega) la1).trans hFs
            have hst2 := hst1.mono hf2
            have s0 := hst2.1
            refine xgo0 hG (fun fu hfu => ?_)
            simp only [↓callX7_boat_0, ↓callX7_boat_1, ↓callX7_boat_2, ↓callX7_boat_3, ↓callX7_boat_4, ↓callX7_boat_5, ↓callX7_boat_6, ↓callX7_boat_7, ↓cg_2_0, ↓cg_8_4, ↓cg_8_6, ↓cg_8_7, cisa, ↓cnew, kb_6, kb_9, kc_6, kc_9, ki_0, ki_1, ki_2, ki_4, ↓vm_aload, ↓vm_aload_n, ↓vm_astore, ↓vm_bipush, ↓vm_dup, ↓vm_getfield, ↓vm_goto, ↓vm_iconst, ↓vm_if_icmp_ge, ↓vm_iload_n, ↓vm_invokespecial, ↓vm_invokestatic, ↓vm_invokevirtual, ↓vm_ireturn, ↓vm_newO, ↓vm_pop, ↓xc_1, ↓xc_2, ↓xc_3, ↓xc_4, ↓tbX7_boat_0, ↓tbX7_boat_1, ↓tbX7_boat_4, ↓tbX7_boat_5, ↓tbX7_boat_6, ↓tbX7_boat_8, ↓tbX7_boat_11, ↓tbX7_boat_12, ↓tbX7_boat_13, ↓tbX7_boat_14, ↓tbX7_boat_17, ↓tbX7_boat_18, ↓tbX7_boat_21, ↓tbX7_boat_24, ↓tbX7_boat_26, ↓tbX7_boat_29, ↓tbX7_boat_30, ↓tbX7_boat_33, ↓tbX7_boat_34, ↓tbX7_boat_37, ↓tbX7_boat_40, ↓tbX7_boat_41, ↓tbX7_boat_42, ↓tbX7_boat_45, ↓tbX7_boat_48, ↓tbX7_boat_49, ↓tbX7_boat_50, ↓tbX7_boat_53, ↓tbX7_boat_55, ↓tbX7_boat_57, ↓tbX7_boat_58, ↓tbX7_boat_59, ↓tbX7_boat_62, ↓tbX7_boat_65, ↓tbX7_boat_66, ↓tbX7_boat_69, ↓tbX7_boat_71, ↓tbX7_boat_74, ↓tbX7_boat_75, ↓tbX7_boat_76, ↓tbX7_boat_79, ↓tbX7_boat_80, ↓tbX7_boat_82, ↓tbX7_boat_85, ↓tbX7_boat_86, ↓tbX7_boat_89, ↓tbX7_boat_91, ↓tbX7_boat_94, hfu, xstep0, xJ1_hit, xJ1_go, xJ2_hit1, xJ2_hit2, xJ2_go, ↓xif_t, ↓xif_f, seval, ↓xca_eq, ↓xre_l, ↓xre_r, xmask_t, xmask_f, xmask_nil, ↓xst_eq, xX_eq, eI_eq, eMc_eq, eMs_eq, eF_eq, eThr_eq, ↓xS1_mk, ↓xSI_mk, ↓xSR_mk, ↓xLI_0, ↓xLI_s, ↓xLR_0, ↓xLR_s, vRef_ref, vRef_null, vRef_rf, cat_int, cat_ref, cat_null, cat_rf, rf_some, rf_none, rf_null, rf_eq, rf_ref, ref_rf, ref_null, ref_ref, xOk_0, xOk_1, xOk_2r, xOk_2n, xOk_2f, vOpt_rf, vOpt_ref, vOpt_null, List.set_cons_zero, List.set_cons_succ, List.take_succ_cons, List.take_zero, List.drop_succ_cons, List.drop_zero, List.reverse_cons, List.reverse_nil, List.nil_append, List.cons_append, List.append_nil, List.length_cons, List.length_nil, List.map_cons, List.map_nil, List.sum_cons, List.sum_nil, Option.toList_some, Option.toList_none, xRecv_mk, true_and, and_true, true_implies, Nat.reduceAdd, Nat.reduceLeDiff, Nat.zero_le, Nat.le_refl, Nat.add_zero, Nat.zero_add, reduceIte, not_true_eq_false, not_false_eq_true, false_implies, and_self, implies_true, eq_self, Nat.reduceEqDiff, List.cons.injEq, xsn_1, xsn_2, false_and, and_false, or_false, false_or, or_true, true_or, xsn_3, xsn_4, cK_setI, cFi_setI, cFr_setI, cLen_setI, cRi_setI, ↓spwX7_needPoint, spcX7_needPoint, ↓spwX7_needWithin, spcX7_needWithin, ↓spwJx4a65c_size_8abf5, spcJx4a65c_size_8abf5, ↓spwX7_needState, spcX7_needState, ↓spwX1_init, spcX1_init, ↓spwX1_standAt, spcX1_standAt, ↓spwJx4a65c_add_9ea2d, spcJx4a65c_add_9ea2d, ↓spwX6_tell, spcX6_tell, hKa2, hFs2, hKb2, hnm2, s0]
            try simp only [xif_e]
            refine ⟨N, x, u, hst2, fun S4 hT => ?_⟩
            have hf4 : cK S4 b = 3 ∧ cFi S4 b 200 = nw := by
              rcases hT with ⟨z1, rfl⟩ | ⟨z1, q5, q6, d5, d6, rfl⟩
              · unfold cTl1
                simp only [cK_setI, cK_ast, cFi_setI, cFi_ast, Nat.reduceEqDiff, and_false, if_false]
                exact ⟨hKb2, hnm2⟩
              · unfold cTl2 cPg
                have e5 : (b = q5) = False := ne_dead hKb2 (by omega) d5
                have e6 : (b = q6) = False := ne_dead hKb2 (by omega) ((dead_nO (by omega)).mp d6).2
                simp only [cK_setI, cK_ast, cK_setR, cK_newI, cK_newO, cFi_setI, cFi_ast, cFi_setR, cFi_newI, cFi_newO, Nat.reduceEqDiff, and_false, if_false, e5, e6]
                exact ⟨hKb2, hnm2⟩
            rw [hf4.2]
            exact ⟨hf4.1, hr2 S4 hT⟩
          refine xgo hG (head := 75) (mb := [true, true, true, true, true]) (P := fun lv st S2 cs ss => lAdd W9 (cSetI S1 L 0 (cFi S1 L 0 + 1)) L b S2 ∧ lv = [some (.ref a), some (.int w), some (.int z), some (.int p), some (.ref b)] ∧ st = [] ∧ cs = 9 ∧ ss = 103) (fun lv st S2 cs ss hP => ?_) (fun fu hfu => ?_)
          · obtain ⟨hA, rfl, rfl, rfl, rfl⟩ := hP
            exact k75 S2 hA
          · simp only [↓callX7_boat_0, ↓callX7_boat_1, ↓callX7_boat_2, ↓callX7_boat_3, ↓callX7_boat_4, ↓callX7_boat_5, ↓callX7_boat_6, ↓callX7_boat_7, ↓cg_2_0, ↓cg_8_4, ↓cg_8_6, ↓cg_8_7, cisa, ↓cnew, kb_6, kb_9, kc_6, kc_9, ki_0, ki_1, ki_2, ki_4, ↓vm_aload, ↓vm_aload_n, ↓vm_astore, ↓vm_bipush, ↓vm_dup, ↓vm_getfield, ↓vm_goto, ↓vm_iconst, ↓vm_if_icmp_ge, ↓vm_iload_n, ↓vm_invokespecial, ↓vm_invokestatic, ↓vm_invokevirtual, ↓vm_ireturn, ↓vm_newO, ↓vm_pop, ↓xc_1, ↓xc_2, ↓xc_3, ↓xc_4, ↓tbX7_boat_0, ↓tbX7_boat_1, ↓tbX7_boat_4, ↓tbX7_boat_5, ↓tbX7_boat_6, ↓tbX7_boat_8, ↓tbX7_boat_11, ↓tbX7_boat_12, ↓tbX7_boat_13, ↓tbX7_boat_14, ↓tbX7_boat_17, ↓tbX7_boat_18, ↓tbX7_boat_21, ↓tbX7_boat_24, ↓tbX7_boat_26, ↓tbX7_boat_29, ↓tbX7_boat_30, ↓tbX7_boat_33, ↓tbX7_boat_34, ↓tbX7_boat_37, ↓tbX7_boat_40, ↓tbX7_boat_41, ↓tbX7_boat_42, ↓tbX7_boat_45, ↓tbX7_boat_48, ↓tbX7_boat_49, ↓tbX7_boat_50, ↓tbX7_boat_53, ↓tbX7_boat_55, ↓tbX7_boat_57, ↓tbX7_boat_58, ↓tbX7_boat_59, ↓tbX7_boat_62, ↓tbX7_boat_65, ↓tbX7_boat_66, ↓tbX7_boat_69, ↓tbX7_boat_71, ↓tbX7_boat_74, ↓tbX7_boat_75, ↓tbX7_boat_76, ↓tbX7_boat_79, ↓tbX7_boat_80, ↓tbX7_boat_82, ↓tbX7_boat_85, ↓tbX7_boat_86, ↓tbX7_boat_89, ↓tbX7_boat_91, ↓tbX7_boat_94, hfu, xstep0, xJ1_hit, xJ1_go, xJ2_hit1, xJ2_hit2, xJ2_go, ↓xif_t, ↓xif_f, seval, ↓xca_eq, ↓xre_l, ↓xre_r, xmask_t, xmask_f, xmask_nil, ↓xst_eq, xX_eq, eI_eq, eMc_eq, eMs_eq, eF_eq, eThr_eq, ↓xS1_mk, ↓xSI_mk, ↓xSR_mk, ↓xLI_0, ↓xLI_s, ↓xLR_0, ↓xLR_s, vRef_ref, vRef_null, vRef_rf, cat_int, cat_ref, cat_null, cat_rf, rf_some, rf_none, rf_null, rf_eq, rf_ref, ref_rf, ref_null, ref_ref, xOk_0, xOk_1, xOk_2r, xOk_2n, xOk_2f, vOpt_rf, vOpt_ref, vOpt_null, List.set_cons_zero, List.set_cons_succ, List.take_succ_cons, List.take_zero, List.drop_succ_cons, List.drop_zero, List.reverse_cons, List.reverse_nil, List.nil_append, List.cons_append, List.append_nil, List.length_cons, List.length_nil, List.map_cons, List.map_nil, List.sum_cons, List.sum_nil, Option.toList_some, Option.toList_none, xRecv_mk, true_and, and_true, true_implies, Nat.reduceAdd, Nat.reduceLeDiff, Nat.zero_le, Nat.le_refl, Nat.add_zero, Nat.zero_add, reduceIte, not_true_eq_false, not_false_eq_true, false_implies, and_self, implies_true, eq_self, Nat.reduceEqDiff, List.cons.injEq, xsn_1, xsn_2, false_and, and_false, or_false, false_or, or_true, true_or, xsn_3, xsn_4, cK_setI, cFi_setI, cFr_setI, cLen_setI, cRi_setI, ↓spwX7_needPoint, spcX7_needPoint, ↓spwX7_needWithin, spcX7_needWithin, ↓spwJx4a65c_size_8abf5, spcJx4a65c_size_8abf5, ↓spwX7_needState, spcX7_needState, ↓spwX1_init, spcX1_init, ↓spwX1_standAt, spcX1_standAt, ↓spwJx4a65c_add_9ea2d, spcJx4a65c_add_9ea2d, ↓spwX6_tell, spcX6_tell, hKa0, hho, hKb, hgl, hpm, hS1, hKa, hKL, hFa, hKB, hcp, hcn, h12, hkd]
            try simp only [xif_e]
            intro S2 hA
            first | exact hA | exact ⟨hA, rfl⟩ | exact ⟨hA, rfl, rfl⟩ | exact ⟨hA, rfl, rfl, rfl, rfl⟩
        have key : ∀ b, cDead S b → G 40 [some (.ref a), some (.int w), some (.int z), some (.int p), none] [.ref b] (cNewO S b 2) 5 39 := by
          intro b hb
          have n1 := ne_dead h0 (by omega) hb
          have n2 := ne_dead h1b (by omega) hb
          refine xgo hG (head := 53) (mb := [true, true, true, true, false]) (P := fun lv st S9 cs ss => ∃ q q2 q3, cDead (cNewO S b 2) q ∧ cDead (cBt1 (cNewO S b 2) b q nw w z) q2 ∧ cDead (cNewO (cBt1 (cNewO S b 2) b q nw w z) q2 5) q3 ∧ lv = [some (.ref a), some (.int w), some (.int z), some (.int p), none] ∧ st = [.ref b] ∧ S9 = cBt W9 (cNewO S b 2) b q q2 q3 nw w z ∧ cs = 8 ∧ ss = 58) (fun lv st S9 cs ss hP => ?_) (fun fu hfu => ?_)
          · obtain ⟨q, q2, q3, d1, d2, d3, rfl, rfl, rfl, rfl, rfl⟩ := hP
            exact key2 b hb q d1 q2 d2 q3 d3
          · simp only [↓callX7_boat_0, ↓callX7_boat_1, ↓callX7_boat_2, ↓callX7_boat_3, ↓callX7_boat_4, ↓callX7_boat_5, ↓callX7_boat_6, ↓callX7_boat_7, ↓cg_2_0, ↓cg_8_4, ↓cg_8_6, ↓cg_8_7, cisa, ↓cnew, kb_6, kb_9, kc_6, kc_9, ki_0, ki_1, ki_2, ki_4, ↓vm_aload, ↓vm_aload_n, ↓vm_astore, ↓vm_bipush, ↓vm_dup, ↓vm_getfield, ↓vm_goto, ↓vm_iconst, ↓vm_if_icmp_ge, ↓vm_iload_n, ↓vm_invokespecial, ↓vm_invokestatic, ↓vm_invokevirtual, ↓vm_ireturn, ↓vm_newO, ↓vm_pop, ↓xc_1, ↓xc_2, ↓xc_3, ↓xc_4, ↓tbX7_boat_0, ↓tbX7_boat_1, ↓tbX7_boat_4, ↓tbX7_boat_5, ↓tbX7_boat_6, ↓tbX7_boat_8, ↓tbX7_boat_11, ↓tbX7_boat_12, ↓tbX7_boat_13, ↓tbX7_boat_14, ↓tbX7_boat_17, ↓tbX7_boat_18, ↓tbX7_boat_21, ↓tbX7_boat_24, ↓tbX7_boat_26, ↓tbX7_boat_29, ↓tbX7_boat_30, ↓tbX7_boat_33, ↓tbX7_boat_34, ↓tbX7_boat_37, ↓tbX7_boat_40, ↓tbX7_boat_41, ↓tbX7_boat_42, ↓tbX7_boat_45, ↓tbX7_boat_48, ↓tbX7_boat_49, ↓tbX7_boat_50, ↓tbX7_boat_53, ↓tbX7_boat_55, ↓tbX7_boat_57, ↓tbX7_boat_58, ↓tbX7_boat_59, ↓tbX7_boat_62, ↓tbX7_boat_65, ↓tbX7_boat_66, ↓tbX7_boat_69, ↓tbX7_boat_71, ↓tbX7_boat_74, ↓tbX7_boat_75, ↓tbX7_boat_76, ↓tbX7_boat_79, ↓tbX7_boat_80, ↓tbX7_boat_82, ↓tbX7_boat_85, ↓tbX7_boat_86, ↓tbX7_boat_89, ↓tbX7_boat_91, ↓tbX7_boat_94, hfu, xstep0, xJ1_hit, xJ1_go, xJ2_hit1, xJ2_hit2, xJ2_go, ↓xif_t, ↓xif_f, seval, ↓xca_eq, ↓xre_l, ↓xre_r, xmask_t, xmask_f, xmask_nil, ↓xst_eq, xX_eq, eI_eq, eMc_eq, eMs_eq, eF_eq, eThr_eq, ↓xS1_mk, ↓xSI_mk, ↓xSR_mk, ↓xLI_0, ↓xLI_s, ↓xLR_0, ↓xLR_s, vRef_ref, vRef_null, vRef_rf, cat_int, cat_ref, cat_null, cat_rf, rf_some, rf_none, rf_null, rf_eq, rf_ref, ref_rf, ref_null, ref_ref, xOk_0, xOk_1, xOk_2r, xOk_2n, xOk_2f, vOpt_rf, vOpt_ref, vOpt_null, List.set_cons_zero, List.set_cons_succ, List.take_succ_cons, List.take_zero, List.drop_succ_cons, List.drop_zero, List.reverse_cons, List.reverse_nil, List.nil_append, List.cons_append, List.append_nil, List.length_cons, List.length_nil, List.map_cons, List.map_nil, List.sum_cons, List.sum_nil, Option.toList_some, Option.toList_none, xRecv_mk, true_and, and_true, true_implies, Nat.reduceAdd, Nat.reduceLeDiff, Nat.zero_le, Nat.le_refl, Nat.add_zero, Nat.zero_add, reduceIte, not_true_eq_false, not_false_eq_true, false_implies, and_self, implies_true, eq_self, Nat.reduceEqDiff, List.cons.injEq, xsn_1, xsn_2, false_and, and_false, or_false, false_or, or_true, true_or, xsn_3, xsn_4, cK_setI, cFi_setI, cFr_setI, cLen_setI, cRi_setI, ↓spwX7_needPoint, spcX7_needPoint, ↓spwX7_needWithin, spcX7_needWithin, ↓spwJx4a65c_size_8abf5, spcJx4a65c_size_8abf5, ↓spwX7_needState, spcX7_needState, ↓spwX1_init, spcX1_init, ↓spwX1_standAt, spcX1_standAt, ↓spwJx4a65c_add_9ea2d, spcJx4a65c_add_9ea2d, ↓spwX6_tell, spcX6_tell, cK_newO, cFr_newO, cFi_newO, h0, h1, h1b, n1, n2, hNW]
            try simp only [xif_e]
            intro q d1 q2 d2 q3 d3
            first | exact ⟨q, q2, q3, d1, d2, d3, rfl⟩ | exact ⟨q, q2, q3, d1, d2, d3, rfl, rfl⟩ | exact ⟨q, q2, q3, d1, d2, d3, rfl, rfl, rfl, rfl, rfl⟩
        refine xgo hG (head := 40) (mb := [true, true, true, true, false]) (P := fun lv st S1 cs ss => ∃ b, cDead S b ∧ lv = [some (.ref a), some (.int w), some (.int z), some (.int p), none] ∧ st = [.ref b] ∧ S1 = cNewO S b 2 ∧ cs = 5 ∧ ss = 39) (fun lv st S1 cs ss hP => ?_) (fun fu hfu => ?_)
        · obtain ⟨b, hb, rfl, rfl, rfl, rfl, rfl⟩ := hP
          exact key b hb
        · simp only [↓callX7_boat_0, ↓callX7_boat_1, ↓callX7_boat_2, ↓callX7_boat_3, ↓callX7_boat_4, ↓callX7_boat_5, ↓callX7_boat_6, ↓callX7_boat_7, ↓cg_2_0, ↓cg_8_4, ↓cg_8_6, ↓cg_8_7, cisa, ↓cnew, kb_6, kb_9, kc_6, kc_9, ki_0, ki_1, ki_2, ki_4, ↓vm_aload, ↓vm_aload_n, ↓vm_astore, ↓vm_bipush, ↓vm_dup, ↓vm_getfield, ↓vm_goto, ↓vm_iconst, ↓vm_if_icmp_ge, ↓vm_iload_n, ↓vm_invokespecial, ↓vm_invokestatic, ↓vm_invokevirtual, ↓vm_ireturn, ↓vm_newO, ↓vm_pop, ↓xc_1, ↓xc_2, ↓xc_3, ↓xc_4, ↓tbX7_boat_0, ↓tbX7_boat_1, ↓tbX7_boat_4, ↓tbX7_boat_5, ↓tbX7_boat_6, ↓tbX7_boat_8, ↓tbX7_boat_11, ↓tbX7_boat_12, ↓tbX7_boat_13, ↓tbX7_boat_14, ↓tbX7_boat_17, ↓tbX7_boat_18, ↓tbX7_boat_21, ↓tbX7_boat_24, ↓tbX7_boat_26, ↓tbX7_boat_29, ↓tbX7_boat_30, ↓tbX7_boat_33, ↓tbX7_boat_34, ↓tbX7_boat_37, ↓tbX7_boat_40, ↓tbX7_boat_41, ↓tbX7_boat_42, ↓tbX7_boat_45, ↓tbX7_boat_48, ↓tbX7_boat_49, ↓tbX7_boat_50, ↓tbX7_boat_53, ↓tbX7_boat_55, ↓tbX7_boat_57, ↓tbX7_boat_58, ↓tbX7_boat_59, ↓tbX7_boat_62, ↓tbX7_boat_65, ↓tbX7_boat_66, ↓tbX7_boat_69, ↓tbX7_boat_71, ↓tbX7_boat_74, ↓tbX7_boat_75, ↓tbX7_boat_76, ↓tbX7_boat_79, ↓tbX7_boat_80, ↓tbX7_boat_82, ↓tbX7_boat_85, ↓tbX7_boat_86, ↓tbX7_boat_89, ↓tbX7_boat_91, ↓tbX7_boat_94, hfu, xstep0, xJ1_hit, xJ1_go, xJ2_hit1, xJ2_hit2, xJ2_go, ↓xif_t, ↓xif_f, seval, ↓xca_eq, ↓xre_l, ↓xre_r, xmask_t, xmask_f, xmask_nil, ↓xst_eq, xX_eq, eI_eq, eMc_eq, eMs_eq, eF_eq, eThr_eq, ↓xS1_mk, ↓xSI_mk, ↓xSR_mk, ↓xLI_0, ↓xLI_s, ↓xLR_0, ↓xLR_s, vRef_ref, vRef_null, vRef_rf, cat_int, cat_ref, cat_null, cat_rf, rf_some, rf_none, rf_null, rf_eq, rf_ref, ref_rf, ref_null, ref_ref, xOk_0, xOk_1, xOk_2r, xOk_2n, xOk_2f, vOpt_rf, vOpt_ref, vOpt_null, List.set_cons_zero, List.set_cons_succ, List.take_succ_cons, List.take_zero, List.drop_succ_cons, List.drop_zero, List.reverse_cons, List.reverse_nil, List.nil_append, List.cons_append, List.append_nil, List.length_cons, List.length_nil, List.map_cons, List.map_nil, List.sum_cons, List.sum_nil, Option.toList_some, Option.toList_none, xRecv_mk, true_and, and_true, true_implies, Nat.reduceAdd, Nat.reduceLeDiff, Nat.zero_le, Nat.le_refl, Nat.add_zero, Nat.zero_add, reduceIte, not_true_eq_false, not_false_eq_true, false_implies, and_self, implies_true, eq_self, Nat.reduceEqDiff, List.cons.injEq, xsn_1, xsn_2, false_and, and_false, or_false, false_or, or_true, true_or, xsn_3, xsn_4, cK_setI, cFi_setI, cFr_setI, cLen_setI, cRi_setI, ↓spwX7_needPoint, spcX7_needPoint, ↓spwX7_needWithin, spcX7_needWithin, ↓spwJx4a65c_size_8abf5, spcJx4a65c_size_8abf5, ↓spwX7_needState, spcX7_needState, ↓spwX1_init, spcX1_init, ↓spwX1_standAt, spcX1_standAt, ↓spwJx4a65c_add_9ea2d, spcJx4a65c_add_9ea2d, ↓spwX6_tell, spcX6_tell, h0, h1, h1b, w1, w2, w3b, hL, hNW]
          try simp only [xif_e]
          intro b hb
          first | exact ⟨b, hb, rfl⟩ | exact ⟨b, hb, rfl, rfl⟩ | exact ⟨b, hb, rfl, rfl, rfl⟩ | exact ⟨b, hb, rfl, rfl, rfl, rfl, rfl⟩
      · have h := (hz1.2 w2).1 w3
        refine xgo hG (mb := []) (head := 37) (P := fun _ _ _ _ _ => False) (fun _ _ _ _ _ q => q.elim) (pc := 0) (fun fu hfu => ?_)
        simp only [↓callX7_boat_0, ↓callX7_boat_1, ↓callX7_boat_2, ↓callX7_boat_3, ↓callX7_boat_4, ↓callX7_boat_5, ↓callX7_boat_6, ↓callX7_boat_7, ↓cg_2_0, ↓cg_8_4, ↓cg_8_6, ↓cg_8_7, cisa, ↓cnew, kb_6, kb_9, kc_6, kc_9, ki_0, ki_1, ki_2, ki_4, ↓vm_aload, ↓vm_aload_n, ↓vm_astore, ↓vm_bipush, ↓vm_dup, ↓vm_getfield, ↓vm_goto, ↓vm_iconst, ↓vm_if_icmp_ge, ↓vm_iload_n, ↓vm_invokespecial, ↓vm_invokestatic, ↓vm_invokevirtual, ↓vm_ireturn, ↓vm_newO, ↓vm_pop, ↓xc_1, ↓xc_2, ↓xc_3, ↓xc_4, ↓tbX7_boat_0, ↓tbX7_boat_1, ↓tbX7_boat_4, ↓tbX7_boat_5, ↓tbX7_boat_6, ↓tbX7_boat_8, ↓tbX7_boat_11, ↓tbX7_boat_12, ↓tbX7_boat_13, ↓tbX7_boat_14, ↓tbX7_boat_17, ↓tbX7_boat_18, ↓tbX7_boat_21, ↓tbX7_boat_24, ↓tbX7_boat_26, ↓tbX7_boat_29, ↓tbX7_boat_30, ↓tbX7_boat_33, ↓tbX7_boat_34, ↓tbX7_boat_37, ↓tbX7_boat_40, ↓tbX7_boat_41, ↓tbX7_boat_42, ↓tbX7_boat_45, ↓tbX7_boat_48, ↓tbX7_boat_49, ↓tbX7_boat_50, ↓tbX7_boat_53, ↓tbX7_boat_55, ↓tbX7_boat_57, ↓tbX7_boat_58, ↓tbX7_boat_59, ↓tbX7_boat_62, ↓tbX7_boat_65, ↓tbX7_boat_66, ↓tbX7_boat_69, ↓tbX7_boat_71, ↓tbX7_boat_74, ↓tbX7_boat_75, ↓tbX7_boat_76, ↓tbX7_boat_79, ↓tbX7_boat_80, ↓tbX7_boat_82, ↓tbX7_boat_85, ↓tbX7_boat_86, ↓tbX7_boat_89, ↓tbX7_boat_91, ↓tbX7_boat_94, hfu, xstep0, xJ1_hit, xJ1_go, xJ2_hit1, xJ2_hit2, xJ2_go, ↓xif_t, ↓xif_f, seval, ↓xca_eq, ↓xre_l, ↓xre_r, xmask_t, xmask_f, xmask_nil, ↓xst_eq, xX_eq, eI_eq, eMc_eq, eMs_eq, eF_eq, eThr_eq, ↓xS1_mk, ↓xSI_mk, ↓xSR_mk, ↓xLI_0, ↓xLI_s, ↓xLR_0, ↓xLR_s, vRef_ref, vRef_null, vRef_rf, cat_int, cat_ref, cat_null, cat_rf, rf_some, rf_none, rf_null, rf_eq, rf_ref, ref_rf, ref_null, ref_ref, xOk_0, xOk_1, xOk_2r, xOk_2n, xOk_2f, vOpt_rf, vOpt_ref, vOpt_null, List.set_cons_zero, List.set_cons_succ, List.take_succ_cons, List.take_zero, List.drop_succ_cons, List.drop_zero, List.reverse_cons, List.reverse_nil, List.nil_append, List.cons_append, List.append_nil, List.length_cons, List.length_nil, List.map_cons, List.map_nil, List.sum_cons, List.sum_nil, Option.toList_some, Option.toList_none, xRecv_mk, true_and, and_true, true_implies, Nat.reduceAdd, Nat.reduceLeDiff, Nat.zero_le, Nat.le_refl, Nat.add_zero, Nat.zero_add, reduceIte, not_true_eq_false, not_false_eq_true, false_implies, and_self, implies_true, eq_self, Nat.reduceEqDiff, List.cons.injEq, xsn_1, xsn_2, false_and, and_false, or_false, false_or, or_true, true_or, xsn_3, xsn_4, cK_setI, cFi_setI, cFr_setI, cLen_setI, cRi_setI, ↓spwX7_needPoint, spcX7_needPoint, ↓spwX7_needWithin, spcX7_needWithin, ↓spwJx4a65c_size_8abf5, spcJx4a65c_size_8abf5, ↓spwX7_needState, spcX7_needState, ↓spwX1_init, spcX1_init, ↓spwX1_standAt, spcX1_standAt, ↓spwJx4a65c_add_9ea2d, spcJx4a65c_add_9ea2d, ↓spwX6_tell, spcX6_tell, h0, h1, h1b, w1, w2, hL]
        try simp only [xif_e]
        repeat' (first | exact h | with_reducible apply And.intro | with_reducible intro _)
        all_goals grind
    · have h := hz1.1 w2
      refine xgo hG (mb := []) (head := 17) (P := fun _ _ _ _ _ => False) (fun _ _ _ _ _ q => q.elim) (pc := 0) (fun fu hfu => ?_)
      simp only [↓callX7_boat_0, ↓callX7_boat_1, ↓callX7_boat_2, ↓callX7_boat_3, ↓callX7_boat_4, ↓callX7_boat_5, ↓callX7_boat_6, ↓callX7_boat_7, ↓cg_2_0, ↓cg_8_4, ↓cg_8_6, ↓cg_8_7, cisa, ↓cnew, kb_6, kb_9, kc_6, kc_9, ki_0, ki_1, ki_2, ki_4, ↓vm_aload, ↓vm_aload_n, ↓vm_astore, ↓vm_bipush, ↓vm_dup, ↓vm_getfield, ↓vm_goto, ↓vm_iconst, ↓vm_if_icmp_ge, ↓vm_iload_n, ↓vm_invokespecial, ↓vm_invokestatic, ↓vm_invokevirtual, ↓vm_ireturn, ↓vm_newO, ↓vm_pop, ↓xc_1, ↓xc_2, ↓xc_3, ↓xc_4, ↓tbX7_boat_0, ↓tbX7_boat_1, ↓tbX7_boat_4, ↓tbX7_boat_5, ↓tbX7_boat_6, ↓tbX7_boat_8, ↓tbX7_boat_11, ↓tbX7_boat_12, ↓tbX7_boat_13, ↓tbX7_boat_14, ↓tbX7_boat_17, ↓tbX7_boat_18, ↓tbX7_boat_21, ↓tbX7_boat_24, ↓tbX7_boat_26, ↓tbX7_boat_29, ↓tbX7_boat_30, ↓tbX7_boat_33, ↓tbX7_boat_34, ↓tbX7_boat_37, ↓tbX7_boat_40, ↓tbX7_boat_41, ↓tbX7_boat_42, ↓tbX7_boat_45, ↓tbX7_boat_48, ↓tbX7_boat_49, ↓tbX7_boat_50, ↓tbX7_boat_53, ↓tbX7_boat_55, ↓tbX7_boat_57, ↓tbX7_boat_58, ↓tbX7_boat_59, ↓tbX7_boat_62, ↓tbX7_boat_65, ↓tbX7_boat_66, ↓tbX7_boat_69, ↓tbX7_boat_71, ↓tbX7_boat_74, ↓tbX7_boat_75, ↓tbX7_boat_76, ↓tbX7_boat_79, ↓tbX7_boat_80, ↓tbX7_boat_82, ↓tbX7_boat_85, ↓tbX7_boat_86, ↓tbX7_boat_89, ↓tbX7_boat_91, ↓tbX7_boat_94, hfu, xstep0, xJ1_hit, xJ1_go, xJ2_hit1, xJ2_hit2, xJ2_go, ↓xif_t, ↓xif_f, seval, ↓xca_eq, ↓xre_l, ↓xre_r, xmask_t, xmask_f, xmask_nil, ↓xst_eq, xX_eq, eI_eq, eMc_eq, eMs_eq, eF_eq, eThr_eq, ↓xS1_mk, ↓xSI_mk, ↓xSR_mk, ↓xLI_0, ↓xLI_s, ↓xLR_0, ↓xLR_s, vRef_ref, vRef_null, vRef_rf, cat_int, cat_ref, cat_null, cat_rf, rf_some, rf_none, rf_null, rf_eq, rf_ref, ref_rf, ref_null, ref_ref, xOk_0, xOk_1, xOk_2r, xOk_2n, xOk_2f, vOpt_rf, vOpt_ref, vOpt_null, List.set_cons_zero, List.set_cons_succ, List.take_succ_cons, List.take_zero, List.drop_succ_cons, List.drop_zero, List.reverse_cons, List.reverse_nil, List.nil_append, List.cons_append, List.append_nil, List.length_cons, List.length_nil, List.map_cons, List.map_nil, List.sum_cons, List.sum_nil, Option.toList_some, Option.toList_none, xRecv_mk, true_and, and_true, true_implies, Nat.reduceAdd, Nat.reduceLeDiff, Nat.zero_le, Nat.le_refl, Nat.add_zero, Nat.zero_add, reduceIte, not_true_eq_false, not_false_eq_true, false_implies, and_self, implies_true, eq_self, Nat.reduceEqDiff, List.cons.injEq, xsn_1, xsn_2, false_and, and_false, or_false, false_or, or_true, true_or, xsn_3, xsn_4, cK_setI, cFi_setI, cFr_setI, cLen_setI, cRi_setI, ↓spwX7_needPoint, spcX7_needPoint, ↓spwX7_needWithin, spcX7_needWithin, ↓spwJx4a65c_size_8abf5, spcJx4a65c_size_8abf5, ↓spwX7_needState, spcX7_needState, ↓spwX1_init, spcX1_init, ↓spwX1_standAt, spcX1_standAt, ↓spwJx4a65c_add_9ea2d, spcJx4a65c_add_9ea2d, ↓spwX6_tell, spcX6_tell, w1]
      try simp only [xif_e]
      repeat' (first | exact h | with_reducible apply And.intro | with_reducible intro _)
      all_goals grind
  · have h := hbad w1
    refine xgo hG (mb := []) (head := 4) (P := fun _ _ _ _ _ => False) (fun _ _ _ _ _ q => q.elim) (pc := 0) (fun fu hfu => ?_)
    simp only [↓callX7_boat_0, ↓callX7_boat_1, ↓callX7_boat_2, ↓callX7_boat_3, ↓callX7_boat_4, ↓callX7_boat_5, ↓callX7_boat_6, ↓callX7_boat_7, ↓cg_2_0, ↓cg_8_4, ↓cg_8_6, ↓cg_8_7, cisa, ↓cnew, kb_6, kb_9, kc_6, kc_9, ki_0, ki_1, ki_2, ki_4, ↓vm_aload, ↓vm_aload_n, ↓vm_astore, ↓vm_bipush, ↓vm_dup, ↓vm_getfield, ↓vm_goto, ↓vm_iconst, ↓vm_if_icmp_ge, ↓vm_iload_n, ↓vm_invokespecial, ↓vm_invokestatic, ↓vm_invokevirtual, ↓vm_ireturn, ↓vm_newO, ↓vm_pop, ↓xc_1, ↓xc_2, ↓xc_3, ↓xc_4, ↓tbX7_boat_0, ↓tbX7_boat_1, ↓tbX7_boat_4, ↓tbX7_boat_5, ↓tbX7_boat_6, ↓tbX7_boat_8, ↓tbX7_boat_11, ↓tbX7_boat_12, ↓tbX7_boat_13, ↓tbX7_boat_14, ↓tbX7_boat_17, ↓tbX7_boat_18, ↓tbX7_boat_21, ↓tbX7_boat_24, ↓tbX7_boat_26, ↓tbX7_boat_29, ↓tbX7_boat_30, ↓tbX7_boat_33, ↓tbX7_boat_34, ↓tbX7_boat_37, ↓tbX7_boat_40, ↓tbX7_boat_41, ↓tbX7_boat_42, ↓tbX7_boat_45, ↓tbX7_boat_48, ↓tbX7_boat_49, ↓tbX7_boat_50, ↓tbX7_boat_53, ↓tbX7_boat_55, ↓tbX7_boat_57, ↓tbX7_boat_58, ↓tbX7_boat_59, ↓tbX7_boat_62, ↓tbX7_boat_65, ↓tbX7_boat_66, ↓tbX7_boat_69, ↓tbX7_boat_71, ↓tbX7_boat_74, ↓tbX7_boat_75, ↓tbX7_boat_76, ↓tbX7_boat_79, ↓tbX7_boat_80, ↓tbX7_boat_82, ↓tbX7_boat_85, ↓tbX7_boat_86, ↓tbX7_boat_89, ↓tbX7_boat_91, ↓tbX7_boat_94, hfu, xstep0, xJ1_hit, xJ1_go, xJ2_hit1, xJ2_hit2, xJ2_go, ↓xif_t, ↓xif_f, seval, ↓xca_eq, ↓xre_l, ↓xre_r, xmask_t, xmask_f, xmask_nil, ↓xst_eq, xX_eq, eI_eq, eMc_eq, eMs_eq, eF_eq, eThr_eq, ↓xS1_mk, ↓xSI_mk, ↓xSR_mk, ↓xLI_0, ↓xLI_s, ↓xLR_0, ↓xLR_s, vRef_ref, vRef_null, vRef_rf, cat_int, cat_ref, cat_null, cat_rf, rf_some, rf_none, rf_null, rf_eq, rf_ref, ref_rf, ref_null, ref_ref, xOk_0, xOk_1, xOk_2r, xOk_2n, xOk_2f, vOpt_rf, vOpt_ref, vOpt_null, List.set_cons_zero, List.set_cons_succ, List.take_succ_cons, List.take_zero, List.drop_succ_cons, List.drop_zero, List.reverse_cons, List.reverse_nil, List.nil_append, List.cons_append, List.append_nil, List.length_cons, List.length_nil, List.map_cons, List.map_nil, List.sum_cons, List.sum_nil, Option.toList_some, Option.toList_none, xRecv_mk, true_and, and_true, true_implies, Nat.reduceAdd, Nat.reduceLeDiff, Nat.zero_le, Nat.le_refl, Nat.add_zero, Nat.zero_add, reduceIte, not_true_eq_false, not_false_eq_true, false_implies, and_self, implies_true, eq_self, Nat.reduceEqDiff, List.cons.injEq, xsn_1, xsn_2, false_and, and_false, or_false, false_or, or_true, true_or, xsn_3, xsn_4, cK_setI, cFi_setI, cFr_setI, cLen_setI, cRi_setI, ↓spwX7_needPoint, spcX7_needPoint, ↓spwX7_needWithin, spcX7_needWithin, ↓spwJx4a65c_size_8abf5, spcJx4a65c_size_8abf5, ↓spwX7_needState, spcX7_needState, ↓spwX1_init, spcX1_init, ↓spwX1_standAt, spcX1_standAt, ↓spwJx4a65c_add_9ea2d, spcJx4a65c_add_9ea2d, ↓spwX6_tell, spcX6_tell, w1]
    try simp only [xif_e]
    first | exact h | grind
