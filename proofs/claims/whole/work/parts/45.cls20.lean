/-! The class: contracts made, barges and boats brought. -/
def cCon (S : cS) (q : Nat) (n k f t u l r : Int32) : cS := cSetI (cSetI (cSetI (cSetI (cSetI (cSetI (cSetI (cNewO S q 3) q 300 n) q 301 k) q 302 f) q 303 t) q 304 u) q 305 l) q 306 r
def cBar (S : cS) (q : Nat) (n y : Int32) (r : Nat) : cS := cSetR (cSetI (cSetI (cSetI (cNewO S q 1) q 105 (-1)) q 100 n) q 101 y) q 102 (some r)
theorem cCon_fr {S : cS} {q : Nat} {n k f t u l r : Int32} (hq : cDead S q) : fr1 S (cCon S q n k f t u l r) := (((((((fr1_newO hq).sI hq).sI hq).sI hq).sI hq).sI hq).sI hq).sI hq
theorem cBar_fr {S : cS} {q : Nat} {n y : Int32} {r : Nat} (hq : cDead S q) : fr1 S (cBar S q n y r) := ((((fr1_newO hq).sI hq).sI hq).sI hq).sR hq
theorem cCon_same {S : cS} {q L : Nat} {n k f t u l r : Int32} (h : cK S L = 1) (hq : cDead S q) : lSame S (cCon S q n k f t u l r) L := by
  unfold cCon
  refine (same_newO (ci := 3) h hq).trans ?_
  refine ((((((same_sI (Or.inl (by omega))).trans (same_sI (Or.inl (by omega)))).trans (same_sI (Or.inl (by omega)))).trans (same_sI (Or.inl (by omega)))).trans (same_sI (Or.inl (by omega)))).trans (same_sI (Or.inl (by omega)))).trans (same_sI (Or.inl (by omega)))
theorem cBar_same {S : cS} {q L : Nat} {n y : Int32} {r : Nat} (h : cK S L = 1) (hq : cDead S q) : lSame S (cBar S q n y r) L :=
  (same_newO (ci := 1) h hq).trans ((((same_sI (Or.inl (by omega))).trans (same_sI (Or.inl (by omega)))).trans (same_sI (Or.inl (by omega)))).trans (same_sR (Or.inl (by omega))))
theorem cBar_K {S : cS} {q : Nat} {n y : Int32} {r : Nat} : cK (cBar S q n y r) q = 2 := by unfold cBar; rw [cK_setR, cK_setI, cK_setI, cK_setI, cK_newO, if_pos rfl]
theorem cCon_K {S : cS} {q : Nat} {n k f t u l r : Int32} : cK (cCon S q n k f t u l r) q = 4 := by unfold cCon; simp only [cK_setI]; rw [cK_newO, if_pos rfl]

def tbX7_contract : List (Nat × xHint) := [(0, .iload_n 2, 2, 0, 0, []), (1, .invokestatic 128, 0, 1, 0, []), (4, .iload_n 3, 3, 0, 0, []), (5, .invokestatic 128, 0, 1, 0, []), (8, .iload_n 1, 1, 0, 0, []), (9, .iconst 0, 0, 0, 0, []), (10, .iconst 2, 0, 0, 0, []), (11, .invokestatic 57, 1, 3, 0, []), (14, .iload_n 2, 2, 0, 0, []), (15, .iload_n 3, 3, 0, 0, []), (16, .if_icmp .eq 7, 23, 0, 0, []), (19, .iconst 1, 0, 0, 0, []), (20, .goto 4, 24, 0, 0, []), (23, .iconst 0, 0, 0, 0, []), (24, .invokestatic 131, 2, 1, 0, []), (27, .iload 4, 4, 0, 0, []), (29, .iconst 1, 0, 0, 0, []), (30, .bipush 99, 0, 0, 0, []), (32, .invokestatic 57, 1, 3, 0, []), (35, .iload 5, 5, 0, 0, []), (37, .iconst 0, 0, 0, 0, []), (38, .sipush 5000, 0, 0, 0, []), (41, .invokestatic 57, 1, 3, 0, []), (44, .iload 6, 6, 0, 0, []), (46, .iconst 0, 0, 0, 0, []), (47, .sipush 300, 0, 0, 0, []), (50, .invokestatic 57, 1, 3, 0, []), (53, .aload_n 0, 0, 0, 0, []), (54, .getfield 22, 8, 3, 2, []), (57, .invokevirtual 108, 3, 1, 0, []), (60, .bipush 12, 0, 0, 0, []), (62, .if_icmp .ge 7, 69, 0, 0, []), (65, .iconst 1, 0, 0, 0, []), (66, .goto 4, 70, 0, 0, []), (69, .iconst 0, 0, 0, 0, []), (70, .invokestatic 77, 4, 1, 0, []), (73, .new 134, 0, 3, 11, []), (76, .dup, 0, 0, 0, []), (77, .aload_n 0, 0, 0, 0, []), (78, .getfield 22, 8, 3, 2, []), (81, .invokevirtual 108, 3, 1, 0, []), (84, .iload_n 1, 1, 0, 0, []), (85, .iload_n 2, 2, 0, 0, []), (86, .iload_n 3, 3, 0, 0, []), (87, .iload 4, 4, 0, 0, []), (89, .iload 5, 5, 0, 0, []), (91, .iload 6, 6, 0, 0, []), (93, .invokespecial 136, 5, 8, 0, []), (96, .astore 7, 7, 0, 0, []), (98, .aload_n 0, 0, 0, 0, []), (99, .getfield 22, 8, 3, 2, []), (102, .aload 7, 7, 0, 0, []), (104, .invokevirtual 44, 6, 2, 0, []), (107, .pop, 0, 0, 0, []), (108, .aload 7, 7, 0, 0, []), (110, .getfield 139, 3, 0, 0, []), (113, .ireturn, 0, 0, 0, [])]
def clX7_contract : List (Instr × Nat × Nat × Nat) := [(.invokestatic 128, 0, 1, 0), (.invokestatic 57, 1, 3, 0), (.invokestatic 131, 2, 1, 0), (.invokevirtual 108, 3, 1, 0), (.invokestatic 77, 4, 1, 0), (.invokespecial 136, 5, 8, 0), (.invokevirtual 44, 6, 2, 0)]
def thX7_contract : List (Nat × Nat) := []
theorem ckX7_contract : tbX7_contract.all (xRow RX7 cX7_contract wsX7_contract vwCl [3, 8] clX7_contract thX7_contract 8 (yX7_contract.name == "<init>") (some .int)) = true := xRow_q 0xac8b00b40719572c00b607191600b42a073a8800b70615051504151d1c1b6c00b61600b42a598600bb4d00b8030400a7040700a20c106c00b61600b42a3900b82c01110306153900b88813110305153900b863100404158300b8030400a70407009f1d1c3900b805031b8000b81d8000b81c 114 (by decide +kernel) (by decide +kernel)
theorem usX7_contract : xUse wsX7_contract vwCl [3, 8] = true := xUse_g rfl (lw_good lwl_X7_contract lwl_X20 (by decide +kernel)) (xUse_g rfl (lw_good lwl_X7_contract lwl_X70 (by decide +kernel)) xUse_n)
theorem tbX7_contract_0 {k : Instr → Nat → Nat → Nat → List Nat → Prop} : xse (xFind tbX7_contract 0) k = k (.iload_n 2) 2 0 0 [] := rfl
theorem tbX7_contract_1 {k : Instr → Nat → Nat → Nat → List Nat → Prop} : xse (xFind tbX7_contract 1) k = k (.invokestatic 128) 0 1 0 [] := rfl
theorem tbX7_contract_4 {k : Instr → Nat → Nat → Nat → List Nat → Prop} : xse (xFind tbX7_contract 4) k = k (.iload_n 3) 3 0 0 [] := rfl
theorem tbX7_contract_5 {k : Instr → Nat → Nat → Nat → List Nat → Prop} : xse (xFind tbX7_contract 5) k = k (.invokestatic 128) 0 1 0 [] := rfl
theorem tbX7_contract_8 {k : Instr → Nat → Nat → Nat → List Nat → Prop} : xse (xFind tbX7_contract 8) k = k (.iload_n 1) 1 0 0 [] := rfl
theorem tbX7_contract_9 {k : Instr → Nat → Nat → Nat → List Nat → Prop} : xse (xFind tbX7_contract 9) k = k (.iconst 0) 0 0 0 [] := rfl
theorem tbX7_contract_10 {k : Instr → Nat → Nat → Nat → List Nat → Prop} : xse (xFind tbX7_contract 10) k = k (.iconst 2) 0 0 0 [] := rfl
theorem tbX7_contract_11 {k : Instr → Nat → Nat → Nat → List Nat → Prop} : xse (xFind tbX7_contract 11) k = k (.invokestatic 57) 1 3 0 [] := rfl
theorem tbX7_contract_14 {k : Instr → Nat → Nat → Nat → List Nat → Prop} : xse (xFind tbX7_contract 14) k = k (.iload_n 2) 2 0 0 [] := rfl
theorem tbX7_contract_15 {k : Instr → Nat → Nat → Nat → List Nat → Prop} : xse (xFind tbX7_contract 15) k = k (.iload_n 3) 3 0 0 [] := rfl
theorem tbX7_contract_16 {k : Instr → Nat → Nat → Nat → List Nat → Prop} : xse (xFind tbX7_contract 16) k = k (.if_icmp .eq 7) 23 0 0 [] := rfl
theorem tbX7_contract_19 {k : Instr → Nat → Nat → Nat → List Nat → Prop} : xse (xFind tbX7_contract 19) k = k (.iconst 1) 0 0 0 [] := rfl
theorem tbX7_contract_20 {k : Instr → Nat → Nat → Nat → List Nat → Prop} : xse (xFind tbX7_contract 20) k = k (.goto 4) 24 0 0 [] := rfl
theorem tbX7_contract_23 {k : Instr → Nat → Nat → Nat → List Nat → Prop} : xse (xFind tbX7_contract 23) k = k (.iconst 0) 0 0 0 [] := rfl
theorem tbX7_contract_24 {k : Instr → Nat → Nat → Nat → List Nat → Prop} : xse (xFind tbX7_contract 24) k = k (.invokestatic 131) 2 1 0 [] := rfl
theorem tbX7_contract_27 {k : Instr → Nat → Nat → Nat → List Nat → Prop} : xse (xFind tbX7_contract 27) k = k (.iload 4) 4 0 0 [] := rfl
theorem tbX7_contract_29 {k : Instr → Nat → Nat → Nat → List Nat → Prop} : xse (xFind tbX7_contract 29) k = k (.iconst 1) 0 0 0 [] := rfl
theorem tbX7_contract_30 {k : Instr → Nat → Nat → Nat → List Nat → Prop} : xse (xFind tbX7_contract 30) k = k (.bipush 99) 0 0 0 [] := rfl
theorem tbX7_contract_32 {k : Instr → Nat → Nat → Nat → List Nat → Prop} : xse (xFind tbX7_contract 32) k = k (.invokestatic 57) 1 3 0 [] := rfl
theorem tbX7_contract_35 {k : Instr → Nat → Nat → Nat → List Nat → Prop} : xse (xFind tbX7_contract 35) k = k (.iload 5) 5 0 0 [] := rfl
theorem tbX7_contract_37 {k : Instr → Nat → Nat → Nat → List Nat → Prop} : xse (xFind tbX7_contract 37) k = k (.iconst 0) 0 0 0 [] := rfl
theorem tbX7_contract_38 {k : Instr → Nat → Nat → Nat → List Nat → Prop} : xse (xFind tbX7_contract 38) k = k (.sipush 5000) 0 0 0 [] := rfl
theorem tbX7_contract_41 {k : Instr → Nat → Nat → Nat → List Nat → Prop} : xse (xFind tbX7_contract 41) k = k (.invokestatic 57) 1 3 0 [] := rfl
theorem tbX7_contract_44 {k : Instr → Nat → Nat → Nat → List Nat → Prop} : xse (xFind tbX7_contract 44) k = k (.iload 6) 6 0 0 [] := rfl
theorem tbX7_contract_46 {k : Instr → Nat → Nat → Nat → List Nat → Prop} : xse (xFind tbX7_contract 46) k = k (.iconst 0) 0 0 0 [] := rfl
theorem tbX7_contract_47 {k : Instr → Nat → Nat → Nat → List Nat → Prop} : xse (xFind tbX7_contract 47) k = k (.sipush 300) 0 0 0 [] := rfl
theorem tbX7_contract_50 {k : Instr → Nat → Nat → Nat → List Nat → Prop} : xse (xFind tbX7_contract 50) k = k (.invokestatic 57) 1 3 0 [] := rfl
theorem tbX7_contract_53 {k : Instr → Nat → Nat → Nat → List Nat → Prop} : xse (xFind tbX7_contract 53) k = k (.aload_n 0) 0 0 0 [] := rfl
theorem tbX7_contract_54 {k : Instr → Nat → Nat → Nat → List Nat → Prop} : xse (xFind tbX7_contract 54) k = k (.getfield 22) 8 3 2 [] := rfl
theorem tbX7_contract_57 {k : Instr → Nat → Nat → Nat → List Nat → Prop} : xse (xFind tbX7_contract 57) k = k (.invokevirtual 108) 3 1 0 [] := rfl
theorem tbX7_contract_60 {k : Instr → Nat → Nat → Nat → List Nat → Prop} : xse (xFind tbX7_contract 60) k = k (.bipush 12) 0 0 0 [] := rfl
theorem tbX7_contract_62 {k : Instr → Nat → Nat → Nat → List Nat → Prop} : xse (xFind tbX7_contract 62) k = k (.if_icmp .ge 7) 69 0 0 [] := rfl
theorem tbX7_contract_65 {k : Instr → Nat → Nat → Nat → List Nat → Prop} : xse (xFind tbX7_contract 65) k = k (.iconst 1) 0 0 0 [] := rfl
theorem tbX7_contract_66 {k : Instr → Nat → Nat → Nat → List Nat → Prop} : xse (xFind tbX7_contract 66) k = k (.goto 4) 70 0 0 [] := rfl
theorem tbX7_contract_69 {k : Instr → Nat → Nat → Nat → List Nat → Prop} : xse (xFind tbX7_contract 69) k = k (.iconst 0) 0 0 0 [] := rfl
theorem tbX7_contract_70 {k : Instr → Nat → Nat → Nat → List Nat → Prop} : xse (xFind tbX7_contract 70) k = k (.invokestatic 77) 4 1 0 [] := rfl
theorem tbX7_contract_73 {k : Instr → Nat → Nat → Nat → List Nat → Prop} : xse (xFind tbX7_contract 73) k = k (.new 134) 0 3 11 [] := rfl
theorem tbX7_contract_76 {k : Instr → Nat → Nat → Nat → List Nat → Prop} : xse (xFind tbX7_contract 76) k = k (.dup) 0 0 0 [] := rfl
theorem tbX7_contract_77 {k : Instr → Nat → Nat → Nat → List Nat → Prop} : xse (xFind tbX7_contract 77) k = k (.aload_n 0) 0 0 0 [] := rfl
theorem tbX7_contract_78 {k : Instr → Nat → Nat → Nat → List Nat → Prop} : xse (xFind tbX7_contract 78) k = k (.getfield 22) 8 3 2 [] := rfl
theorem tbX7_contract_81 {k : Instr → Nat → Nat → Nat → List Nat → Prop} : xse (xFind tbX7_contract 81) k = k (.invokevirtual 108) 3 1 0 [] := rfl
theorem tbX7_contract_84 {k : Instr → Nat → Nat → Nat → List Nat → Prop} : xse (xFind tbX7_contract 84) k = k (.iload_n 1) 1 0 0 [] := rfl
theorem tbX7_contract_85 {k : Instr → Nat → Nat → Nat → List Nat → Prop} : xse (xFind tbX7_contract 85) k = k (.iload_n 2) 2 0 0 [] := rfl
theorem tbX7_contract_86 {k : Instr → Nat → Nat → Nat → List Nat → Prop} : xse (xFind tbX7_contract 86) k = k (.iload_n 3) 3 0 0 [] := rfl
theorem tbX7_contract_87 {k : Instr → Nat → Nat → Nat → List Nat → Prop} : xse (xFind tbX7_contract 87) k = k (.iload 4) 4 0 0 [] := rfl
theorem tbX7_contract_89 {k : Instr → Nat → Nat → Nat → List Nat → Prop} : xse (xFind tbX7_contract 89) k = k (.iload 5) 5 0 0 [] := rfl
theorem tbX7_contract_91 {k : Instr → Nat → Nat → Nat → List Nat → Prop} : xse (xFind tbX7_contract 91) k = k (.iload 6) 6 0 0 [] := rfl
theorem tbX7_contract_93 {k : Instr → Nat → Nat → Nat → List Nat → Prop} : xse (xFind tbX7_contract 93) k = k (.invokespecial 136) 5 8 0 [] := rfl
theorem tbX7_contract_96 {k : Instr → Nat → Nat → Nat → List Nat → Prop} : xse (xFind tbX7_contract 96) k = k (.astore 7) 7 0 0 [] := rfl
theorem tbX7_contract_98 {k : Instr → Nat → Nat → Nat → List Nat → Prop} : xse (xFind tbX7_contract 98) k = k (.aload_n 0) 0 0 0 [] := rfl
theorem tbX7_contract_99 {k : Instr → Nat → Nat → Nat → List Nat → Prop} : xse (xFind tbX7_contract 99) k = k (.getfield 22) 8 3 2 [] := rfl
theorem tbX7_contract_102 {k : Instr → Nat → Nat → Nat → List Nat → Prop} : xse (xFind tbX7_contract 102) k = k (.aload 7) 7 0 0 [] := rfl
theorem tbX7_contract_104 {k : Instr → Nat → Nat → Nat → List Nat → Prop} : xse (xFind tbX7_contract 104) k = k (.invokevirtual 44) 6 2 0 [] := rfl
theorem tbX7_contract_107 {k : Instr → Nat → Nat → Nat → List Nat → Prop} : xse (xFind tbX7_contract 107) k = k (.pop) 0 0 0 [] := rfl
theorem tbX7_contract_108 {k : Instr → Nat → Nat → Nat → List Nat → Prop} : xse (xFind tbX7_contract 108) k = k (.aload 7) 7 0 0 [] := rfl
theorem tbX7_contract_110 {k : Instr → Nat → Nat → Nat → List Nat → Prop} : xse (xFind tbX7_contract 110) k = k (.getfield 139) 3 0 0 [] := rfl
theorem tbX7_contract_113 {k : Instr → Nat → Nat → Nat → List Nat → Prop} : xse (xFind tbX7_contract 113) k = k (.ireturn) 0 0 0 [] := rfl

def spX7_contract (W9 : xWd) : xSp cS := (fun av S => (10, 104), fun av S K => ∃ (a : Nat) (k : Int32) (f : Int32) (t : Int32) (u : Int32) (l : Int32) (r : Int32), av = [.ref a, .int k, .int f, .int t, .int u, .int l, .int r] ∧ (cK S a = 9 ∧ (cIn S a 803 1 ∧ lAll S (cRf S a 803) 4) ∧ lCap W9 S (cRf S a 803) ∧ (¬ ((0 ≤ f ∧ f < 8) ∧ 0 ≤ t ∧ t < 8) → K (rX "java/lang/IndexOutOfBoundsException") S) ∧ (((0 ≤ f ∧ f < 8) ∧ 0 ≤ t ∧ t < 8) → (¬ ((0 ≤ k ∧ k ≤ 2) ∧ ¬ f = t ∧ (1 ≤ u ∧ u ≤ 99) ∧ (0 ≤ l ∧ l ≤ 5000) ∧ 0 ≤ r ∧ r ≤ 300) → K (rX "java/lang/IllegalArgumentException") S) ∧ (((0 ≤ k ∧ k ≤ 2) ∧ ¬ f = t ∧ (1 ≤ u ∧ u ≤ 99) ∧ (0 ≤ l ∧ l ≤ 5000) ∧ 0 ≤ r ∧ r ≤ 300) → (¬ (cFi S (cRf S a 803) 2 < 12) → K (rX "java/lang/IllegalStateException") S) ∧ ((cFi S (cRf S a 803) 2 < 12) → ∀ q, cDead S q → ∀ x S2, lAdd W9 (cSetI (cCon S q (cFi S (cRf S a 803) 2) k f t u l r) (cRf S a 803) 0 x) (cRf S a 803) q S2 → K (rI (cFi S (cRf S a 803) 2)) S2)))))
theorem spcX7_contract {av : List Value} {S : cS} {W9 : xWd} : (spX7_contract W9).1 av S = (10, 104) := rfl
theorem spwX7_contract {S : cS} {W9 : xWd} {K : xRes → cS → Prop} {a : Nat} {k : Int32} {f : Int32} {t : Int32} {u : Int32} {l : Int32} {r : Int32} : (spX7_contract W9).2 [.ref a, .int k, .int f, .int t, .int u, .int l, .int r] S K = (cK S a = 9 ∧ (cIn S a 803 1 ∧ lAll S (cRf S a 803) 4) ∧ lCap W9 S (cRf S a 803) ∧ (¬ ((0 ≤ f ∧ f < 8) ∧ 0 ≤ t ∧ t < 8) → K (rX "java/lang/IndexOutOfBoundsException") S) ∧ (((0 ≤ f ∧ f < 8) ∧ 0 ≤ t ∧ t < 8) → (¬ ((0 ≤ k ∧ k ≤ 2) ∧ ¬ f = t ∧ (1 ≤ u ∧ u ≤ 99) ∧ (0 ≤ l ∧ l ≤ 5000) ∧ 0 ≤ r ∧ r ≤ 300) → K (rX "java/lang/IllegalArgumentException") S) ∧ (((0 ≤ k ∧ k ≤ 2) ∧ ¬ f = t ∧ (1 ≤ u ∧ u ≤ 99) ∧ (0 ≤ l ∧ l ≤ 5000) ∧ 0 ≤ r ∧ r ≤ 300) → (¬ (cFi S (cRf S a 803) 2 < 12) → K (rX "java/lang/IllegalStateException") S) ∧ ((cFi S (cRf S a 803) 2 < 12) → ∀ q, cDead S q → ∀ x S2, lAdd W9 (cSetI (cCon S q (cFi S (cRf S a 803) 2) k f t u l r) (cRf S a 803) 0 x) (cRf S a 803) q S2 → K (rI (cFi S (cRf S a 803) 2)) S2)))) :=
  propext ⟨fun h => by
    simp only [spX7_contract] at h
    obtain ⟨_, _, _, _, _, _, _, e, h⟩ := h
    simp only [List.cons.injEq, Value.int.injEq, Value.ref.injEq, rf_eq, and_true, true_and] at e
    obtain ⟨rfl, rfl, rfl, rfl, rfl, rfl, rfl⟩ := e
    exact h, fun h => ⟨_, _, _, _, _, _, _, rfl, h⟩⟩

def callX7_contract (W9 : xWd) : Nat → Option (xSp cS) := fun n => match n with | 0 => some (spX7_needPoint W9) | 1 => some (spX7_needWithin W9) | 2 => some (spX7_needArgument W9) | 3 => some (spJx4a65c_size_8abf5 W9) | 4 => some (spX7_needState W9) | 5 => some (spX2_init W9) | 6 => some (spJx4a65c_add_9ea2d W9) | _ => none

theorem callX7_contract_0 {W9 : xWd} {k : xSp cS → Prop} : xcs (callX7_contract W9 0) k = k (spX7_needPoint W9) := rfl

theorem callX7_contract_1 {W9 : xWd} {k : xSp cS → Prop} : xcs (callX7_contract W9 1) k = k (spX7_needWithin W9) := rfl

theorem callX7_contract_2 {W9 : xWd} {k : xSp cS → Prop} : xcs (callX7_contract W9 2) k = k (spX7_needArgument W9) := rfl

theorem callX7_contract_3 {W9 : xWd} {k : xSp cS → Prop} : xcs (callX7_contract W9 3) k = k (spJx4a65c_size_8abf5 W9) := rfl

theorem callX7_contract_4 {W9 : xWd} {k : xSp cS → Prop} : xcs (callX7_contract W9 4) k = k (spX7_needState W9) := rfl

theorem callX7_contract_5 {W9 : xWd} {k : xSp cS → Prop} : xcs (callX7_contract W9 5) k = k (spX2_init W9) := rfl

theorem callX7_contract_6 {W9 : xWd} {k : xSp cS → Prop} : xcs (callX7_contract W9 6) k = k (spJx4a65c_add_9ea2d W9) := rfl

theorem crX7_contract (l : Launch) (hl : l.stackTraces = false) (W9 : xWd) : xCallsOK l W9 (cI) (callX7_contract W9) clX7_contract RX7 wsX7_contract 8 191 8 := by
  intro E A p e R s m args below meth c hI hF hL X
  exact List.forall_mem_cons.mpr ⟨⟨_, rfl, xCR_S X (by rw [hI]; exact (semX7_needPoint l hl W9)) gX7_contract_X7_needPoint rfl (by decide +kernel) (by rw [hF, hL]; decide)⟩,
    List.forall_mem_cons.mpr ⟨⟨_, rfl, xCR_S X (by rw [hI]; exact (semX7_needWithin l hl W9)) gX7_contract_X7_needWithin rfl (by decide +kernel) (by rw [hF, hL]; decide)⟩,
    List.forall_mem_cons.mpr ⟨⟨_, rfl, xCR_S X (by rw [hI]; exact (semX7_needArgument l hl W9)) gX7_contract_X7_needArgument rfl (by decide +kernel) (by rw [hF, hL]; decide)⟩,
    List.forall_mem_cons.mpr ⟨⟨_, rfl, xCR_V X (by rw [hI]; exact (semJx4a65c_size_8abf5 l hl W9)) gX7_contract_Jx4a65c_size_8abf5 rfl rfl (by decide +kernel) (by rw [hF, hL]; decide)⟩,
    List.forall_mem_cons.mpr ⟨⟨_, rfl, xCR_S X (by rw [hI]; exact (semX7_needState l hl W9)) gX7_contract_X7_needState rfl (by decide +kernel) (by rw [hF, hL]; decide)⟩,
    List.forall_mem_cons.mpr ⟨⟨_, rfl, xCR_I X (by rw [hI]; exact (semX2_init l hl W9)) gX7_contract_X2_init rfl (by decide +kernel) (by decide +kernel) (by decide +kernel) rfl sprX2_init (by decide +kernel) (by rw [hF, hL]; decide)⟩,
    List.forall_mem_cons.mpr ⟨⟨_, rfl, xCR_V X (by rw [hI]; exact (semJx4a65c_add_9ea2d l hl W9)) gX7_contract_Jx4a65c_add_9ea2d rfl rfl (by decide +kernel) (by rw [hF, hL]; decide)⟩,
    fun _ h => nomatch h⟩⟩⟩⟩⟩⟩⟩

set_option maxHeartbeats 1500000 in
set_option maxRecDepth 20000 in
theorem semX7_contract (l : Launch) (hl : l.stackTraces = false) (W9 : xWd) : xSem l W9 (cI) yX7_contract wsX7_contract 8 191 (spX7_contract W9) := by
  refine xSem_of (call := callX7_contract W9) (thrf := fun _ => "") cI_law (by decide +kernel) rfl ckX7_contract usX7_contract (crX7_contract l hl W9) xThrOK_nil ?_ ?_
  · intro av S KF h
    obtain ⟨a, k, f, t, u, l, r, rfl, h⟩ := h
    exact ⟨by intro v hv; simp only [List.mem_cons, List.not_mem_nil, or_false] at hv; rcases hv with rfl | rfl | rfl | rfl | rfl | rfl | rfl <;> first | rfl | exact cat_rf, Nat.le_of_ble_eq_true rfl⟩
  intro av S KF h G hG
  obtain ⟨a, k, f, t, u, l, r, rfl, h⟩ := h
  rw [show (spX7_contract W9).1 _ S = _ from spcX7_contract] at hG
  try dsimp only at hG
  change G 0 [some (.ref a), some (.int k), some (.int f), some (.int t), some (.int u), some (.int l), some (.int r), none] [] S 0 0
  obtain ⟨h0, ⟨⟨h1, h1b⟩, h2⟩, h3, hbad, hok⟩ := h

  generalize hL : cRf S a 803 = L at *
  by_cases w1 : (0 ≤ f ∧ f < 8) ∧ 0 ≤ t ∧ t < 8
  · by_cases w2 : (0 ≤ k ∧ k ≤ 2) ∧ ¬ f = t ∧ (1 ≤ u ∧ u ≤ 99) ∧ (0 ≤ l ∧ l ≤ 5000) ∧ 0 ≤ r ∧ r ≤ 300
    · by_cases w3 : cFi S L 2 < 12
      · have hz := (((hok w1).2 w2).2 w3)
        have w3b : ((12 : Int32) ≤ cFi S L 2) = False := eq_false (Int32.not_le.mpr w3)
        have key : ∀ q, cDead S q → G 76 [some (.ref a), some (.int k), some (.int f), some (.int t), some (.int u), some (.int l), some (.int r), none] [.ref q] (cNewO S q 3) 9 59 := by
          intro q hq
          have hr := hz q hq
          have n1 := ne_dead h0 (by omega) hq
          have n2 := ne_dead h1b (by omega) hq
          have hfr : fr1 S (cCon S q (cFi S L 2) k f t u l r) := cCon_fr hq
          have hsm : lSame S (cCon S q (cFi S L 2) k f t u l r) L := cCon_same h1b hq
          have hcp := h3.mono hfr hsm
          have hkd := (lAll_kd h2 (Or.inr (Or.inr (Or.inl rfl)))).mono hfr hsm
          have hcn := hsm.rd.1
          have h12 : lCn S L < 30 := by
            have z := h3.2.1
            rw [z, show (12 : Int32) = nI 12 from rfl, lt_nI (by have := h3.2.2.1; omega) (by omega)] at w3
            omega
          have hKq : cK (cCon S q (cFi S L 2) k f t u l r) q = 4 := cCon_K
          have hnum : cFi (cCon S q (cFi S L 2) k f t u l r) q 300 = cFi S L 2 := by
            unfold cCon
            simp only [cFi_setI, Nat.reduceEqDiff, and_false, if_false, and_self, if_true]
          have hKa := (hfr.1 a (live_of h0 (by omega))).trans h0
          have hKL := (hfr.1 L (live_of h1b (by omega))).trans h1b
          have hFa := hfr.2.2.1 a 803 (by omega) (live_of h0 (by omega))
          rw [h1] at hFa
          generalize hS1 : cCon S q (cFi S L 2) k f t u l r = S1 at *
          unfold cCon at hS1
          refine xgo0 hG (fun fu hfu => ?_)
          simp only [↓callX7_contract_0, ↓callX7_contract_1, ↓callX7_contract_2, ↓callX7_contract_3, ↓callX7_contract_4, ↓callX7_contract_5, ↓callX7_contract_6, ↓cg_3_0, ↓cg_8_3, cisa, ↓cnew, kb_12, kb_99, kc_12, kc_99, ki_0, ki_1, ki_2, ks_300, ks_5000, kt_300, kt_5000, ↓vm_aload, ↓vm_aload_n, ↓vm_astore, ↓vm_bipush, ↓vm_dup, ↓vm_getfield, ↓vm_goto, ↓vm_iconst, ↓vm_if_icmp_eq, ↓vm_if_icmp_ge, ↓vm_iload, ↓vm_iload_n, ↓vm_invokespecial, ↓vm_invokestatic, ↓vm_invokevirtual, ↓vm_ireturn, ↓vm_newO, ↓vm_pop, ↓vm_sipush, ↓xc_1, ↓xc_2, ↓xc_3, ↓xc_8, ↓tbX7_contract_0, ↓tbX7_contract_1, ↓tbX7_contract_4, ↓tbX7_contract_5, ↓tbX7_contract_8, ↓tbX7_contract_9, ↓tbX7_contract_10, ↓tbX7_contract_11, ↓tbX7_contract_14, ↓tbX7_contract_15, ↓tbX7_contract_16, ↓tbX7_contract_19, ↓tbX7_contract_20, ↓tbX7_contract_23, ↓tbX7_contract_24, ↓tbX7_contract_27, ↓tbX7_contract_29, ↓tbX7_contract_30, ↓tbX7_contract_32, ↓tbX7_contract_35, ↓tbX7_contract_37, ↓tbX7_contract_38, ↓tbX7_contract_41, ↓tbX7_contract_44, ↓tbX7_contract_46, ↓tbX7_contract_47, ↓tbX7_contract_50, ↓tbX7_contract_53, ↓tbX7_contract_54, ↓tbX7_contract_57, ↓tbX7_contract_60, ↓tbX7_contract_62, ↓tbX7_contract_65, ↓tbX7_contract_66, ↓tbX7_contract_69, ↓tbX7_contract_70, ↓tbX7_contract_73, ↓tbX7_contract_76, ↓tbX7_contract_77, ↓tbX7_contract_78, ↓tbX7_contract_81, ↓tbX7_contract_84, ↓tbX7_contract_85, ↓tbX7_contract_86, ↓tbX7_contract_87, ↓tbX7_contract_89, ↓tbX7_contract_91, ↓tbX7_contract_93, ↓tbX7_contract_96, ↓tbX7_contract_98, ↓tbX7_contract_99, ↓tbX7_contract_102, ↓tbX7_contract_104, ↓tbX7_contract_107, ↓tbX7_contract_108, ↓tbX7_contract_110, ↓tbX7_contract_113, hfu, xstep0, xJ1_hit, xJ1_go, xJ2_hit1, xJ2_hit2, xJ2_go, ↓xif_t, ↓xif_f, seval, ↓xca_eq, ↓xre_l, ↓xre_r, xmask_t, xmask_f, xmask_nil, ↓xst_eq, xX_eq, eI_eq, eMc_eq, eMs_eq, eF_eq, eThr_eq, ↓xS1_mk, ↓xSI_mk, ↓xSR_mk, ↓xLI_0, ↓xLI_s, ↓xLR_0, ↓xLR_s, vRef_ref, vRef_null, vRef_rf, cat_int, cat_ref, cat_null, cat_rf, rf_some, rf_none, rf_null, rf_eq, rf_ref, ref_rf, ref_null, ref_ref, xOk_0, xOk_1, xOk_2r, xOk_2n, xOk_2f, vOpt_rf, vOpt_ref, vOpt_null, List.set_cons_zero, List.set_cons_succ, List.take_succ_cons, List.take_zero, List.drop_succ_cons, List.drop_zero, List.reverse_cons, List.reverse_nil, List.nil_append, List.cons_append, List.append_nil, List.length_cons, List.length_nil, List.map_cons, List.map_nil, List.sum_cons, List.sum_nil, Option.toList_some, Option.toList_none, xRecv_mk, true_and, and_true, true_implies, Nat.reduceAdd, Nat.reduceLeDiff, Nat.zero_le, Nat.le_refl, Nat.add_zero, Nat.zero_add, reduceIte, not_true_eq_false, not_false_eq_true, false_implies, and_self, implies_true, eq_self, Nat.reduceEqDiff, List.cons.injEq, xsn_1, xsn_2, false_and, and_false, or_false, false_or, or_true, true_or, xsn_3, xsn_4, cK_setI, cFi_setI, cFr_setI, cLen_setI, cRi_setI, ↓spwX7_needPoint, spcX7_needPoint, ↓spwX7_needWithin, spcX7_needWithin, ↓spwX7_needArgument, spcX7_needArgument, ↓spwJx4a65c_size_8abf5, spcJx4a65c_size_8abf5, ↓spwX7_needState, spcX7_needState, ↓spwX2_init, spcX2_init, ↓spwJx4a65c_add_9ea2d, spcJx4a65c_add_9ea2d, cK_newO, cFr_newO, cFi_newO, h0, h1, h1b, n1, n2, hS1, hKa, hKL, hFa, hKq, hcp, hcn, h12, hkd]
          try simp only [xif_e]
          intro S2 hA
          have hf2 := (fr1_m (S := S1) (L := L) (g := 0) (x := cFi S1 L 0 + 1) (by omega)).trans (fr1_add hA)
          have hlq := live_of hKq (by omega)
          refine ⟨(hf2.1 q hlq).trans hKq, ?_⟩
          rw [hf2.2.1 q 300 (by omega) hlq, hnum]
          exact hr _ S2 hA
        refine xgo hG (head := 76) (mb := [true, true, true, true, true, true, true, false]) (P := fun lv st S1 cs ss => ∃ q, cDead S q ∧ lv = [some (.ref a), some (.int k), some (.int f), some (.int t), some (.int u), some (.int l), some (.int r), none] ∧ st = [.ref q] ∧ S1 = cNewO S q 3 ∧ cs = 9 ∧ ss = 59) (fun lv st S1 cs ss hP => ?_) (fun fu hfu => ?_)
        · obtain ⟨q, hq, rfl, rfl, rfl, rfl, rfl⟩ := hP
          exact key q hq
        · simp only [↓callX7_contract_0, ↓callX7_contract_1, ↓callX7_contract_2, ↓callX7_contract_3, ↓callX7_contract_4, ↓callX7_contract_5, ↓callX7_contract_6, ↓cg_3_0, ↓cg_8_3, cisa, ↓cnew, kb_12, kb_99, kc_12, kc_99, ki_0, ki_1, ki_2, ks_300, ks_5000, kt_300, kt_5000, ↓vm_aload, ↓vm_aload_n, ↓vm_astore, ↓vm_bipush, ↓vm_dup, ↓vm_getfield, ↓vm_goto, ↓vm_iconst, ↓vm_if_icmp_eq, ↓vm_if_icmp_ge, ↓vm_iload, ↓vm_iload_n, ↓vm_invokespecial, ↓vm_invokestatic, ↓vm_invokevirtual, ↓vm_ireturn, ↓vm_newO, ↓vm_pop, ↓vm_sipush, ↓xc_1, ↓xc_2, ↓xc_3, ↓xc_8, ↓tbX7_contract_0, ↓tbX7_contract_1, ↓tbX7_contract_4, ↓tbX7_contract_5, ↓tbX7_contract_8, ↓tbX7_contract_9, ↓tbX7_contract_10, ↓tbX7_contract_11, ↓tbX7_contract_14, ↓tbX7_contract_15, ↓tbX7_contract_16, ↓tbX7_contract_19, ↓tbX7_contract_20, ↓tbX7_contract_23, ↓tbX7_contract_24, ↓tbX7_contract_27, ↓tbX7_contract_29, ↓tbX7_contract_30, ↓tbX7_contract_32, ↓tbX7_contract_35, ↓tbX7_contract_37, ↓tbX7_contract_38, ↓tbX7_contract_41, ↓tbX7_contract_44, ↓tbX7_contract_46, ↓tbX7_contract_47, ↓tbX7_contract_50, ↓tbX7_contract_53, ↓tbX7_contract_54, ↓tbX7_contract_57, ↓tbX7_contract_60, ↓tbX7_contract_62, ↓tbX7_contract_65, ↓tbX7_contract_66, ↓tbX7_contract_69, ↓tbX7_contract_70, ↓tbX7_contract_73, ↓tbX7_contract_76, ↓tbX7_contract_77, ↓tbX7_contract_78, ↓tbX7_contract_81, ↓tbX7_contract_84, ↓tbX7_contract_85, ↓tbX7_contract_86, ↓tbX7_contract_87, ↓tbX7_contract_89, ↓tbX7_contract_91, ↓tbX7_contract_93, ↓tbX7_contract_96, ↓tbX7_contract_98, ↓tbX7_contract_99, ↓tbX7_contract_102, ↓tbX7_contract_104, ↓tbX7_contract_107, ↓tbX7_contract_108, ↓tbX7_contract_110, ↓tbX7_contract_113, hfu, xstep0, xJ1_hit, xJ1_go, xJ2_hit1, xJ2_hit2, xJ2_go, ↓xif_t, ↓xif_f, seval, ↓xca_eq, ↓xre_l, ↓xre_r, xmask_t, xmask_f, xmask_nil, ↓xst_eq, xX_eq, eI_eq, eMc_eq, eMs_eq, eF_eq, eThr_eq, ↓xS1_mk, ↓xSI_mk, ↓xSR_mk, ↓xLI_0, ↓xLI_s, ↓xLR_0, ↓xLR_s, vRef_ref, vRef_null, vRef_rf, cat_int, cat_ref, cat_null, cat_rf, rf_some, rf_none, rf_null, rf_eq, rf_ref, ref_rf, ref_null, ref_ref, xOk_0, xOk_1, xOk_2r, xOk_2n, xOk_2f, vOpt_rf, vOpt_ref, vOpt_null, List.set_cons_zero, List.set_cons_succ, List.take_succ_cons, List.take_zero, List.drop_succ_cons, List.drop_zero, List.reverse_cons, List.reverse_nil, List.nil_append, List.cons_append, List.append_nil, List.length_cons, List.length_nil, List.map_cons, List.map_nil, List.sum_cons, List.sum_nil, Option.toList_some, Option.toList_none, xRecv_mk, true_and, and_true, true_implies, Nat.reduceAdd, Nat.reduceLeDiff, Nat.zero_le, Nat.le_refl, Nat.add_zero, Nat.zero_add, reduceIte, not_true_eq_false, not_false_eq_true, false_implies, and_self, implies_true, eq_self, Nat.reduceEqDiff, List.cons.injEq, xsn_1, xsn_2, false_and, and_false, or_false, false_or, or_true, true_or, xsn_3, xsn_4, cK_setI, cFi_setI, cFr_setI, cLen_setI, cRi_setI, ↓spwX7_needPoint, spcX7_needPoint, ↓spwX7_needWithin, spcX7_needWithin, ↓spwX7_needArgument, spcX7_needArgument, ↓spwJx4a65c_size_8abf5, spcJx4a65c_size_8abf5, ↓spwX7_needState, spcX7_needState, ↓spwX2_init, spcX2_init, ↓spwJx4a65c_add_9ea2d, spcJx4a65c_add_9ea2d, h0, h1, h1b, w1, w2, w3b, hL]
          try simp only [xif_e]
          intro q hq
          first | exact ⟨q, hq, rfl⟩ | exact ⟨q, hq, rfl, rfl⟩ | exact ⟨q, hq, rfl, rfl, rfl⟩ | exact ⟨q, hq, rfl, rfl, rfl, rfl, rfl⟩
      · have h := ((hok w1).2 w2).1 w3
        refine xgo hG (mb := []) (head := 73) (P := fun _ _ _ _ _ => False) (fun _ _ _ _ _ q => q.elim) (pc := 0) (fun fu hfu => ?_)
        simp only [↓callX7_contract_0, ↓callX7_contract_1, ↓callX7_contract_2, ↓callX7_contract_3, ↓callX7_contract_4, ↓callX7_contract_5, ↓callX7_contract_6, ↓cg_3_0, ↓cg_8_3, cisa, ↓cnew, kb_12, kb_99, kc_12, kc_99, ki_0, ki_1, ki_2, ks_300, ks_5000, kt_300, kt_5000, ↓vm_aload, ↓vm_aload_n, ↓vm_astore, ↓vm_bipush, ↓vm_dup, ↓vm_getfield, ↓vm_goto, ↓vm_iconst, ↓vm_if_icmp_eq, ↓vm_if_icmp_ge, ↓vm_iload, ↓vm_iload_n, ↓vm_invokespecial, ↓vm_invokestatic, ↓vm_invokevirtual, ↓vm_ireturn, ↓vm_newO, ↓vm_pop, ↓vm_sipush, ↓xc_1, ↓xc_2, ↓xc_3, ↓xc_8, ↓tbX7_contract_0, ↓tbX7_contract_1, ↓tbX7_contract_4, ↓tbX7_contract_5, ↓tbX7_contract_8, ↓tbX7_contract_9, ↓tbX7_contract_10, ↓tbX7_contract_11, ↓tbX7_contract_14, ↓tbX7_contract_15, ↓tbX7_contract_16, ↓tbX7_contract_19, ↓tbX7_contract_20, ↓tbX7_contract_23, ↓tbX7_contract_24, ↓tbX7_contract_27, ↓tbX7_contract_29, ↓tbX7_contract_30, ↓tbX7_contract_32, ↓tbX7_contract_35, ↓tbX7_contract_37, ↓tbX7_contract_38, ↓tbX7_contract_41, ↓tbX7_contract_44, ↓tbX7_contract_46, ↓tbX7_contract_47, ↓tbX7_contract_50, ↓tbX7_contract_53, ↓tbX7_contract_54, ↓tbX7_contract_57, ↓tbX7_contract_60, ↓tbX7_contract_62, ↓tbX7_contract_65, ↓tbX7_contract_66, ↓tbX7_contract_69, ↓tbX7_contract_70, ↓tbX7_contract_73, ↓tbX7_contract_76, ↓tbX7_contract_77, ↓tbX7_contract_78, ↓tbX7_contract_81, ↓tbX7_contract_84, ↓tbX7_contract_85, ↓tbX7_contract_86, ↓tbX7_contract_87, ↓tbX7_contract_89, ↓tbX7_contract_91, ↓tbX7_contract_93, ↓tbX7_contract_96, ↓tbX7_contract_98, ↓tbX7_contract_99, ↓tbX7_contract_102, ↓tbX7_contract_104, ↓tbX7_contract_107, ↓tbX7_contract_108, ↓tbX7_contract_110, ↓tbX7_contract_113, hfu, xstep0, xJ1_hit, xJ1_go, xJ2_hit1, xJ2_hit2, xJ2_go, ↓xif_t, ↓xif_f, seval, ↓xca_eq, ↓xre_l, ↓xre_r, xmask_t, xmask_f, xmask_nil, ↓xst_eq, xX_eq, eI_eq, eMc_eq, eMs_eq, eF_eq, eThr_eq, ↓xS1_mk, ↓xSI_mk, ↓xSR_mk, ↓xLI_0, ↓xLI_s, ↓xLR_0, ↓xLR_s, vRef_ref, vRef_null, vRef_rf, cat_int, cat_ref, cat_null, cat_rf, rf_some, rf_none, rf_null, rf_eq, rf_ref, ref_rf, ref_null, ref_ref, xOk_0, xOk_1, xOk_2r, xOk_2n, xOk_2f, vOpt_rf, vOpt_ref, vOpt_null, List.set_cons_zero, List.set_cons_succ, List.take_succ_cons, List.take_zero, List.drop_succ_cons, List.drop_zero, List.reverse_cons, List.reverse_nil, List.nil_append, List.cons_append, List.append_nil, List.length_cons, List.length_nil, List.map_cons, List.map_nil, List.sum_cons, List.sum_nil, Option.toList_some, Option.toList_none, xRecv_mk, true_and, and_true, true_implies, Nat.reduceAdd, Nat.reduceLeDiff, Nat.zero_le, Nat.le_refl, Nat.add_zero, Nat.zero_add, reduceIte, not_true_eq_false, not_false_eq_true, false_implies, and_self, implies_true, eq_self, Nat.reduceEqDiff, List.cons.injEq, xsn_1, xsn_2, false_and, and_false, or_false, false_or, or_true, true_or, xsn_3, xsn_4, cK_setI, cFi_setI, cFr_setI, cLen_setI, cRi_setI, ↓spwX7_needPoint, spcX7_needPoint, ↓spwX7_needWithin, spcX7_needWithin, ↓spwX7_needArgument, spcX7_needArgument, ↓spwJx4a65c_size_8abf5, spcJx4a65c_size_8abf5, ↓spwX7_needState, spcX7_needState, ↓spwX2_init, spcX2_init, ↓spwJx4a65c_add_9ea2d, spcJx4a65c_add_9ea2d, h0, h1, h1b, w1, w2, w3, hL]
        try simp only [xif_e]
        repeat' (first | exact h | with_reducible apply And.intro | with_reducible intro _)
        all_goals grind
    · have h := (hok w1).1 w2
      refine xgo hG (mb := []) (head := 53) (P := fun _ _ _ _ _ => False) (fun _ _ _ _ _ q => q.elim) (pc := 0) (fun fu hfu => ?_)
      simp only [↓callX7_contract_0, ↓callX7_contract_1, ↓callX7_contract_2, ↓callX7_contract_3, ↓callX7_contract_4, ↓callX7_contract_5, ↓callX7_contract_6, ↓cg_3_0, ↓cg_8_3, cisa, ↓cnew, kb_12, kb_99, kc_12, kc_99, ki_0, ki_1, ki_2, ks_300, ks_5000, kt_300, kt_5000, ↓vm_aload, ↓vm_aload_n, ↓vm_astore, ↓vm_bipush, ↓vm_dup, ↓vm_getfield, ↓vm_goto, ↓vm_iconst, ↓vm_if_icmp_eq, ↓vm_if_icmp_ge, ↓vm_iload, ↓vm_iload_n, ↓vm_invokespecial, ↓vm_invokestatic, ↓vm_invokevirtual, ↓vm_ireturn, ↓vm_newO, ↓vm_pop, ↓vm_sipush, ↓xc_1, ↓xc_2, ↓xc_3, ↓xc_8, ↓tbX7_contract_0, ↓tbX7_contract_1, ↓tbX7_contract_4, ↓tbX7_contract_5, ↓tbX7_contract_8, ↓tbX7_contract_9, ↓tbX7_contract_10, ↓tbX7_contract_11, ↓tbX7_contract_14, ↓tbX7_contract_15, ↓tbX7_contract_16, ↓tbX7_contract_19, ↓tbX7_contract_20, ↓tbX7_contract_23, ↓tbX7_contract_24, ↓tbX7_contract_27, ↓tbX7_contract_29, ↓tbX7_contract_30, ↓tbX7_contract_32, ↓tbX7_contract_35, ↓tbX7_contract_37, ↓tbX7_contract_38, ↓tbX7_contract_41, ↓tbX7_contract_44, ↓tbX7_contract_46, ↓tbX7_contract_47, ↓tbX7_contract_50, ↓tbX7_contract_53, ↓tbX7_contract_54, ↓tbX7_contract_57, ↓tbX7_contract_60, ↓tbX7_contract_62, ↓tbX7_contract_65, ↓tbX7_contract_66, ↓tbX7_contract_69, ↓tbX7_contract_70, ↓tbX7_contract_73, ↓tbX7_contract_76, ↓tbX7_contract_77, ↓tbX7_contract_78, ↓tbX7_contract_81, ↓tbX7_contract_84, ↓tbX7_contract_85, ↓tbX7_contract_86, ↓tbX7_contract_87, ↓tbX7_contract_89, ↓tbX7_contract_91, ↓tbX7_contract_93, ↓tbX7_contract_96, ↓tbX7_contract_98, ↓tbX7_contract_99, ↓tbX7_contract_102, ↓tbX7_contract_104, ↓tbX7_contract_107, ↓tbX7_contract_108, ↓tbX7_contract_110, ↓tbX7_contract_113, hfu, xstep0, xJ1_hit, xJ1_go, xJ2_hit1, xJ2_hit2, xJ2_go, ↓xif_t, ↓xif_f, seval, ↓xca_eq, ↓xre_l, ↓xre_r, xmask_t, xmask_f, xmask_nil, ↓xst_eq, xX_eq, eI_eq, eMc_eq, eMs_eq, eF_eq, eThr_eq, ↓xS1_mk, ↓xSI_mk, ↓xSR_mk, ↓xLI_0, ↓xLI_s, ↓xLR_0, ↓xLR_s, vRef_ref, vRef_null, vRef_rf, cat_int, cat_ref, cat_null, cat_rf, rf_some, rf_none, rf_null, rf_eq, rf_ref, ref_rf, ref_null, ref_ref, xOk_0, xOk_1, xOk_2r, xOk_2n, xOk_2f, vOpt_rf, vOpt_ref, vOpt_null, List.set_cons_zero, List.set_cons_succ, List.take_succ_cons, List.take_zero, List.drop_succ_cons, List.drop_zero, List.reverse_cons, List.reverse_nil, List.nil_append, List.cons_append, List.append_nil, List.length_cons, List.length_nil, List.map_cons, List.map_nil, List.sum_cons, List.sum_nil, Option.toList_some, Option.toList_none, xRecv_mk, true_and, and_true, true_implies, Nat.reduceAdd, Nat.reduceLeDiff, Nat.zero_le, Nat.le_refl, Nat.add_zero, Nat.zero_add, reduceIte, not_true_eq_false, not_false_eq_true, false_implies, and_self, implies_true, eq_self, Nat.reduceEqDiff, List.cons.injEq, xsn_1, xsn_2, false_and, and_false, or_false, false_or, or_true, true_or, xsn_3, xsn_4, cK_setI, cFi_setI, cFr_setI, cLen_setI, cRi_setI, ↓spwX7_needPoint, spcX7_needPoint, ↓spwX7_needWithin, spcX7_needWithin, ↓spwX7_needArgument, spcX7_needArgument, ↓spwJx4a65c_size_8abf5, spcJx4a65c_size_8abf5, ↓spwX7_needState, spcX7_needState, ↓spwX2_init, spcX2_init, ↓spwJx4a65c_add_9ea2d, spcJx4a65c_add_9ea2d, w1]
      try simp only [xif_e]
      repeat' (first | exact h | with_reducible apply And.intro | with_reducible intro _)
      all_goals grind
  · have h := hbad w1
    refine xgo hG (mb := []) (head := 8) (P := fun _ _ _ _ _ => False) (fun _ _ _ _ _ q => q.elim) (pc := 0) (fun fu hfu => ?_)
    simp only [↓callX7_contract_0, ↓callX7_contract_1, ↓callX7_contract_2, ↓callX7_contract_3, ↓callX7_contract_4, ↓callX7_contract_5, ↓callX7_contract_6, ↓cg_3_0, ↓cg_8_3, cisa, ↓cnew, kb_12, kb_99, kc_12, kc_99, ki_0, ki_1, ki_2, ks_300, ks_5000, kt_300, kt_5000, ↓vm_aload, ↓vm_aload_n, ↓vm_astore, ↓vm_bipush, ↓vm_dup, ↓vm_getfield, ↓vm_goto, ↓vm_iconst, ↓vm_if_icmp_eq, ↓vm_if_icmp_ge, ↓vm_iload, ↓vm_iload_n, ↓vm_invokespecial, ↓vm_invokestatic, ↓vm_invokevirtual, ↓vm_ireturn, ↓vm_newO, ↓vm_pop, ↓vm_sipush, ↓xc_1, ↓xc_2, ↓xc_3, ↓xc_8, ↓tbX7_contract_0, ↓tbX7_contract_1, ↓tbX7_contract_4, ↓tbX7_contract_5, ↓tbX7_contract_8, ↓tbX7_contract_9, ↓tbX7_contract_10, ↓tbX7_contract_11, ↓tbX7_contract_14, ↓tbX7_contract_15, ↓tbX7_contract_16, ↓tbX7_contract_19, ↓tbX7_contract_20, ↓tbX7_contract_23, ↓tbX7_contract_24, ↓tbX7_contract_27, ↓tbX7_contract_29, ↓tbX7_contract_30, ↓tbX7_contract_32, ↓tbX7_contract_35, ↓tbX7_contract_37, ↓tbX7_contract_38, ↓tbX7_contract_41, ↓tbX7_contract_44, ↓tbX7_contract_46, ↓tbX7_contract_47, ↓tbX7_contract_50, ↓tbX7_contract_53, ↓tbX7_contract_54, ↓tbX7_contract_57, ↓tbX7_contract_60, ↓tbX7_contract_62, ↓tbX7_contract_65, ↓tbX7_contract_66, ↓tbX7_contract_69, ↓tbX7_contract_70, ↓tbX7_contract_73, ↓tbX7_contract_76, ↓tbX7_contract_77, ↓tbX7_contract_78, ↓tbX7_contract_81, ↓tbX7_contract_84, ↓tbX7_contract_85, ↓tbX7_contract_86, ↓tbX7_contract_87, ↓tbX7_contract_89, ↓tbX7_contract_91, ↓tbX7_contract_93, ↓tbX7_contract_96, ↓tbX7_contract_98, ↓tbX7_contract_99, ↓tbX7_contract_102, ↓tbX7_contract_104, ↓tbX7_contract_107, ↓tbX7_contract_108, ↓tbX7_contract_110, ↓tbX7_contract_113, hfu, xstep0, xJ1_hit, xJ1_go, xJ2_hit1, xJ2_hit2, xJ2_go, ↓xif_t, ↓xif_f, seval, ↓xca_eq, ↓xre_l, ↓xre_r, xmask_t, xmask_f, xmask_nil, ↓xst_eq, xX_eq, eI_eq, eMc_eq, eMs_eq, eF_eq, eThr_eq, ↓xS1_mk, ↓xSI_mk, ↓xSR_mk, ↓xLI_0, ↓xLI_s, ↓xLR_0, ↓xLR_s, vRef_ref, vRef_null, vRef_rf, cat_int, cat_ref, cat_null, cat_rf, rf_some, rf_none, rf_null, rf_eq, rf_ref, ref_rf, ref_null, ref_ref, xOk_0, xOk_1, xOk_2r, xOk_2n, xOk_2f, vOpt_rf, vOpt_ref, vOpt_null, List.set_cons_zero, List.set_cons_succ, List.take_succ_cons, List.take_zero, List.drop_succ_cons, List.drop_zero, List.reverse_cons, List.reverse_nil, List.nil_append, List.cons_append, List.append_nil, List.length_cons, List.length_nil, List.map_cons, List.map_nil, List.sum_cons, List.sum_nil, Option.toList_some, Option.toList_none, xRecv_mk, true_and, and_true, true_implies, Nat.reduceAdd, Nat.reduceLeDiff, Nat.zero_le, Nat.le_refl, Nat.add_zero, Nat.zero_add, reduceIte, not_true_eq_false, not_false_eq_true, false_implies, and_self, implies_true, eq_self, Nat.reduceEqDiff, List.cons.injEq, xsn_1, xsn_2, false_and, and_false, or_false, false_or, or_true, true_or, xsn_3, xsn_4, cK_setI, cFi_setI, cFr_setI, cLen_setI, cRi_setI, ↓spwX7_needPoint, spcX7_needPoint, ↓spwX7_needWithin, spcX7_needWithin, ↓spwX7_needArgument, spcX7_needArgument, ↓spwJx4a65c_size_8abf5, spcJx4a65c_size_8abf5, ↓spwX7_needState, spcX7_needState, ↓spwX2_init, spcX2_init, ↓spwJx4a65c_add_9ea2d, spcJx4a65c_add_9ea2d]
    try simp only [xif_e]
    repeat' (first | exact h | with_reducible apply And.intro | with_reducible intro _)
    all_goals grind

def tbX7_barge : List (Nat × xHint) := [(0, .aload_n 0, 0, 0, 0, []), (1, .iload_n 2, 2, 0, 0, []), (2, .iload_n 3, 3, 0, 0, []), (3, .invokevirtual 97, 0, 3, 8, []), (6, .astore 4, 4, 0, 0, []), (8, .iload_n 1, 1, 0, 0, []), (9, .iconst 0, 0, 0, 0, []), (10, .iconst 2, 0, 0, 0, []), (11, .invokestatic 57, 1, 3, 0, []), (14, .aload_n 0, 0, 0, 0, []), (15, .getfield 19, 8, 2, 2, []), (18, .invokevirtual 108, 2, 1, 0, []), (21, .bipush 24, 0, 0, 0, []), (23, .if_icmp .ge 15, 38, 0, 0, []), (26, .aload 4, 4, 0, 0, []), (28, .invokevirtual 109, 3, 1, 5, []), (31, .ifCond .eq 7, 38, 0, 0, []), (34, .iconst 1, 0, 0, 0, []), (35, .goto 4, 39, 0, 0, []), (38, .iconst 0, 0, 0, 0, []), (39, .invokestatic 77, 4, 1, 0, []), (42, .new 113, 0, 1, 6, []), (45, .dup, 0, 0, 0, []), (46, .aload_n 0, 0, 0, 0, []), (47, .getfield 19, 8, 2, 2, []), (50, .invokevirtual 108, 2, 1, 0, []), (53, .iload_n 1, 1, 0, 0, []), (54, .aload 4, 4, 0, 0, []), (56, .invokespecial 115, 5, 4, 0, []), (59, .astore 5, 5, 0, 0, []), (61, .aload_n 0, 0, 0, 0, []), (62, .getfield 19, 8, 2, 2, []), (65, .aload 5, 5, 0, 0, []), (67, .invokevirtual 44, 6, 2, 0, []), (70, .pop, 0, 0, 0, []), (71, .aload 4, 4, 0, 0, []), (73, .aload 5, 5, 0, 0, []), (75, .invokevirtual 118, 7, 2, 5, []), (78, .aload_n 0, 0, 0, 0, []), (79, .getfield 35, 8, 6, 2, []), (82, .iconst 0, 0, 0, 0, []), (83, .aload 5, 5, 0, 0, []), (85, .getfield 122, 1, 0, 0, []), (88, .iload_n 2, 2, 0, 0, []), (89, .invokevirtual 125, 8, 4, 7, []), (92, .aload 5, 5, 0, 0, []), (94, .getfield 122, 1, 0, 0, []), (97, .ireturn, 0, 0, 0, [])]
def clX7_barge : List (Instr × Nat × Nat × Nat) := [(.invokevirtual 97, 0, 3, 8), (.invokestatic 57, 1, 3, 0), (.invokevirtual 108, 2, 1, 0), (.invokevirtual 109, 3, 1, 5), (.invokestatic 77, 4, 1, 0), (.invokespecial 115, 5, 4, 0), (.invokevirtual 44, 6, 2, 0), (.invokevirtual 118, 7, 2, 5), (.invokevirtual 125, 8, 4, 7)]
def thX7_barge : List (Nat × Nat) := []
theorem ckX7_barge : tbX7_barge.all (xRow RX7 cX7_barge wsX7_barge vwCl [1, 8] clX7_barge thX7_barge 6 (yX7_barge.name == "<init>") (some .int)) = true := xRow_q 0xac7a00b405197d00b61c7a00b40519032300b42a7600b605190419572c00b605191300b42a053a7300b704191b6c00b61300b42a597100bb4d00b8030400a7040700996d00b604190f00a218106c00b61300b42a3900b805031b043a6100b61d1c2a 98 (by decide +kernel) (by decide +kernel)
theorem usX7_barge : xUse wsX7_barge vwCl [1, 8] = true := xUse_g rfl (lw_good lwl_X7_barge lwl_X00 (by decide +kernel)) (xUse_g rfl (lw_good lwl_X7_barge lwl_X70 (by decide +kernel)) xUse_n)
theorem tbX7_barge_0 {k : Instr → Nat → Nat → Nat → List Nat → Prop} : xse (xFind tbX7_barge 0) k = k (.aload_n 0) 0 0 0 [] := rfl
theorem tbX7_barge_1 {k : Instr → Nat → Nat → Nat → List Nat → Prop} : xse (xFind tbX7_barge 1) k = k (.iload_n 2) 2 0 0 [] := rfl
theorem tbX7_barge_2 {k : Instr → Nat → Nat → Nat → List Nat → Prop} : xse (xFind tbX7_barge 2) k = k (.iload_n 3) 3 0 0 [] := rfl
theorem tbX7_barge_3 {k : Instr → Nat → Nat → Nat → List Nat → Prop} : xse (xFind tbX7_barge 3) k = k (.invokevirtual 97) 0 3 8 [] := rfl
theorem tbX7_barge_6 {k : Instr → Nat → Nat → Nat → List Nat → Prop} : xse (xFind tbX7_barge 6) k = k (.astore 4) 4 0 0 [] := rfl
theorem tbX7_barge_8 {k : Instr → Nat → Nat → Nat → List Nat → Prop} : xse (xFind tbX7_barge 8) k = k (.iload_n 1) 1 0 0 [] := rfl
theorem tbX7_barge_9 {k : Instr → Nat → Nat → Nat → List Nat → Prop} : xse (xFind tbX7_barge 9) k = k (.iconst 0) 0 0 0 [] := rfl
theorem tbX7_barge_10 {k : Instr → Nat → Nat → Nat → List Nat → Prop} : xse (xFind tbX7_barge 10) k = k (.iconst 2) 0 0 0 [] := rfl
theorem tbX7_barge_11 {k : Instr → Nat → Nat → Nat → List Nat → Prop} : xse (xFind tbX7_barge 11) k = k (.invokestatic 57) 1 3 0 [] := rfl
theorem tbX7_barge_14 {k : Instr → Nat → Nat → Nat → List Nat → Prop} : xse (xFind tbX7_barge 14) k = k (.aload_n 0) 0 0 0 [] := rfl
theorem tbX7_barge_15 {k : Instr → Nat → Nat → Nat → List Nat → Prop} : xse (xFind tbX7_barge 15) k = k (.getfield 19) 8 2 2 [] := rfl
theorem tbX7_barge_18 {k : Instr → Nat → Nat → Nat → List Nat → Prop} : xse (xFind tbX7_barge 18) k = k (.invokevirtual 108) 2 1 0 [] := rfl
theorem tbX7_barge_21 {k : Instr → Nat → Nat → Nat → List Nat → Prop} : xse (xFind tbX7_barge 21) k = k (.bipush 24) 0 0 0 [] := rfl
theorem tbX7_barge_23 {k : Instr → Nat → Nat → Nat → List Nat → Prop} : xse (xFind tbX7_barge 23) k = k (.if_icmp .ge 15) 38 0 0 [] := rfl
theorem tbX7_barge_26 {k : Instr → Nat → Nat → Nat → List Nat → Prop} : xse (xFind tbX7_barge 26) k = k (.aload 4) 4 0 0 [] := rfl
theorem tbX7_barge_28 {k : Instr → Nat → Nat → Nat → List Nat → Prop} : xse (xFind tbX7_barge 28) k = k (.invokevirtual 109) 3 1 5 [] := rfl
theorem tbX7_barge_31 {k : Instr → Nat → Nat → Nat → List Nat → Prop} : xse (xFind tbX7_barge 31) k = k (.ifCond .eq 7) 38 0 0 [] := rfl
theorem tbX7_barge_34 {k : Instr → Nat → Nat → Nat → List Nat → Prop} : xse (xFind tbX7_barge 34) k = k (.iconst 1) 0 0 0 [] := rfl
theorem tbX7_barge_35 {k : Instr → Nat → Nat → Nat → List Nat → Prop} : xse (xFind tbX7_barge 35) k = k (.goto 4) 39 0 0 [] := rfl
theorem tbX7_barge_38 {k : Instr → Nat → Nat → Nat → List Nat → Prop} : xse (xFind tbX7_barge 38) k = k (.iconst 0) 0 0 0 [] := rfl
theorem tbX7_barge_39 {k : Instr → Nat → Nat → Nat → List Nat → Prop} : xse (xFind tbX7_barge 39) k = k (.invokestatic 77) 4 1 0 [] := rfl
theorem tbX7_barge_42 {k : Instr → Nat → Nat → Nat → List Nat → Prop} : xse (xFind tbX7_barge 42) k = k (.new 113) 0 1 6 [] := rfl
theorem tbX7_barge_45 {k : Instr → Nat → Nat → Nat → List Nat → Prop} : xse (xFind tbX7_barge 45) k = k (.dup) 0 0 0 [] := rfl
theorem tbX7_barge_46 {k : Instr → Nat → Nat → Nat → List Nat → Prop} : xse (xFind tbX7_barge 46) k = k (.aload_n 0) 0 0 0 [] := rfl
theorem tbX7_barge_47 {k : Instr → Nat → Nat → Nat → List Nat → Prop} : xse (xFind tbX7_barge 47) k = k (.getfield 19) 8 2 2 [] := rfl
theorem tbX7_barge_50 {k : Instr → Nat → Nat → Nat → List Nat → Prop} : xse (xFind tbX7_barge 50) k = k (.invokevirtual 108) 2 1 0 [] := rfl
theorem tbX7_barge_53 {k : Instr → Nat → Nat → Nat → List Nat → Prop} : xse (xFind tbX7_barge 53) k = k (.iload_n 1) 1 0 0 [] := rfl
theorem tbX7_barge_54 {k : Instr → Nat → Nat → Nat → List Nat → Prop} : xse (xFind tbX7_barge 54) k = k (.aload 4) 4 0 0 [] := rfl
theorem tbX7_barge_56 {k : Instr → Nat → Nat → Nat → List Nat → Prop} : xse (xFind tbX7_barge 56) k = k (.invokespecial 115) 5 4 0 [] := rfl
theorem tbX7_barge_59 {k : Instr → Nat → Nat → Nat → List Nat → Prop} : xse (xFind tbX7_barge 59) k = k (.astore 5) 5 0 0 [] := rfl
theorem tbX7_barge_61 {k : Instr → Nat → Nat → Nat → List Nat → Prop} : xse (xFind tbX7_barge 61) k = k (.aload_n 0) 0 0 0 [] := rfl
theorem tbX7_barge_62 {k : Instr → Nat → Nat → Nat → List Nat → Prop} : xse (xFind tbX7_barge 62) k = k (.getfield 19) 8 2 2 [] := rfl
theorem tbX7_barge_65 {k : Instr → Nat → Nat → Nat → List Nat → Prop} : xse (xFind tbX7_barge 65) k = k (.aload 5) 5 0 0 [] := rfl
theorem tbX7_barge_67 {k : Instr → Nat → Nat → Nat → List Nat → Prop} : xse (xFind tbX7_barge 67) k = k (.invokevirtual 44) 6 2 0 [] := rfl
theorem tbX7_barge_70 {k : Instr → Nat → Nat → Nat → List Nat → Prop} : xse (xFind tbX7_barge 70) k = k (.pop) 0 0 0 [] := rfl
theorem tbX7_barge_71 {k : Instr → Nat → Nat → Nat → List Nat → Prop} : xse (xFind tbX7_barge 71) k = k (.aload 4) 4 0 0 [] := rfl
theorem tbX7_barge_73 {k : Instr → Nat → Nat → Nat → List Nat → Prop} : xse (xFind tbX7_barge 73) k = k (.aload 5) 5 0 0 [] := rfl
theorem tbX7_barge_75 {k : Instr → Nat → Nat → Nat → List Nat → Prop} : xse (xFind tbX7_barge 75) k = k (.invokevirtual 118) 7 2 5 [] := rfl
theorem tbX7_barge_78 {k : Instr → Nat → Nat → Nat → List Nat → Prop} : xse (xFind tbX7_barge 78) k = k (.aload_n 0) 0 0 0 [] := rfl
theorem tbX7_barge_79 {k : Instr → Nat → Nat → Nat → List Nat → Prop} : xse (xFind tbX7_barge 79) k = k (.getfield 35) 8 6 2 [] := rfl
theorem tbX7_barge_82 {k : Instr → Nat → Nat → Nat → List Nat → Prop} : xse (xFind tbX7_barge 82) k = k (.iconst 0) 0 0 0 [] := rfl
theorem tbX7_barge_83 {k : Instr → Nat → Nat → Nat → List Nat → Prop} : xse (xFind tbX7_barge 83) k = k (.aload 5) 5 0 0 [] := rfl
theorem tbX7_barge_85 {k : Instr → Nat → Nat → Nat → List Nat → Prop} : xse (xFind tbX7_barge 85) k = k (.getfield 122) 1 0 0 [] := rfl
theorem tbX7_barge_88 {k : Instr → Nat → Nat → Nat → List Nat → Prop} : xse (xFind tbX7_barge 88) k = k (.iload_n 2) 2 0 0 [] := rfl
theorem tbX7_barge_89 {k : Instr → Nat → Nat → Nat → List Nat → Prop} : xse (xFind tbX7_barge 89) k = k (.invokevirtual 125) 8 4 7 [] := rfl
theorem tbX7_barge_92 {k : Instr → Nat → Nat → Nat → List Nat → Prop} : xse (xFind tbX7_barge 92) k = k (.aload 5) 5 0 0 [] := rfl
theorem tbX7_barge_94 {k : Instr → Nat → Nat → Nat → List Nat → Prop} : xse (xFind tbX7_barge 94) k = k (.getfield 122) 1 0 0 [] := rfl
theorem tbX7_barge_97 {k : Instr → Nat → Nat → Nat → List Nat → Prop} : xse (xFind tbX7_barge 97) k = k (.ireturn) 0 0 0 [] := rfl

def spX7_barge (W9 : xWd) : xSp cS := (fun av S => (10, 193), fun av S K => ∃ (a : Nat) (y : Int32) (p : Int32) (t : Int32), av = [.ref a, .int y, .int p, .int t] ∧ (cK S a = 9 ∧ (cIn S a 802 1 ∧ lAll S (cRf S a 802) 2) ∧ lCap W9 S (cRf S a 802) ∧ ((cIn S a 801 1 ∧ lAll S (cRf S a 801) 6) ∧ cFi S (cRf S a 801) 2 = 16) ∧ (∀ j, j < lCn S (cRf S a 801) → cIn S (lG S (cRf S a 801) j) 505 1 ∧ lCap W9 S (rL S (lG S (cRf S a 801) j)) ∧ rN S (lG S (cRf S a 801) j) < 30 ∧ lKd S (rL S (lG S (cRf S a 801) j)) 2 ∧ ¬ rL S (lG S (cRf S a 801) j) = (cRf S a 802) ∧ (cRf S (rL S (lG S (cRf S a 801) j)) 1 = wE W9 ∨ ¬ cRf S (rL S (lG S (cRf S a 801) j)) 1 = cRf S (cRf S a 802) 1)) ∧ cFr S a 806 = some (cRf S a 806) ∧ ∃ N x u, stL S (cRf S a 806) N x u ∧ (¬ ((0 ≤ p ∧ p < 8) ∧ 0 ≤ t ∧ t < 2) → K (rX "java/lang/IndexOutOfBoundsException") S) ∧ (((0 ≤ p ∧ p < 8) ∧ 0 ≤ t ∧ t < 2) → (¬ (0 ≤ y ∧ y ≤ 2) → K (rX "java/lang/IllegalArgumentException") S) ∧ ((0 ≤ y ∧ y ≤ 2) → (¬ (cFi S (cRf S a 802) 2 < 24 ∧ cFi S (rL S (lG S (cRf S a 801) (p * 2 + t).toNatClampNeg)) 2 < cFi S (lG S (cRf S a 801) (p * 2 + t).toNatClampNeg) 503) → K (rX "java/lang/IllegalStateException") S) ∧ ((cFi S (cRf S a 802) 2 < 24 ∧ cFi S (rL S (lG S (cRf S a 801) (p * 2 + t).toNatClampNeg)) 2 < cFi S (lG S (cRf S a 801) (p * 2 + t).toNatClampNeg) 503) → ∀ q, cDead S q → ∀ x2 S2, lAdd W9 (cSetI (cBar S q (cFi S (cRf S a 802) 2) y (lG S (cRf S a 801) (p * 2 + t).toNatClampNeg)) (cRf S a 802) 0 x2) (cRf S a 802) q S2 → ∀ x3 S3, lAdd W9 (cSetI S2 (rL S (lG S (cRf S a 801) (p * 2 + t).toNatClampNeg)) 0 x3) (rL S (lG S (cRf S a 801) (p * 2 + t).toNatClampNeg)) q S3 → ∀ S4, tlR (cSetR S3 q 102 (some (lG S (cRf S a 801) (p * 2 + t).toNatClampNeg))) (cRf S a 806) N x u (cNote 0 (cFi S (cRf S a 802) 2) p) S4 → K (rI (cFi S (cRf S a 802) 2)) S4)))))
theorem spcX7_barge {av : List Value} {S : cS} {W9 : xWd} : (spX7_barge W9).1 av S = (10, 193) := rfl
theorem spwX7_barge {S : cS} {W9 : xWd} {K : xRes → cS → Prop} {a : Nat} {y : Int32} {p : Int32} {t : Int32} : (spX7_barge W9).2 [.ref a, .int y, .int p, .int t] S K = (cK S a = 9 ∧ (cIn S a 802 1 ∧ lAll S (cRf S a 802) 2) ∧ lCap W9 S (cRf S a 802) ∧ ((cIn S a 801 1 ∧ lAll S (cRf S a 801) 6) ∧ cFi S (cRf S a 801) 2 = 16) ∧ (∀ j, j < lCn S (cRf S a 801) → cIn S (lG S (cRf S a 801) j) 505 1 ∧ lCap W9 S (rL S (lG S (cRf S a 801) j)) ∧ rN S (lG S (cRf S a 801) j) < 30 ∧ lKd S (rL S (lG S (cRf S a 801) j)) 2 ∧ ¬ rL S (lG S (cRf S a 801) j) = (cRf S a 802) ∧ (cRf S (rL S (lG S (cRf S a 801) j)) 1 = wE W9 ∨ ¬ cRf S (rL S (lG S (cRf S a 801) j)) 1 = cRf S (cRf S a 802) 1)) ∧ cFr S a 806 = some (cRf S a 806) ∧ ∃ N x u, stL S (cRf S a 806) N x u ∧ (¬ ((0 ≤ p ∧ p < 8) ∧ 0 ≤ t ∧ t < 2) → K (rX "java/lang/IndexOutOfBoundsException") S) ∧ (((0 ≤ p ∧ p < 8) ∧ 0 ≤ t ∧ t < 2) → (¬ (0 ≤ y ∧ y ≤ 2) → K (rX "java/lang/IllegalArgumentException") S) ∧ ((0 ≤ y ∧ y ≤ 2) → (¬ (cFi S (cRf S a 802) 2 < 24 ∧ cFi S (rL S (lG S (cRf S a 801) (p * 2 + t).toNatClampNeg)) 2 < cFi S (lG S (cRf S a 801) (p * 2 + t).toNatClampNeg) 503) → K (rX "java/lang/IllegalStateException") S) ∧ ((cFi S (cRf S a 802) 2 < 24 ∧ cFi S (rL S (lG S (cRf S a 801) (p * 2 + t).toNatClampNeg)) 2 < cFi S (lG S (cRf S a 801) (p * 2 + t).toNatClampNeg) 503) → ∀ q, cDead S q → ∀ x2 S2, lAdd W9 (cSetI (cBar S q (cFi S (cRf S a 802) 2) y (lG S (cRf S a 801) (p * 2 + t).toNatClampNeg)) (cRf S a 802) 0 x2) (cRf S a 802) q S2 → ∀ x3 S3, lAdd W9 (cSetI S2 (rL S (lG S (cRf S a 801) (p * 2 + t).toNatClampNeg)) 0 x3) (rL S (lG S (cRf S a 801) (p * 2 + t).toNatClampNeg)) q S3 → ∀ S4, tlR (cSetR S3 q 102 (some (lG S (cRf S a 801) (p * 2 + t).toNatClampNeg))) (cRf S a 806) N x u (cNote 0 (cFi S (cRf S a 802) 2) p) S4 → K (rI (cFi S (cRf S a 802) 2)) S4)))) :=
  propext ⟨fun h => by
    simp only [spX7_barge] at h
    obtain ⟨_, _, _, _, e, h⟩ := h
    simp only [List.cons.injEq, Value.int.injEq, Value.ref.injEq, rf_eq, and_true, true_and] at e
    obtain ⟨rfl, rfl, rfl, rfl⟩ := e
    exact h, fun h => ⟨_, _, _, _, rfl, h⟩⟩

def callX7_barge (W9 : xWd) : Nat → Option (xSp cS) := fun n => match n with | 0 => some (spX7_needTier W9) | 1 => some (spX7_needWithin W9) | 2 => some (spJx4a65c_size_8abf5 W9) | 3 => some (spX4_hasRoom W9) | 4 => some (spX7_needState W9) | 5 => some (spX0_init W9) | 6 => some (spJx4a65c_add_9ea2d W9) | 7 => some (spX4_append W9) | 8 => some (spX6_tell W9) | _ => none

theorem callX7_barge_0 {W9 : xWd} {k : xSp cS → Prop} : xcs (callX7_barge W9 0) k = k (spX7_needTier W9) := rfl

theorem callX7_barge_1 {W9 : xWd} {k : xSp cS → Prop} : xcs (callX7_barge W9 1) k = k (spX7_needWithin W9) := rfl

theorem callX7_barge_2 {W9 : xWd} {k : xSp cS → Prop} : xcs (callX7_barge W9 2) k = k (spJx4a65c_size_8abf5 W9) := rfl

theorem callX7_barge_3 {W9 : xWd} {k : xSp cS → Prop} : xcs (callX7_barge W9 3) k = k (spX4_hasRoom W9) := rfl

theorem callX7_barge_4 {W9 : xWd} {k : xSp cS → Prop} : xcs (callX7_barge W9 4) k = k (spX7_needState W9) := rfl

theorem callX7_barge_5 {W9 : xWd} {k : xSp cS → Prop} : xcs (callX7_barge W9 5) k = k (spX0_init W9) := rfl

theorem callX7_barge_6 {W9 : xWd} {k : xSp cS → Prop} : xcs (callX7_barge W9 6) k = k (spJx4a65c_add_9ea2d W9) := rfl

theorem callX7_barge_7 {W9 : xWd} {k : xSp cS → Prop} : xcs (callX7_barge W9 7) k = k (spX4_append W9) := rfl

theorem callX7_barge_8 {W9 : xWd} {k : xSp cS → Prop} : xcs (callX7_barge W9 8) k = k (spX6_tell W9) := rfl

theorem crX7_barge (l : Launch) (hl : l.stackTraces = false) (W9 : xWd) : xCallsOK l W9 (cI) (callX7_barge W9) clX7_barge RX7 wsX7_barge 9 212 6 := by
  intro E A p e R s m args below meth c hI hF hL X
  exact List.forall_mem_cons.mpr ⟨⟨_, rfl, xCR_V X (by rw [hI]; exact (semX7_needTier l hl W9)) gX7_barge_X7_needTier rfl rfl (by decide +kernel) (by rw [hF, hL]; decide)⟩,
    List.forall_mem_cons.mpr ⟨⟨_, rfl, xCR_S X (by rw [hI]; exact (semX7_needWithin l hl W9)) gX7_barge_X7_needWithin rfl (by decide +kernel) (by rw [hF, hL]; decide)⟩,
    List.forall_mem_cons.mpr ⟨⟨_, rfl, xCR_V X (by rw [hI]; exact (semJx4a65c_size_8abf5 l hl W9)) gX7_barge_Jx4a65c_size_8abf5 rfl rfl (by decide +kernel) (by rw [hF, hL]; decide)⟩,
    List.forall_mem_cons.mpr ⟨⟨_, rfl, xCR_V X (by rw [hI]; exact (semX4_hasRoom l hl W9)) gX7_barge_X4_hasRoom rfl rfl (by decide +kernel) (by rw [hF, hL]; decide)⟩,
    List.forall_mem_cons.mpr ⟨⟨_, rfl, xCR_S X (by rw [hI]; exact (semX7_needState l hl W9)) gX7_barge_X7_needState rfl (by decide +kernel) (by rw [hF, hL]; decide)⟩,
    List.forall_mem_cons.mpr ⟨⟨_, rfl, xCR_I X (by rw [hI]; exact (semX0_init l hl W9)) gX7_barge_X0_init rfl (by decide +kernel) (by decide +kernel) (by decide +kernel) rfl sprX0_init (by decide +kernel) (by rw [hF, hL]; decide)⟩,
    List.forall_mem_cons.mpr ⟨⟨_, rfl, xCR_V X (by rw [hI]; exact (semJx4a65c_add_9ea2d l hl W9)) gX7_barge_Jx4a65c_add_9ea2d rfl rfl (by decide +kernel) (by rw [hF, hL]; decide)⟩,
    List.forall_mem_cons.mpr ⟨⟨_, rfl, xCR_V X (by rw [hI]; exact (semX4_append l hl W9)) gX7_barge_X4_append rfl rfl (by decide +kernel) (by rw [hF, hL]; decide)⟩,
    List.forall_mem_cons.mpr ⟨⟨_, rfl, xCR_V X (by rw [hI]; exact (semX6_tell l hl W9)) gX7_barge_X6_tell rfl rfl (by decide +kernel) (by rw [hF, hL]; decide)⟩,
    fun _ h => nomatch h⟩⟩⟩⟩⟩⟩⟩⟩⟩

set_option maxHeartbeats 1500000 in
set_option maxRecDepth 20000 in
theorem semX7_barge (l : Launch) (hl : l.stackTraces = false) (W9 : xWd) : xSem l W9 (cI) yX7_barge wsX7_barge 9 212 (spX7_barge W9) := by
  refine xSem_of (call := callX7_barge W9) (thrf := fun _ => "") cI_law (by decide +kernel) rfl ckX7_barge usX7_barge (crX7_barge l hl W9) xThrOK_nil ?_ ?_
  · intro av S KF h
    obtain ⟨a, y, p, t, rfl, h⟩ := h
    exact ⟨by intro v hv; simp only [List.mem_cons, List.not_mem_nil, or_false] at hv; rcases hv with rfl | rfl | rfl | rfl <;> first | rfl | exact cat_rf, Nat.le_of_ble_eq_true rfl⟩
  intro av S KF h G hG
  obtain ⟨a, y, p, t, rfl, h⟩ := h
  rw [show (spX7_barge W9).1 _ S = _ from spcX7_barge] at hG
  try dsimp only at hG
  change G 0 [some (.ref a), some (.int y), some (.int p), some (.int t), none, none] [] S 0 0
  obtain ⟨h0, ⟨⟨h1, h1b⟩, h2⟩, h3, ⟨⟨t1, t2⟩, t3⟩, h4, h5, N, x, u, h6, hbad, hok⟩ := h

  generalize hL : cRf S a 802 = L at *
  generalize hSt : cRf S a 806 = st0 at *
  by_cases w1 : (0 ≤ p ∧ p < 8) ∧ 0 ≤ t ∧ t < 2
  · have q1 : 0 ≤ p * 2 + t ∧ p * 2 + t < cFi S (cRf S a 801) 2 := by rw [t3]; grind
    obtain ⟨g1, g2⟩ := lAll_at t2 q1.1 q1.2
    obtain ⟨⟨r1, r2⟩, r3, r4, r5, r6, r7⟩ := h4 _ (lOk_in t2.1 q1.1 q1.2).2.2
    have hz1 := hok w1
    clear hok
    generalize hR0 : lG S (cRf S a 801) (p * 2 + t).toNatClampNeg = r at *
    have e1 : cRf S r 505 = rL S r := rfl
    rw [e1] at r1 r2
    have r12 : cIn S r 505 1 := ⟨r1, r2⟩
    by_cases w2 : 0 ≤ y ∧ y ≤ 2
    · by_cases w3 : cFi S L 2 < 24 ∧ cFi S (rL S r) 2 < cFi S r 503
      · have hz := ((hz1.2 w2).2 w3)
        have w4 : bi (cFi S (rL S r) 2 < cFi S r 503) = 1 := bi_t w3.2
        have w3b : ((24 : Int32) ≤ cFi S L 2) = False := eq_false (Int32.not_le.mpr w3.1)
        have key : ∀ q, cDead S q → G 45 [some (.ref a), some (.int y), some (.int p), some (.int t), some (.ref r), none] [.ref q] (cNewO S q 1) 6 36 := by
          intro q hq
          have hr := hz q hq
          have la := live_of h0 (by omega)
          have lL := live_of h1b (by omega)
          have lr := live_of g2 (by omega)
          have n1 := ne_dead h0 (by omega) hq
          have n2 := ne_dead h1b (by omega) hq
          have hfr : fr1 S (cBar S q (cFi S L 2) y r) := cBar_fr hq
          have hsm : lSame S (cBar S q (cFi S L 2) y r) L := cBar_same h1b hq
          have hsm2 : lSame S (cBar S q (cFi S L 2) y r) (rL S r) := cBar_same r2 hq
          have hcp := h3.mono hfr hsm
          have hkd := (lAll_kd h2 (Or.inl rfl)).mono hfr hsm
          have hcp2 := r3.mono hfr hsm2
          have hkd2 := r5.mono hfr hsm2
          have hcn := hsm.rd.1
          have hcn2 : lCn (cBar S q (cFi S L 2) y r) (rL S r) = rN S r := hsm2.rd.1
          have har : cRf (cBar S q (cFi S L 2) y r) L 1 = cRf S L 1 := hsm.rd.2.1
          have har2 : cRf (cBar S q (cFi S L 2) y r) (rL S r) 1 = cRf S (rL S r) 1 := hsm2.rd.2.1
          have h12 : lCn S L < 30 := by
            have z := h3.2.1
            have z2 := w3.1
            rw [z, show (24 : Int32) = nI 24 from rfl, lt_nI (by have := h3.2.2.1; omega) (by omega)] at z2
            omega
          have hKq : cK (cBar S q (cFi S L 2) y r) q = 2 := cBar_K
          have hnum : cFi (cBar S q (cFi S L 2) y r) q 100 = cFi S L 2 := by
            unfold cBar
            simp only [cFi_setI, cFi_setR, Nat.reduceEqDiff, and_false, if_false, and_self, if_true]
          have hKa := (hfr.1 a la).trans h0
          have hKL := (hfr.1 L lL).trans h1b
          have hKr := (hfr.1 r lr).trans g2
          have hFa := hfr.2.2.1 a 802 (by omega) la
          have hFr5 := hfr.2.2.1 r 505 (by omega) lr
          have hst1 := h6.mono hfr
          rw [h1] at hFa
          rw [r1] at hFr5
          generalize hS1 : cBar S q (cFi S L 2) y r = S1 at *
          unfold cBar at hS1
          have k70 : ∀ S2, lAdd W9 (cSetI S1 L 0 (cFi S1 L 0 + 1)) L q S2 → G 71 [some (.ref a), some (.int y), some (.int p), some (.int t), some (.ref r), some (.ref q)] [] S2 7 81 := by
            intro S2 hA
            have hr2 := hr _ S2 hA
            have hf2 : fr1 S1 S2 := (fr1_m (L := L) (g := 0) (x := cFi S1 L 0 + 1) (by omega)).trans (fr1_add hA)
            have hlq := live_of hKq (by omega)
            have la1 := live_of hKa (by omega)
            have lr1 := live_of hKr (by omega)
            have hs2 : lSame S1 S2 (rL S r) := by
              refine (same_m (L := rL S r) (q := L) (x := cFi S1 L 0 + 1)).trans (same_add hA (by rw [lCap_m]; exact hcp2) r6 ?_)
              rw [cRf_m, cRf_m, har, har2]
              exact r7
            have hcp3 := hcp2.mono hf2 hs2
            have hkd3 := hkd2.mono hf2 hs2
            have hcn3 : lCn S2 (rL S r) = rN S r := hs2.rd.1.trans hcn2
            have hKq2 := (hf2.1 q hlq).trans hKq
            have hKr2 := (hf2.1 r lr1).trans hKr
            have hKa2 := (hf2.1 a la1).trans hKa
            have hF5 := (hf2.2.2.1 r 505 (by omega) lr1).trans hFr5
            have hrL : rL S2 r = rL S r := by unfold rL cRf; rw [hF5]; exact r1 ▸ rfl
            have hIn : cIn S2 r 505 1 := ⟨by show cFr S2 r 505 = some (rL S2 r); rw [hrL]; exact hF5, by show cK S2 (rL S2 r) = 1; rw [hrL]; exact hcp3.1⟩
            have hnum2 := (hf2.2.1 q 100 (by omega) hlq).trans hnum
            have hst2 := hst1.mono hf2
            have hFs : cFr S2 a 806 = some st0 := ((hfr.trans hf2).2.2.1 a 806 (by omega) la).trans h5
            have hrN : rN S2 r = rN S r := by show lCn S2 (rL S2 r) = _; rw [hrL]; exact hcn3
            have k78 : ∀ S3, lAdd W9 (cSetI S2 (rL S r) 0 (cFi S2 (rL S r) 0 + 1)) (rL S r) q S3 → G 78 [some (.ref a), some (.int y), some (.int p), some (.int t), some (.ref r), some (.ref q)] [] (cSetR S3 q 102 (some r)) 8 126 := by
              intro S3 hB
              have hr3 := hr2 _ S3 hB
              have hf3 : fr1 S2 S3 := (fr1_m (L := rL S r) (g := 0) (x := cFi S2 (rL S r) 0 + 1) (by omega)).trans (fr1_add hB)
              have hlq2 := live_of hKq2 (by omega)
              have la2 := live_of hKa2 (by omega)
              have hKq3 := (hf3.1 q hlq2).trans hKq2
              have hKa3 := (hf3.1 a la2).trans hKa2
              have hFs3 := (hf3.2.2.1 a 806 (by omega) la2).trans hFs
              have hnum3 := (hf3.2.1 q 100 (by omega) hlq2).trans hnum2
              obtain ⟨s0, s1, s2, s3, s4, s5, s6, s7, s8⟩ := hst2.mono hf3
              have hqx : x ≠ q := fun z => by rw [z] at s4; omega
              have hqs : st0 ≠ q := fun z => by rw [z] at s0; omega
              have hst3 : stL (cSetR S3 q 102 (some r)) st0 N x u := ⟨s0, s1, s2, by rw [cFr_setR, if_neg (fun z => hqs z.1)]; exact s3, s4, by
                have e : cRf (cSetR S3 q 102 (some r)) x 400 = cRf S3 x 400 := by unfold cRf; rw [cFr_setR, if_neg (fun z => hqx z.1)]
                exact ⟨by rw [e, cFr_setR, if_neg (fun z => hqx z.1)]; exact s5.1, by rw [e]; exact s5.2⟩, by
                have e : cRf (cSetR S3 q 102 (some r)) x 400 = cRf S3 x 400 := by unfold cRf; rw [cFr_setR, if_neg (fun z => hqx z.1)]
                rw [e]; exact s6, s7, s8⟩
              have hqa : (a = q) = False := eq_false (fun z => by rw [z] at hKa3; omega)
              refine xgo0 hG (fun fu hfu => ?_)
              simp only [↓callX7_barge_0, ↓callX7_barge_1, ↓callX7_barge_2, ↓callX7_barge_3, ↓callX7_barge_4, ↓callX7_barge_5, ↓callX7_barge_6, ↓callX7_barge_7, ↓callX7_barge_8, ↓cg_1_0, ↓cg_8_2, ↓cg_8_6, cisa, ↓cnew, kb_24, kc_24, ki_0, ki_1, ki_2, ↓vm_aload, ↓vm_aload_n, ↓vm_astore, ↓vm_bipush, ↓vm_dup, ↓vm_getfield, ↓vm_goto, ↓vm_iconst, ↓vm_ifCond_eq, ↓vm_if_icmp_ge, ↓vm_iload_n, ↓vm_invokespecial, ↓vm_invokestatic, ↓vm_invokevirtual, ↓vm_ireturn, ↓vm_newO, ↓vm_pop, ↓xc_1, ↓xc_2, ↓xc_3, ↓xc_4, ↓tbX7_barge_0, ↓tbX7_barge_1, ↓tbX7_barge_2, ↓tbX7_barge_3, ↓tbX7_barge_6, ↓tbX7_barge_8, ↓tbX7_barge_9, ↓tbX7_barge_10, ↓tbX7_barge_11, ↓tbX7_barge_14, ↓tbX7_barge_15, ↓tbX7_barge_18, ↓tbX7_barge_21, ↓tbX7_barge_23, ↓tbX7_barge_26, ↓tbX7_barge_28, ↓tbX7_barge_31, ↓tbX7_barge_34, ↓tbX7_barge_35, ↓tbX7_barge_38, ↓tbX7_barge_39, ↓tbX7_barge_42, ↓tbX7_barge_45, ↓tbX7_barge_46, ↓tbX7_barge_47, ↓tbX7_barge_50, ↓tbX7_barge_53, ↓tbX7_barge_54, ↓tbX7_barge_56, ↓tbX7_barge_59, ↓tbX7_barge_61, ↓tbX7_barge_62, ↓tbX7_barge_65, ↓tbX7_barge_67, ↓tbX7_barge_70, ↓tbX7_barge_71, ↓tbX7_barge_73, ↓tbX7_barge_75, ↓tbX7_barge_78, ↓tbX7_barge_79, ↓tbX7_barge_82, ↓tbX7_barge_83, ↓tbX7_barge_85, ↓tbX7_barge_88, ↓tbX7_barge_89, ↓tbX7_barge_92, ↓tbX7_barge_94, ↓tbX7_barge_97, hfu, xstep0, xJ1_hit, xJ1_go, xJ2_hit1, xJ2_hit2, xJ2_go, ↓xif_t, ↓xif_f, seval, ↓xca_eq, ↓xre_l, ↓xre_r, xmask_t, xmask_f, xmask_nil, ↓xst_eq, xX_eq, eI_eq, eMc_eq, eMs_eq, eF_eq, eThr_eq, ↓xS1_mk, ↓xSI_mk, ↓xSR_mk, ↓xLI_0, ↓xLI_s, ↓xLR_0, ↓xLR_s, vRef_ref, vRef_null, vRef_rf, cat_int, cat_ref, cat_null, cat_rf, rf_some, rf_none, rf_null, rf_eq, rf_ref, ref_rf, ref_null, ref_ref, xOk_0, xOk_1, xOk_2r, xOk_2n, xOk_2f, vOpt_rf, vOpt_ref, vOpt_null, List.set_cons_zero, List.set_cons_succ, List.take_succ_cons, List.take_zero, List.drop_succ_cons, List.drop_zero, List.reverse_cons, List.reverse_nil, List.nil_append, List.cons_append, List.append_nil, List.length_cons, List.length_nil, List.map_cons, List.map_nil, List.sum_cons, List.sum_nil, Option.toList_some, Option.toList_none, xRecv_mk, true_and, and_true, true_implies, Nat.reduceAdd, Nat.reduceLeDiff, Nat.zero_le, Nat.le_refl, Nat.add_zero, Nat.zero_add, reduceIte, not_true_eq_false, not_false_eq_true, false_implies, and_self, implies_true, eq_self, Nat.reduceEqDiff, List.cons.injEq, xsn_1, xsn_2, false_and, and_false, or_false, false_or, or_true, true_or, xsn_3, xsn_4, cK_setI, cFi_setI, cFr_setI, cLen_setI, cRi_setI, ↓spwX7_needTier, spcX7_needTier, ↓spwX7_needWithin, spcX7_needWithin, ↓spwJx4a65c_size_8abf5, spcJx4a65c_size_8abf5, ↓spwX4_hasRoom, spcX4_hasRoom, ↓spwX7_needState, spcX7_needState, ↓spwX0_init, spcX0_init, ↓spwJx4a65c_add_9ea2d, spcJx4a65c_add_9ea2d, ↓spwX4_append, spcX4_append, ↓spwX6_tell, spcX6_tell, cK_setR, cFr_setR, cFi_setR, hKa3, hqa, hFs3, hKq3, hnum3, s0]
              try simp only [xif_e]
              refine ⟨N, x, u, hst3, fun S4 hT => ?_⟩
              have hf4 : cK S4 q = 2 ∧ cFi S4 q 100 = cFi S L 2 := by
                rcases hT with ⟨z1, rfl⟩ | ⟨z1, q5, q6, d5, d6, rfl⟩
                · unfold cTl1
                  simp only [cK_setI, cK_ast, cK_setR, cFi_setI, cFi_ast, cFi_setR, Nat.reduceEqDiff, and_false, if_false]
                  exact ⟨hKq3, hnum3⟩
                · unfold cTl2 cPg
                  have e5 : (q = q5) = False := eq_false (fun z => by rw [← z] at d5; exact d5 (by rw [cK_setR, hKq3]; decide))
                  have e6 : (q = q6) = False := eq_false (fun z => by rw [← z] at d6; exact ((dead_nO (by omega)).mp d6).2 (by rw [cK_setR, hKq3]; decide))
                  simp only [cK_setI, cK_ast, cK_setR, cK_newI, cK_newO, cFi_setI, cFi_ast, cFi_setR, cFi_newI, cFi_newO, Nat.reduceEqDiff, and_false, if_false, e5, e6]
                  exact ⟨hKq3, hnum3⟩
              rw [hf4.2]
              exact ⟨hf4.1, hr3 S4 hT⟩
            refine xgo hG (head := 78) (mb := [true, true, true, true, true, true]) (P := fun lv st S9 cs ss => ∃ S3, lAdd W9 (cSetI S2 (rL S r) 0 (cFi S2 (rL S r) 0 + 1)) (rL S r) q S3 ∧ lv = [some (.ref a), some (.int y), some (.int p), some (.int t), some (.ref r), some (.ref q)] ∧ st = [] ∧ S9 = cSetR S3 q 102 (some r) ∧ cs = 8 ∧ ss = 126) (fun lv st S9 cs ss hP => ?_) (fun fu hfu => ?_)
            · obtain ⟨S3, hB, rfl, rfl, rfl, rfl, rfl⟩ := hP
              exact k78 S3 hB
            · simp only [↓callX7_barge_0, ↓callX7_barge_1, ↓callX7_barge_2, ↓callX7_barge_3, ↓callX7_barge_4, ↓callX7_barge_5, ↓callX7_barge_6, ↓callX7_barge_7, ↓callX7_barge_8, ↓cg_1_0, ↓cg_8_2, ↓cg_8_6, cisa, ↓cnew, kb_24, kc_24, ki_0, ki_1, ki_2, ↓vm_aload, ↓vm_aload_n, ↓vm_astore, ↓vm_bipush, ↓vm_dup, ↓vm_getfield, ↓vm_goto, ↓vm_iconst, ↓vm_ifCond_eq, ↓vm_if_icmp_ge, ↓vm_iload_n, ↓vm_invokespecial, ↓vm_invokestatic, ↓vm_invokevirtual, ↓vm_ireturn, ↓vm_newO, ↓vm_pop, ↓xc_1, ↓xc_2, ↓xc_3, ↓xc_4, ↓tbX7_barge_0, ↓tbX7_barge_1, ↓tbX7_barge_2, ↓tbX7_barge_3, ↓tbX7_barge_6, ↓tbX7_barge_8, ↓tbX7_barge_9, ↓tbX7_barge_10, ↓tbX7_barge_11, ↓tbX7_barge_14, ↓tbX7_barge_15, ↓tbX7_barge_18, ↓tbX7_barge_21, ↓tbX7_barge_23, ↓tbX7_barge_26, ↓tbX7_barge_28, ↓tbX7_barge_31, ↓tbX7_barge_34, ↓tbX7_barge_35, ↓tbX7_barge_38, ↓tbX7_barge_39, ↓tbX7_barge_42, ↓tbX7_barge_45, ↓tbX7_barge_46, ↓tbX7_barge_47, ↓tbX7_barge_50, ↓tbX7_barge_53, ↓tbX7_barge_54, ↓tbX7_barge_56, ↓tbX7_barge_59, ↓tbX7_barge_61, ↓tbX7_barge_62, ↓tbX7_barge_65, ↓tbX7_barge_67, ↓tbX7_barge_70, ↓tbX7_barge_71, ↓tbX7_barge_73, ↓tbX7_barge_75, ↓tbX7_barge_78, ↓tbX7_barge_79, ↓tbX7_barge_82, ↓tbX7_barge_83, ↓tbX7_barge_85, ↓tbX7_barge_88, ↓tbX7_barge_89, ↓tbX7_barge_92, ↓tbX7_barge_94, ↓tbX7_barge_97, hfu, xstep0, xJ1_hit, xJ1_go, xJ2_hit1, xJ2_hit2, xJ2_go, ↓xif_t, ↓xif_f, seval, ↓xca_eq, ↓xre_l, ↓xre_r, xmask_t, xmask_f, xmask_nil, ↓xst_eq, xX_eq, eI_eq, eMc_eq, eMs_eq, eF_eq, eThr_eq, ↓xS1_mk, ↓xSI_mk, ↓xSR_mk, ↓xLI_0, ↓xLI_s, ↓xLR_0, ↓xLR_s, vRef_ref, vRef_null, vRef_rf, cat_int, cat_ref, cat_null, cat_rf, rf_some, rf_none, rf_null, rf_eq, rf_ref, ref_rf, ref_null, ref_ref, xOk_0, xOk_1, xOk_2r, xOk_2n, xOk_2f, vOpt_rf, vOpt_ref, vOpt_null, List.set_cons_zero, List.set_cons_succ, List.take_succ_cons, List.take_zero, List.drop_succ_cons, List.drop_zero, List.reverse_cons, List.reverse_nil, List.nil_append, List.cons_append, List.append_nil, List.length_cons, List.length_nil, List.map_cons, List.map_nil, List.sum_cons, List.sum_nil, Option.toList_some, Option.toList_none, xRecv_mk, true_and, and_true, true_implies, Nat.reduceAdd, Nat.reduceLeDiff, Nat.zero_le, Nat.le_refl, Nat.add_zero, Nat.zero_add, reduceIte, not_true_eq_false, not_false_eq_true, false_implies, and_self, implies_true, eq_self, Nat.reduceEqDiff, List.cons.injEq, xsn_1, xsn_2, false_and, and_false, or_false, false_or, or_true, true_or, xsn_3, xsn_4, cK_setI, cFi_setI, cFr_setI, cLen_setI, cRi_setI, ↓spwX7_needTier, spcX7_needTier, ↓spwX7_needWithin, spcX7_needWithin, ↓spwJx4a65c_size_8abf5, spcJx4a65c_size_8abf5, ↓spwX4_hasRoom, spcX4_hasRoom, ↓spwX7_needState, spcX7_needState, ↓spwX0_init, spcX0_init, ↓spwJx4a65c_add_9ea2d, spcJx4a65c_add_9ea2d, ↓spwX4_append, spcX4_append, ↓spwX6_tell, spcX6_tell, hKr2, hIn, hKq2, hrL, hcp3, hrN, r4, hkd3]
              try simp only [xif_e]
              intro S3 hB
              first | exact ⟨S3, hB, rfl⟩ | exact ⟨S3, hB, rfl, rfl⟩ | exact ⟨S3, hB, rfl, rfl, rfl, rfl, rfl⟩
          refine xgo hG (head := 71) (mb := [true, true, true, true, true, true]) (P := fun lv st S2 cs ss => lAdd W9 (cSetI S1 L 0 (cFi S1 L 0 + 1)) L q S2 ∧ lv = [some (.ref a), some (.int y), some (.int p), some (.int t), some (.ref r), some (.ref q)] ∧ st = [] ∧ cs = 7 ∧ ss = 81) (fun lv st S2 cs ss hP => ?_) (fun fu hfu => ?_)
          · obtain ⟨hA, rfl, rfl, rfl, rfl⟩ := hP
            exact k70 S2 hA
          · simp only [↓callX7_barge_0, ↓callX7_barge_1, ↓callX7_barge_2, ↓callX7_barge_3, ↓callX7_barge_4, ↓callX7_barge_5, ↓callX7_barge_6, ↓callX7_barge_7, ↓callX7_barge_8, ↓cg_1_0, ↓cg_8_2, ↓cg_8_6, cisa, ↓cnew, kb_24, kc_24, ki_0, ki_1, ki_2, ↓vm_aload, ↓vm_aload_n, ↓vm_astore, ↓vm_bipush, ↓vm_dup, ↓vm_getfield, ↓vm_goto, ↓vm_iconst, ↓vm_ifCond_eq, ↓vm_if_icmp_ge, ↓vm_iload_n, ↓vm_invokespecial, ↓vm_invokestatic, ↓vm_invokevirtual, ↓vm_ireturn, ↓vm_newO, ↓vm_pop, ↓xc_1, ↓xc_2, ↓xc_3, ↓xc_4, ↓tbX7_barge_0, ↓tbX7_barge_1, ↓tbX7_barge_2, ↓tbX7_barge_3, ↓tbX7_barge_6, ↓tbX7_barge_8, ↓tbX7_barge_9, ↓tbX7_barge_10, ↓tbX7_barge_11, ↓tbX7_barge_14, ↓tbX7_barge_15, ↓tbX7_barge_18, ↓tbX7_barge_21, ↓tbX7_barge_23, ↓tbX7_barge_26, ↓tbX7_barge_28, ↓tbX7_barge_31, ↓tbX7_barge_34, ↓tbX7_barge_35, ↓tbX7_barge_38, ↓tbX7_barge_39, ↓tbX7_barge_42, ↓tbX7_barge_45, ↓tbX7_barge_46, ↓tbX7_barge_47, ↓tbX7_barge_50, ↓tbX7_barge_53, ↓tbX7_barge_54, ↓tbX7_barge_56, ↓tbX7_barge_59, ↓tbX7_barge_61, ↓tbX7_barge_62, ↓tbX7_barge_65, ↓tbX7_barge_67, ↓tbX7_barge_70, ↓tbX7_barge_71, ↓tbX7_barge_73, ↓tbX7_barge_75, ↓tbX7_barge_78, ↓tbX7_barge_79, ↓tbX7_barge_82, ↓tbX7_barge_83, ↓tbX7_barge_85, ↓tbX7_barge_88, ↓tbX7_barge_89, ↓tbX7_barge_92, ↓tbX7_barge_94, ↓tbX7_barge_97, hfu, xstep0, xJ1_hit, xJ1_go, xJ2_hit1, xJ2_hit2, xJ2_go, ↓xif_t, ↓xif_f, seval, ↓xca_eq, ↓xre_l, ↓xre_r, xmask_t, xmask_f, xmask_nil, ↓xst_eq, xX_eq, eI_eq, eMc_eq, eMs_eq, eF_eq, eThr_eq, ↓xS1_mk, ↓xSI_mk, ↓xSR_mk, ↓xLI_0, ↓xLI_s, ↓xLR_0, ↓xLR_s, vRef_ref, vRef_null, vRef_rf, cat_int, cat_ref, cat_null, cat_rf, rf_some, rf_none, rf_null, rf_eq, rf_ref, ref_rf, ref_null, ref_ref, xOk_0, xOk_1, xOk_2r, xOk_2n, xOk_2f, vOpt_rf, vOpt_ref, vOpt_null, List.set_cons_zero, List.set_cons_succ, List.take_succ_cons, List.take_zero, List.drop_succ_cons, List.drop_zero, List.reverse_cons, List.reverse_nil, List.nil_append, List.cons_append, List.append_nil, List.length_cons, List.length_nil, List.map_cons, List.map_nil, List.sum_cons, List.sum_nil, Option.toList_some, Option.toList_none, xRecv_mk, true_and, and_true, true_implies, Nat.reduceAdd, Nat.reduceLeDiff, Nat.zero_le, Nat.le_refl, Nat.add_zero, Nat.zero_add, reduceIte, not_true_eq_false, not_false_eq_true, false_implies, and_self, implies_true, eq_self, Nat.reduceEqDiff, List.cons.injEq, xsn_1, xsn_2, false_and, and_false, or_false, false_or, or_true, true_or, xsn_3, xsn_4, cK_setI, cFi_setI, cFr_setI, cLen_setI, cRi_setI, ↓spwX7_needTier, spcX7_needTier, ↓spwX7_needWithin, spcX7_needWithin, ↓spwJx4a65c_size_8abf5, spcJx4a65c_size_8abf5, ↓spwX4_hasRoom, spcX4_hasRoom, ↓spwX7_needState, spcX7_needState, ↓spwX0_init, spcX0_init, ↓spwJx4a65c_add_9ea2d, spcJx4a65c_add_9ea2d, ↓spwX4_append, spcX4_append, ↓spwX6_tell, spcX6_tell, cK_newO, cFr_newO, cFi_newO, h0, h1, h1b, n1, n2, hS1, hKa, hKL, hFa, hKq, hcp, hcn, h12, hkd]
            try simp only [xif_e]
            intro S2 hA
            first | exact hA | exact ⟨hA, rfl⟩ | exact ⟨hA, rfl, rfl⟩ | exact ⟨hA, rfl, rfl, rfl, rfl⟩
        refine xgo hG (head := 45) (mb := [true, true, true, true, true, false]) (P := fun lv st S1 cs ss => ∃ q, cDead S q ∧ lv = [some (.ref a), some (.int y), some (.int p), some (.int t), some (.ref r), none] ∧ st = [.ref q] ∧ S1 = cNewO S q 1 ∧ cs = 6 ∧ ss = 36) (fun lv st S1 cs ss hP => ?_) (fun fu hfu => ?_)
        · obtain ⟨q, hq, rfl, rfl, rfl, rfl, rfl⟩ := hP
          exact key q hq
        · simp only [↓callX7_barge_0, ↓callX7_barge_1, ↓callX7_barge_2, ↓callX7_barge_3, ↓callX7_barge_4, ↓callX7_barge_5, ↓callX7_barge_6, ↓callX7_barge_7, ↓callX7_barge_8, ↓cg_1_0, ↓cg_8_2, ↓cg_8_6, cisa, ↓cnew, kb_24, kc_24, ki_0, ki_1, ki_2, ↓vm_aload, ↓vm_aload_n, ↓vm_astore, ↓vm_bipush, ↓vm_dup, ↓vm_getfield, ↓vm_goto, ↓vm_iconst, ↓vm_ifCond_eq, ↓vm_if_icmp_ge, ↓vm_iload_n, ↓vm_invokespecial, ↓vm_invokestatic, ↓vm_invokevirtual, ↓vm_ireturn, ↓vm_newO, ↓vm_pop, ↓xc_1, ↓xc_2, ↓xc_3, ↓xc_4, ↓tbX7_barge_0, ↓tbX7_barge_1, ↓tbX7_barge_2, ↓tbX7_barge_3, ↓tbX7_barge_6, ↓tbX7_barge_8, ↓tbX7_barge_9, ↓tbX7_barge_10, ↓tbX7_barge_11, ↓tbX7_barge_14, ↓tbX7_barge_15, ↓tbX7_barge_18, ↓tbX7_barge_21, ↓tbX7_barge_23, ↓tbX7_barge_26, ↓tbX7_barge_28, ↓tbX7_barge_31, ↓tbX7_barge_34, ↓tbX7_barge_35, ↓tbX7_barge_38, ↓tbX7_barge_39, ↓tbX7_barge_42, ↓tbX7_barge_45, ↓tbX7_barge_46, ↓tbX7_barge_47, ↓tbX7_barge_50, ↓tbX7_barge_53, ↓tbX7_barge_54, ↓tbX7_barge_56, ↓tbX7_barge_59, ↓tbX7_barge_61, ↓tbX7_barge_62, ↓tbX7_barge_65, ↓tbX7_barge_67, ↓tbX7_barge_70, ↓tbX7_barge_71, ↓tbX7_barge_73, ↓tbX7_barge_75, ↓tbX7_barge_78, ↓tbX7_barge_79, ↓tbX7_barge_82, ↓tbX7_barge_83, ↓tbX7_barge_85, ↓tbX7_barge_88, ↓tbX7_barge_89, ↓tbX7_barge_92, ↓tbX7_barge_94, ↓tbX7_barge_97, hfu, xstep0, xJ1_hit, xJ1_go, xJ2_hit1, xJ2_hit2, xJ2_go, ↓xif_t, ↓xif_f, seval, ↓xca_eq, ↓xre_l, ↓xre_r, xmask_t, xmask_f, xmask_nil, ↓xst_eq, xX_eq, eI_eq, eMc_eq, eMs_eq, eF_eq, eThr_eq, ↓xS1_mk, ↓xSI_mk, ↓xSR_mk, ↓xLI_0, ↓xLI_s, ↓xLR_0, ↓xLR_s, vRef_ref, vRef_null, vRef_rf, cat_int, cat_ref, cat_null, cat_rf, rf_some, rf_none, rf_null, rf_eq, rf_ref, ref_rf, ref_null, ref_ref, xOk_0, xOk_1, xOk_2r, xOk_2n, xOk_2f, vOpt_rf, vOpt_ref, vOpt_null, List.set_cons_zero, List.set_cons_succ, List.take_succ_cons, List.take_zero, List.drop_succ_cons, List.drop_zero, List.reverse_cons, List.reverse_nil, List.nil_append, List.cons_append, List.append_nil, List.length_cons, List.length_nil, List.map_cons, List.map_nil, List.sum_cons, List.sum_nil, Option.toList_some, Option.toList_none, xRecv_mk, true_and, and_true, true_implies, Nat.reduceAdd, Nat.reduceLeDiff, Nat.zero_le, Nat.le_refl, Nat.add_zero, Nat.zero_add, reduceIte, not_true_eq_false, not_false_eq_true, false_implies, and_self, implies_true, eq_self, Nat.reduceEqDiff, List.cons.injEq, xsn_1, xsn_2, false_and, and_false, or_false, false_or, or_true, true_or, xsn_3, xsn_4, cK_setI, cFi_setI, cFr_setI, cLen_setI, cRi_setI, ↓spwX7_needTier, spcX7_needTier, ↓spwX7_needWithin, spcX7_needWithin, ↓spwJx4a65c_size_8abf5, spcJx4a65c_size_8abf5, ↓spwX4_hasRoom, spcX4_hasRoom, ↓spwX7_needState, spcX7_needState, ↓spwX0_init, spcX0_init, ↓spwJx4a65c_add_9ea2d, spcJx4a65c_add_9ea2d, ↓spwX4_append, spcX4_append, ↓spwX6_tell, spcX6_tell, h0, h1, h1b, t1, t2, t3, hR0, g2, r12, e1, w1, w2, w3b, w4, hL]
          try simp only [xif_e]
          intro q hq
          first | exact ⟨q, hq, rfl⟩ | exact ⟨q, hq, rfl, rfl⟩ | exact ⟨q, hq, rfl, rfl, rfl⟩ | exact ⟨q, hq, rfl, rfl, rfl, rfl, rfl⟩
      · have h := (hz1.2 w2).1 w3
        refine xgo hG (mb := []) (head := 42) (P := fun _ _ _ _ _ => False) (fun _ _ _ _ _ q => q.elim) (pc := 0) (fun fu hfu => ?_)
        simp only [↓callX7_barge_0, ↓callX7_barge_1, ↓callX7_barge_2, ↓callX7_barge_3, ↓callX7_barge_4, ↓callX7_barge_5, ↓callX7_barge_6, ↓callX7_barge_7, ↓callX7_barge_8, ↓cg_1_0, ↓cg_8_2, ↓cg_8_6, cisa, ↓cnew, kb_24, kc_24, ki_0, ki_1, ki_2, ↓vm_aload, ↓vm_aload_n, ↓vm_astore, ↓vm_bipush, ↓vm_dup, ↓vm_getfield, ↓vm_goto, ↓vm_iconst, ↓vm_ifCond_eq, ↓vm_if_icmp_ge, ↓vm_iload_n, ↓vm_invokespecial, ↓vm_invokestatic, ↓vm_invokevirtual, ↓vm_ireturn, ↓vm_newO, ↓vm_pop, ↓xc_1, ↓xc_2, ↓xc_3, ↓xc_4, ↓tbX7_barge_0, ↓tbX7_barge_1, ↓tbX7_barge_2, ↓tbX7_barge_3, ↓tbX7_barge_6, ↓tbX7_barge_8, ↓tbX7_barge_9, ↓tbX7_barge_10, ↓tbX7_barge_11, ↓tbX7_barge_14, ↓tbX7_barge_15, ↓tbX7_barge_18, ↓tbX7_barge_21, ↓tbX7_barge_23, ↓tbX7_barge_26, ↓tbX7_barge_28, ↓tbX7_barge_31, ↓tbX7_barge_34, ↓tbX7_barge_35, ↓tbX7_barge_38, ↓tbX7_barge_39, ↓tbX7_barge_42, ↓tbX7_barge_45, ↓tbX7_barge_46, ↓tbX7_barge_47, ↓tbX7_barge_50, ↓tbX7_barge_53, ↓tbX7_barge_54, ↓tbX7_barge_56, ↓tbX7_barge_59, ↓tbX7_barge_61, ↓tbX7_barge_62, ↓tbX7_barge_65, ↓tbX7_barge_67, ↓tbX7_barge_70, ↓tbX7_barge_71, ↓tbX7_barge_73, ↓tbX7_barge_75, ↓tbX7_barge_78, ↓tbX7_barge_79, ↓tbX7_barge_82, ↓tbX7_barge_83, ↓tbX7_barge_85, ↓tbX7_barge_88, ↓tbX7_barge_89, ↓tbX7_barge_92, ↓tbX7_barge_94, ↓tbX7_barge_97, hfu, xstep0, xJ1_hit, xJ1_go, xJ2_hit1, xJ2_hit2, xJ2_go, ↓xif_t, ↓xif_f, seval, ↓xca_eq, ↓xre_l, ↓xre_r, xmask_t, xmask_f, xmask_nil, ↓xst_eq, xX_eq, eI_eq, eMc_eq, eMs_eq, eF_eq, eThr_eq, ↓xS1_mk, ↓xSI_mk, ↓xSR_mk, ↓xLI_0, ↓xLI_s, ↓xLR_0, ↓xLR_s, vRef_ref, vRef_null, vRef_rf, cat_int, cat_ref, cat_null, cat_rf, rf_some, rf_none, rf_null, rf_eq, rf_ref, ref_rf, ref_null, ref_ref, xOk_0, xOk_1, xOk_2r, xOk_2n, xOk_2f, vOpt_rf, vOpt_ref, vOpt_null, List.set_cons_zero, List.set_cons_succ, List.take_succ_cons, List.take_zero, List.drop_succ_cons, List.drop_zero, List.reverse_cons, List.reverse_nil, List.nil_append, List.cons_append, List.append_nil, List.length_cons, List.length_nil, List.map_cons, List.map_nil, List.sum_cons, List.sum_nil, Option.toList_some, Option.toList_none, xRecv_mk, true_and, and_true, true_implies, Nat.reduceAdd, Nat.reduceLeDiff, Nat.zero_le, Nat.le_refl, Nat.add_zero, Nat.zero_add, reduceIte, not_true_eq_false, not_false_eq_true, false_implies, and_self, implies_true, eq_self, Nat.reduceEqDiff, List.cons.injEq, xsn_1, xsn_2, false_and, and_false, or_false, false_or, or_true, true_or, xsn_3, xsn_4, cK_setI, cFi_setI, cFr_setI, cLen_setI, cRi_setI, ↓spwX7_needTier, spcX7_needTier, ↓spwX7_needWithin, spcX7_needWithin, ↓spwJx4a65c_size_8abf5, spcJx4a65c_size_8abf5, ↓spwX4_hasRoom, spcX4_hasRoom, ↓spwX7_needState, spcX7_needState, ↓spwX0_init, spcX0_init, ↓spwJx4a65c_add_9ea2d, spcJx4a65c_add_9ea2d, ↓spwX4_append, spcX4_append, ↓spwX6_tell, spcX6_tell, h0, h1, h1b, t1, t2, t3, hR0, g2, r12, e1, w1, w2, hL, bi_0]
        try simp only [xif_e]
        repeat' (first | exact h | with_reducible apply And.intro | with_reducible intro _)
        all_goals grind
    · have h := hz1.1 w2
      refine xgo hG (mb := []) (head := 14) (P := fun _ _ _ _ _ => False) (fun _ _ _ _ _ q => q.elim) (pc := 0) (fun fu hfu => ?_)
      simp only [↓callX7_barge_0, ↓callX7_barge_1, ↓callX7_barge_2, ↓callX7_barge_3, ↓callX7_barge_4, ↓callX7_barge_5, ↓callX7_barge_6, ↓callX7_barge_7, ↓callX7_barge_8, ↓cg_1_0, ↓cg_8_2, ↓cg_8_6, cisa, ↓cnew, kb_24, kc_24, ki_0, ki_1, ki_2, ↓vm_aload, ↓vm_aload_n, ↓vm_astore, ↓vm_bipush, ↓vm_dup, ↓vm_getfield, ↓vm_goto, ↓vm_iconst, ↓vm_ifCond_eq, ↓vm_if_icmp_ge, ↓vm_iload_n, ↓vm_invokespecial, ↓vm_invokestatic, ↓vm_invokevirtual, ↓vm_ireturn, ↓vm_newO, ↓vm_pop, ↓xc_1, ↓xc_2, ↓xc_3, ↓xc_4, ↓tbX7_barge_0, ↓tbX7_barge_1, ↓tbX7_barge_2, ↓tbX7_barge_3, ↓tbX7_barge_6, ↓tbX7_barge_8, ↓tbX7_barge_9, ↓tbX7_barge_10, ↓tbX7_barge_11, ↓tbX7_barge_14, ↓tbX7_barge_15, ↓tbX7_barge_18, ↓tbX7_barge_21, ↓tbX7_barge_23, ↓tbX7_barge_26, ↓tbX7_barge_28, ↓tbX7_barge_31, ↓tbX7_barge_34, ↓tbX7_barge_35, ↓tbX7_barge_38, ↓tbX7_barge_39, ↓tbX7_barge_42, ↓tbX7_barge_45, ↓tbX7_barge_46, ↓tbX7_barge_47, ↓tbX7_barge_50, ↓tbX7_barge_53, ↓tbX7_barge_54, ↓tbX7_barge_56, ↓tbX7_barge_59, ↓tbX7_barge_61, ↓tbX7_barge_62, ↓tbX7_barge_65, ↓tbX7_barge_67, ↓tbX7_barge_70, ↓tbX7_barge_71, ↓tbX7_barge_73, ↓tbX7_barge_75, ↓tbX7_barge_78, ↓tbX7_barge_79, ↓tbX7_barge_82, ↓tbX7_barge_83, ↓tbX7_barge_85, ↓tbX7_barge_88, ↓tbX7_barge_89, ↓tbX7_barge_92, ↓tbX7_barge_94, ↓tbX7_barge_97, hfu, xstep0, xJ1_hit, xJ1_go, xJ2_hit1, xJ2_hit2, xJ2_go, ↓xif_t, ↓xif_f, seval, ↓xca_eq, ↓xre_l, ↓xre_r, xmask_t, xmask_f, xmask_nil, ↓xst_eq, xX_eq, eI_eq, eMc_eq, eMs_eq, eF_eq, eThr_eq, ↓xS1_mk, ↓xSI_mk, ↓xSR_mk, ↓xLI_0, ↓xLI_s, ↓xLR_0, ↓xLR_s, vRef_ref, vRef_null, vRef_rf, cat_int, cat_ref, cat_null, cat_rf, rf_some, rf_none, rf_null, rf_eq, rf_ref, ref_rf, ref_null, ref_ref, xOk_0, xOk_1, xOk_2r, xOk_2n, xOk_2f, vOpt_rf, vOpt_ref, vOpt_null, List.set_cons_zero, List.set_cons_succ, List.take_succ_cons, List.take_zero, List.drop_succ_cons, List.drop_zero, List.reverse_cons, List.reverse_nil, List.nil_append, List.cons_append, List.append_nil, List.length_cons, List.length_nil, List.map_cons, List.map_nil, List.sum_cons, List.sum_nil, Option.toList_some, Option.toList_none, xRecv_mk, true_and, and_true, true_implies, Nat.reduceAdd, Nat.reduceLeDiff, Nat.zero_le, Nat.le_refl, Nat.add_zero, Nat.zero_add, reduceIte, not_true_eq_false, not_false_eq_true, false_implies, and_self, implies_true, eq_self, Nat.reduceEqDiff, List.cons.injEq, xsn_1, xsn_2, false_and, and_false, or_false, false_or, or_true, true_or, xsn_3, xsn_4, cK_setI, cFi_setI, cFr_setI, cLen_setI, cRi_setI, ↓spwX7_needTier, spcX7_needTier, ↓spwX7_needWithin, spcX7_needWithin, ↓spwJx4a65c_size_8abf5, spcJx4a65c_size_8abf5, ↓spwX4_hasRoom, spcX4_hasRoom, ↓spwX7_needState, spcX7_needState, ↓spwX0_init, spcX0_init, ↓spwJx4a65c_add_9ea2d, spcJx4a65c_add_9ea2d, ↓spwX4_append, spcX4_append, ↓spwX6_tell, spcX6_tell, h0, t1, t2, t3, hR0, g2, w1, w2]
      try simp only [xif_e]
      first | exact h | grind
  · have h := hbad w1
    refine xgo hG (mb := []) (head := 8) (P := fun _ _ _ _ _ => False) (fun _ _ _ _ _ q => q.elim) (pc := 0) (fun fu hfu => ?_)
    simp only [↓callX7_barge_0, ↓callX7_barge_1, ↓callX7_barge_2, ↓callX7_barge_3, ↓callX7_barge_4, ↓callX7_barge_5, ↓callX7_barge_6, ↓callX7_barge_7, ↓callX7_barge_8, ↓cg_1_0, ↓cg_8_2, ↓cg_8_6, cisa, ↓cnew, kb_24, kc_24, ki_0, ki_1, ki_2, ↓vm_aload, ↓vm_aload_n, ↓vm_astore, ↓vm_bipush, ↓vm_dup, ↓vm_getfield, ↓vm_goto, ↓vm_iconst, ↓vm_ifCond_eq, ↓vm_if_icmp_ge, ↓vm_iload_n, ↓vm_invokespecial, ↓vm_invokestatic, ↓vm_invokevirtual, ↓vm_ireturn, ↓vm_newO, ↓vm_pop, ↓xc_1, ↓xc_2, ↓xc_3, ↓xc_4, ↓tbX7_barge_0, ↓tbX7_barge_1, ↓tbX7_barge_2, ↓tbX7_barge_3, ↓tbX7_barge_6, ↓tbX7_barge_8, ↓tbX7_barge_9, ↓tbX7_barge_10, ↓tbX7_barge_11, ↓tbX7_barge_14, ↓tbX7_barge_15, ↓tbX7_barge_18, ↓tbX7_barge_21, ↓tbX7_barge_23, ↓tbX7_barge_26, ↓tbX7_barge_28, ↓tbX7_barge_31, ↓tbX7_barge_34, ↓tbX7_barge_35, ↓tbX7_barge_38, ↓tbX7_barge_39, ↓tbX7_barge_42, ↓tbX7_barge_45, ↓tbX7_barge_46, ↓tbX7_barge_47, ↓tbX7_barge_50, ↓tbX7_barge_53, ↓tbX7_barge_54, ↓tbX7_barge_56, ↓tbX7_barge_59, ↓tbX7_barge_61, ↓tbX7_barge_62, ↓tbX7_barge_65, ↓tbX7_barge_67, ↓tbX7_barge_70, ↓tbX7_barge_71, ↓tbX7_barge_73, ↓tbX7_barge_75, ↓tbX7_barge_78, ↓tbX7_barge_79, ↓tbX7_barge_82, ↓tbX7_barge_83, ↓tbX7_barge_85, ↓tbX7_barge_88, ↓tbX7_barge_89, ↓tbX7_barge_92, ↓tbX7_barge_94, ↓tbX7_barge_97, hfu, xstep0, xJ1_hit, xJ1_go, xJ2_hit1, xJ2_hit2, xJ2_go, ↓xif_t, ↓xif_f, seval, ↓xca_eq, ↓xre_l, ↓xre_r, xmask_t, xmask_f, xmask_nil, ↓xst_eq, xX_eq, eI_eq, eMc_eq, eMs_eq, eF_eq, eThr_eq, ↓xS1_mk, ↓xSI_mk, ↓xSR_mk, ↓xLI_0, ↓xLI_s, ↓xLR_0, ↓xLR_s, vRef_ref, vRef_null, vRef_rf, cat_int, cat_ref, cat_null, cat_rf, rf_some, rf_none, rf_null, rf_eq, rf_ref, ref_rf, ref_null, ref_ref, xOk_0, xOk_1, xOk_2r, xOk_2n, xOk_2f, vOpt_rf, vOpt_ref, vOpt_null, List.set_cons_zero, List.set_cons_succ, List.take_succ_cons, List.take_zero, List.drop_succ_cons, List.drop_zero, List.reverse_cons, List.reverse_nil, List.nil_append, List.cons_append, List.append_nil, List.length_cons, List.length_nil, List.map_cons, List.map_nil, List.sum_cons, List.sum_nil, Option.toList_some, Option.toList_none, xRecv_mk, true_and, and_true, true_implies, Nat.reduceAdd, Nat.reduceLeDiff, Nat.zero_le, Nat.le_refl, Nat.add_zero, Nat.zero_add, reduceIte, not_true_eq_false, not_false_eq_true, false_implies, and_self, implies_true, eq_self, Nat.reduceEqDiff, List.cons.injEq, xsn_1, xsn_2, false_and, and_false, or_false, false_or, or_true, true_or, xsn_3, xsn_4, cK_setI, cFi_setI, cFr_setI, cLen_setI, cRi_setI, ↓spwX7_needTier, spcX7_needTier, ↓spwX7_needWithin, spcX7_needWithin, ↓spwJx4a65c_size_8abf5, spcJx4a65c_size_8abf5, ↓spwX4_hasRoom, spcX4_hasRoom, ↓spwX7_needState, spcX7_needState, ↓spwX0_init, spcX0_init, ↓spwJx4a65c_add_9ea2d, spcJx4a65c_add_9ea2d, ↓spwX4_append, spcX4_append, ↓spwX6_tell, spcX6_tell, h0, t1, t2, t3, w1]
    try simp only [xif_e]
    first | exact h | grind
