/-! The class: barges coupled, dropped. -/
/-- what telling keeps: all that is no story, page or row of ints -/
theorem tlR_k {S : cS} {a N x u : Nat} {v : Int32} {S2 : cS} (h : tlR S a N x u v S2) (hs : stL S a N x u) {b c : Nat} (hb : cK S b = c) (hc : 1 ≤ c ∧ c ≤ 13 ∧ c ≠ 8 ∧ c ≠ 5 ∧ c ≠ 11) : cK S2 b = c ∧ cFi S2 b = cFi S b ∧ cFr S2 b = cFr S b ∧ cLen S2 b = cLen S b ∧ cRi S2 b = cRi S b ∧ cRr S2 b = cRr S b := by
  obtain ⟨h0, h1, h2, h3, h4, ⟨h5, h6⟩, h7, h8, h9⟩ := hs
  have na : b ≠ a := fun z => by rw [z] at hb; omega
  have nx : b ≠ x := fun z => by rw [z] at hb; omega
  have nd : b ≠ cRf S x 400 := fun z => by rw [z] at hb; omega
  rcases h with ⟨-, rfl⟩ | ⟨-, q, q2, d1, d2, rfl⟩
  · unfold cTl1
    refine ⟨hb, ?_, rfl, rfl, ?_, rfl⟩
    · funext g
      rw [cFi_setI, if_neg (fun z => na z.1), cFi_setI, if_neg (fun z => nx z.1), cFi_ast]
    · funext g
      rw [cRi_setI, cRi_setI, cRi_ast, if_neg (fun z => nd z.1)]
  · have hl := live_of hb (by omega)
    have n1 : b ≠ q := live_ne hl d1
    have n2 : b ≠ q2 := live_ne hl ((dead_nO (by omega)).mp d2).2
    unfold cTl2 cPg
    refine ⟨?_, ?_, ?_, ?_, ?_, rfl⟩
    · rw [cK_setI, cK_setI, cK_ast, cK_setR, cK_setR, cK_setR, cK_newI, if_neg n2, cK_newO, if_neg n1]
      exact hb
    · funext g
      rw [cFi_setI, if_neg (fun z => na z.1), cFi_setI, if_neg (fun z => n1 z.1), cFi_ast, cFi_setR, cFi_setR, cFi_setR, cFi_newI, cFi_newO, if_neg n1]
    · funext g
      rw [cFr_setI, cFr_setI, cFr_ast, cFr_setR, if_neg (fun z => na z.1), cFr_setR, if_neg (fun z => nx z.1), cFr_setR, if_neg (fun z => n1 z.1), cFr_newI, cFr_newO, if_neg n1]
    · rw [cLen_setI, cLen_setI, cLen_ast, cLen_setR, cLen_setR, cLen_setR, cLen_newI, if_neg n2, cLen_newO]
    · funext g
      rw [cRi_setI, cRi_setI, cRi_ast, if_neg (fun z => n2 z.1), cRi_setR, cRi_setR, cRi_setR, cRi_newI, if_neg n2, cRi_newO]
theorem lRem_new {W9 : xWd} {S : cS} {L p : Nat} (hc : lCap W9 S L) (hp : p < lCn S L) : lCap W9 (lRem S L p) L ∧ lCn (lRem S L p) L = lCn S L - 1 ∧ cRf (lRem S L p) L 1 = cRf S L 1 ∧ (∀ i, i < p → lNth (lRem S L p) L i = lNth S L i) ∧ ∀ i, p ≤ i → i < lCn S L - 1 → lNth (lRem S L p) L i = lNth S L (i + 1) := by
  obtain ⟨k1, k2, k3, k4, k5⟩ := hc
  obtain ⟨a1, a2, a3, a4, a5⟩ := k5.resolve_left (fun z => by omega)
  have hs : cFi (lRem S L p) L 2 = nI (lCn S L - 1) := by unfold lRem; rw [cFi_astR, cFi_setI, if_pos ⟨rfl, rfl⟩]
  have hn : lCn (lRem S L p) L = lCn S L - 1 := by
    show (cFi (lRem S L p) L 2).toNatClampNeg = _
    rw [hs, nI_clamp (by omega)]
  have ef : cRf (lRem S L p) L 1 = cRf S L 1 := rfl
  refine ⟨⟨k1, by rw [hn]; exact hs, by omega, k4, Or.inr ⟨a1, a2, by rw [hn]; exact Nat.le_trans (Nat.sub_le _ _) a3, a4, a5⟩⟩, hn, ef, fun i hi => ?_, fun i hi hj => ?_⟩
  · show cRr (lRem S L p) (cRf S L 1) i = cRr S (cRf S L 1) i
    unfold lRem
    rw [cRr_astR, if_neg (fun z => by omega), cRr_setI, cRr_cpy, if_pos rfl, if_neg (fun z => by omega), cRr_setI]
  · show cRr (lRem S L p) (cRf S L 1) i = cRr S (cRf S L 1) (i + 1)
    unfold lRem
    rw [cRr_astR, if_neg (fun z => by omega), cRr_setI, cRr_cpy, if_pos rfl, if_pos ⟨hi, by omega⟩, cRr_setI]
    congr 1
    omega
theorem lRem_same {S : cS} {L L2 p : Nat} (hne : L2 ≠ L) (ha : cRf S L2 1 ≠ cRf S L 1) : lSame S (lRem S L p) L2 := by
  refine ⟨?_, rfl, ?_⟩
  · unfold lRem
    rw [cFi_astR, cFi_setI, if_neg (fun z => hne z.1), cFi_cpy, cFi_setI, if_neg (fun z => hne z.1)]
  · funext i
    unfold lRem
    rw [cRr_astR, if_neg (fun z => ha z.1), cRr_setI, cRr_cpy, if_neg ha, cRr_setI]
theorem spwX4_isDangerous_r {S : cS} {W9 : xWd} {K : xRes → cS → Prop} {a g : Nat} {lo : Int32} : (spX4_isDangerous W9).2 [.ref a, .int lo, .ref g] S K = (rOk S a ∧ (∀ c, some g = some c → cK S c = 2) ∧ (cFi S a 504 = nI (rPc S a) ∧ 0 < rPc S a ∧ rPc S a ≤ 4) ∧ K (rI (bi (rDg S a lo (some g) (rPc S a) (rN S a + 1) = true))) S) := spwX4_isDangerous (more := some g)
theorem spwX4_isDangerous_n {S : cS} {W9 : xWd} {K : xRes → cS → Prop} {a : Nat} {lo : Int32} : (spX4_isDangerous W9).2 [.ref a, .int lo, .null] S K = (rOk S a ∧ (∀ c, (none : Option Nat) = some c → cK S c = 2) ∧ (cFi S a 504 = nI (rPc S a) ∧ 0 < rPc S a ∧ rPc S a ≤ 4) ∧ K (rI (bi (rDg S a lo none (rPc S a) (rN S a + 1) = true))) S) := spwX4_isDangerous (more := none)
theorem lNth_sI {S : cS} {b g L i : Nat} {x : Int32} : lNth (cSetI S b g x) L i = lNth S L i := rfl
theorem lCn_sI {S : cS} {b g L : Nat} {x : Int32} (hg : g ≠ 2) : lCn (cSetI S b g x) L = lCn S L := by unfold lCn; rw [cFi_setI, if_neg (fun z => hg z.2.symm)]
theorem rL_sI {S : cS} {b g a : Nat} {x : Int32} : rL (cSetI S b g x) a = rL S a := rfl
theorem rN_sI {S : cS} {b g a : Nat} {x : Int32} (hg : g ≠ 2) : rN (cSetI S b g x) a = rN S a := lCn_sI hg
theorem rB_sI {S : cS} {b g a k : Nat} {x : Int32} : rB (cSetI S b g x) a k = rB S a k := rfl
theorem rPl_sI {S : cS} {b g a c : Nat} {x : Int32} : ∀ n k, rPl (cSetI S b g x) a c n k = rPl S a c n k
  | 0, _ => rfl
  | n + 1, k => by
    show (if rB (cSetI S b g x) a k = c then nI k else rPl (cSetI S b g x) a c n (k + 1)) = if rB S a k = c then nI k else rPl S a c n (k + 1)
    rw [rPl_sI n (k + 1), rB_sI]
theorem rP_sI {S : cS} {b g a c : Nat} {x : Int32} (hg : g ≠ 2) : rP (cSetI S b g x) a c = rP S a c := by unfold rP; rw [rN_sI hg, rPl_sI]
theorem rHas_sI {S : cS} {b g a c : Nat} {x : Int32} (hg : g ≠ 2) : rHas (cSetI S b g x) a c = rHas S a c := by unfold rHas; rw [rN_sI hg, rPl_sI, rP_sI hg]
theorem lCap_sI {W9 : xWd} {S : cS} {b g L : Nat} {x : Int32} (hg : g ≠ 2) : lCap W9 (cSetI S b g x) L = lCap W9 S L := by
  unfold lCap
  rw [lCn_sI hg, cFi_setI, if_neg (fun z => hg z.2.symm)]
  rfl
theorem rOk_sI {S : cS} {b g a : Nat} {x : Int32} (hg : g ≠ 2) : rOk (cSetI S b g x) a = rOk S a := by
  unfold rOk lOk
  rw [rN_sI hg, rL_sI, lCn_sI hg, cFi_setI, if_neg (fun z => hg z.2.symm)]
  rfl

def tbX7_couple : List (Nat × xHint) := [(0, .aload_n 0, 0, 0, 0, []), (1, .iload_n 1, 1, 0, 0, []), (2, .invokevirtual 219, 0, 2, 8, []), (5, .astore_n 3, 3, 0, 0, []), (6, .aload_n 0, 0, 0, 0, []), (7, .iload_n 2, 2, 0, 0, []), (8, .invokevirtual 153, 1, 2, 8, []), (11, .astore 4, 4, 0, 0, []), (13, .aload_n 3, 3, 0, 0, []), (14, .invokevirtual 223, 2, 1, 2, []), (17, .ifCond .ne 19, 36, 0, 0, []), (20, .aload 4, 4, 0, 0, []), (22, .aload_n 3, 3, 0, 0, []), (23, .getfield 238, 2, 6, 0, []), (26, .invokevirtual 241, 3, 2, 1, []), (29, .ifCond .eq 7, 36, 0, 0, []), (32, .iconst 1, 0, 0, 0, []), (33, .goto 4, 37, 0, 0, []), (36, .iconst 0, 0, 0, 0, []), (37, .invokestatic 77, 4, 1, 0, []), (40, .aload_n 3, 3, 0, 0, []), (41, .getfield 232, 2, 3, 2, []), (44, .invokevirtual 109, 5, 1, 5, []), (47, .ifCond .eq 20, 67, 0, 0, []), (50, .aload_n 3, 3, 0, 0, []), (51, .getfield 232, 2, 3, 2, []), (54, .iconst (-1), 0, 0, 0, []), (55, .aload 4, 4, 0, 0, []), (57, .invokevirtual 244, 6, 3, 5, []), (60, .ifCond .ne 7, 67, 0, 0, []), (63, .iconst 1, 0, 0, 0, []), (64, .goto 4, 68, 0, 0, []), (67, .iconst 0, 0, 0, 0, []), (68, .invokestatic 77, 4, 1, 0, []), (71, .aload 4, 4, 0, 0, []), (73, .getfield 200, 1, 2, 2, []), (76, .aload 4, 4, 0, 0, []), (78, .invokevirtual 248, 7, 2, 5, []), (81, .istore 5, 5, 0, 0, []), (83, .aload 4, 4, 0, 0, []), (85, .getfield 200, 1, 2, 2, []), (88, .aload 4, 4, 0, 0, []), (90, .invokevirtual 252, 8, 2, 5, []), (93, .aload_n 3, 3, 0, 0, []), (94, .getfield 232, 2, 3, 2, []), (97, .aload 4, 4, 0, 0, []), (99, .invokevirtual 118, 9, 2, 5, []), (102, .aload_n 3, 3, 0, 0, []), (103, .dup, 0, 0, 0, []), (104, .getfield 255, 2, 5, 0, []), (107, .iconst 2, 0, 0, 0, []), (108, .iload 5, 5, 0, 0, []), (110, .iadd, 0, 0, 0, []), (111, .iadd, 0, 0, 0, []), (112, .putfield 255, 2, 5, 0, []), (115, .aload_n 0, 0, 0, 0, []), (116, .dup, 0, 0, 0, []), (117, .getfield 258, 8, 11, 0, []), (120, .iload 5, 5, 0, 0, []), (122, .iconst 3, 0, 0, 0, []), (123, .imul, 0, 0, 0, []), (124, .iadd, 0, 0, 0, []), (125, .putfield 258, 8, 11, 0, []), (128, .aload_n 0, 0, 0, 0, []), (129, .getfield 35, 8, 6, 2, []), (132, .iconst 1, 0, 0, 0, []), (133, .aload 4, 4, 0, 0, []), (135, .getfield 122, 1, 0, 0, []), (138, .aload_n 3, 3, 0, 0, []), (139, .getfield 218, 2, 0, 0, []), (142, .invokevirtual 125, 10, 4, 7, []), (145, .aload_n 3, 3, 0, 0, []), (146, .getfield 232, 2, 3, 2, []), (149, .invokevirtual 101, 11, 1, 5, []), (152, .ireturn, 0, 0, 0, [])]
def clX7_couple : List (Instr × Nat × Nat × Nat) := [(.invokevirtual 219, 0, 2, 8), (.invokevirtual 153, 1, 2, 8), (.invokevirtual 223, 2, 1, 2), (.invokevirtual 241, 3, 2, 1), (.invokestatic 77, 4, 1, 0), (.invokevirtual 109, 5, 1, 5), (.invokevirtual 244, 6, 3, 5), (.invokevirtual 248, 7, 2, 5), (.invokevirtual 252, 8, 2, 5), (.invokevirtual 118, 9, 2, 5), (.invokevirtual 125, 10, 4, 7), (.invokevirtual 101, 11, 1, 5)]
def thX7_couple : List (Nat × Nat) := []
theorem ckX7_couple : tbX7_couple.all (xRow RX7 cX7_couple wsX7_couple vwCl [1, 2, 8] clX7_couple thX7_couple 6 (yX7_couple.name == "<init>") (some .int)) = true := xRow_q 0xac6500b6e800b42d7d00b6da00b42d7a00b40419042300b42a0201b560680605150201b4592aff00b56060051505ff00b4592d7600b60419e800b42dfc00b60419c800b404190536f800b60419c800b404194d00b8030400a70407009af400b6041902e800b42d1400996d00b6e800b42d4d00b8030400a704070099f100b6ee00b42d041913009adf00b62d043a9900b61c2a4edb00b61b2a 153 (by decide +kernel) (by decide +kernel)
theorem usX7_couple : xUse wsX7_couple vwCl [1, 2, 8] = true := xUse_g rfl (lw_good lwl_X7_couple lwl_X00 (by decide +kernel)) (xUse_g rfl (lw_good lwl_X7_couple lwl_X10 (by decide +kernel)) (xUse_g rfl (lw_good lwl_X7_couple lwl_X70 (by decide +kernel)) xUse_n))
theorem tbX7_couple_0 {k : Instr → Nat → Nat → Nat → List Nat → Prop} : xse (xFind tbX7_couple 0) k = k (.aload_n 0) 0 0 0 [] := rfl
theorem tbX7_couple_1 {k : Instr → Nat → Nat → Nat → List Nat → Prop} : xse (xFind tbX7_couple 1) k = k (.iload_n 1) 1 0 0 [] := rfl
theorem tbX7_couple_2 {k : Instr → Nat → Nat → Nat → List Nat → Prop} : xse (xFind tbX7_couple 2) k = k (.invokevirtual 219) 0 2 8 [] := rfl
theorem tbX7_couple_5 {k : Instr → Nat → Nat → Nat → List Nat → Prop} : xse (xFind tbX7_couple 5) k = k (.astore_n 3) 3 0 0 [] := rfl
theorem tbX7_couple_6 {k : Instr → Nat → Nat → Nat → List Nat → Prop} : xse (xFind tbX7_couple 6) k = k (.aload_n 0) 0 0 0 [] := rfl
theorem tbX7_couple_7 {k : Instr → Nat → Nat → Nat → List Nat → Prop} : xse (xFind tbX7_couple 7) k = k (.iload_n 2) 2 0 0 [] := rfl
theorem tbX7_couple_8 {k : Instr → Nat → Nat → Nat → List Nat → Prop} : xse (xFind tbX7_couple 8) k = k (.invokevirtual 153) 1 2 8 [] := rfl
theorem tbX7_couple_11 {k : Instr → Nat → Nat → Nat → List Nat → Prop} : xse (xFind tbX7_couple 11) k = k (.astore 4) 4 0 0 [] := rfl
theorem tbX7_couple_13 {k : Instr → Nat → Nat → Nat → List Nat → Prop} : xse (xFind tbX7_couple 13) k = k (.aload_n 3) 3 0 0 [] := rfl
theorem tbX7_couple_14 {k : Instr → Nat → Nat → Nat → List Nat → Prop} : xse (xFind tbX7_couple 14) k = k (.invokevirtual 223) 2 1 2 [] := rfl
theorem tbX7_couple_17 {k : Instr → Nat → Nat → Nat → List Nat → Prop} : xse (xFind tbX7_couple 17) k = k (.ifCond .ne 19) 36 0 0 [] := rfl
theorem tbX7_couple_20 {k : Instr → Nat → Nat → Nat → List Nat → Prop} : xse (xFind tbX7_couple 20) k = k (.aload 4) 4 0 0 [] := rfl
theorem tbX7_couple_22 {k : Instr → Nat → Nat → Nat → List Nat → Prop} : xse (xFind tbX7_couple 22) k = k (.aload_n 3) 3 0 0 [] := rfl
theorem tbX7_couple_23 {k : Instr → Nat → Nat → Nat → List Nat → Prop} : xse (xFind tbX7_couple 23) k = k (.getfield 238) 2 6 0 [] := rfl
theorem tbX7_couple_26 {k : Instr → Nat → Nat → Nat → List Nat → Prop} : xse (xFind tbX7_couple 26) k = k (.invokevirtual 241) 3 2 1 [] := rfl
theorem tbX7_couple_29 {k : Instr → Nat → Nat → Nat → List Nat → Prop} : xse (xFind tbX7_couple 29) k = k (.ifCond .eq 7) 36 0 0 [] := rfl
theorem tbX7_couple_32 {k : Instr → Nat → Nat → Nat → List Nat → Prop} : xse (xFind tbX7_couple 32) k = k (.iconst 1) 0 0 0 [] := rfl
theorem tbX7_couple_33 {k : Instr → Nat → Nat → Nat → List Nat → Prop} : xse (xFind tbX7_couple 33) k = k (.goto 4) 37 0 0 [] := rfl
theorem tbX7_couple_36 {k : Instr → Nat → Nat → Nat → List Nat → Prop} : xse (xFind tbX7_couple 36) k = k (.iconst 0) 0 0 0 [] := rfl
theorem tbX7_couple_37 {k : Instr → Nat → Nat → Nat → List Nat → Prop} : xse (xFind tbX7_couple 37) k = k (.invokestatic 77) 4 1 0 [] := rfl
theorem tbX7_couple_40 {k : Instr → Nat → Nat → Nat → List Nat → Prop} : xse (xFind tbX7_couple 40) k = k (.aload_n 3) 3 0 0 [] := rfl
theorem tbX7_couple_41 {k : Instr → Nat → Nat → Nat → List Nat → Prop} : xse (xFind tbX7_couple 41) k = k (.getfield 232) 2 3 2 [] := rfl
theorem tbX7_couple_44 {k : Instr → Nat → Nat → Nat → List Nat → Prop} : xse (xFind tbX7_couple 44) k = k (.invokevirtual 109) 5 1 5 [] := rfl
theorem tbX7_couple_47 {k : Instr → Nat → Nat → Nat → List Nat → Prop} : xse (xFind tbX7_couple 47) k = k (.ifCond .eq 20) 67 0 0 [] := rfl
theorem tbX7_couple_50 {k : Instr → Nat → Nat → Nat → List Nat → Prop} : xse (xFind tbX7_couple 50) k = k (.aload_n 3) 3 0 0 [] := rfl
theorem tbX7_couple_51 {k : Instr → Nat → Nat → Nat → List Nat → Prop} : xse (xFind tbX7_couple 51) k = k (.getfield 232) 2 3 2 [] := rfl
theorem tbX7_couple_54 {k : Instr → Nat → Nat → Nat → List Nat → Prop} : xse (xFind tbX7_couple 54) k = k (.iconst (-1)) 0 0 0 [] := rfl
theorem tbX7_couple_55 {k : Instr → Nat → Nat → Nat → List Nat → Prop} : xse (xFind tbX7_couple 55) k = k (.aload 4) 4 0 0 [] := rfl
theorem tbX7_couple_57 {k : Instr → Nat → Nat → Nat → List Nat → Prop} : xse (xFind tbX7_couple 57) k = k (.invokevirtual 244) 6 3 5 [] := rfl
theorem tbX7_couple_60 {k : Instr → Nat → Nat → Nat → List Nat → Prop} : xse (xFind tbX7_couple 60) k = k (.ifCond .ne 7) 67 0 0 [] := rfl
theorem tbX7_couple_63 {k : Instr → Nat → Nat → Nat → List Nat → Prop} : xse (xFind tbX7_couple 63) k = k (.iconst 1) 0 0 0 [] := rfl
theorem tbX7_couple_64 {k : Instr → Nat → Nat → Nat → List Nat → Prop} : xse (xFind tbX7_couple 64) k = k (.goto 4) 68 0 0 [] := rfl
theorem tbX7_couple_67 {k : Instr → Nat → Nat → Nat → List Nat → Prop} : xse (xFind tbX7_couple 67) k = k (.iconst 0) 0 0 0 [] := rfl
theorem tbX7_couple_68 {k : Instr → Nat → Nat → Nat → List Nat → Prop} : xse (xFind tbX7_couple 68) k = k (.invokestatic 77) 4 1 0 [] := rfl
theorem tbX7_couple_71 {k : Instr → Nat → Nat → Nat → List Nat → Prop} : xse (xFind tbX7_couple 71) k = k (.aload 4) 4 0 0 [] := rfl
theorem tbX7_couple_73 {k : Instr → Nat → Nat → Nat → List Nat → Prop} : xse (xFind tbX7_couple 73) k = k (.getfield 200) 1 2 2 [] := rfl
theorem tbX7_couple_76 {k : Instr → Nat → Nat → Nat → List Nat → Prop} : xse (xFind tbX7_couple 76) k = k (.aload 4) 4 0 0 [] := rfl
theorem tbX7_couple_78 {k : Instr → Nat → Nat → Nat → List Nat → Prop} : xse (xFind tbX7_couple 78) k = k (.invokevirtual 248) 7 2 5 [] := rfl
theorem tbX7_couple_81 {k : Instr → Nat → Nat → Nat → List Nat → Prop} : xse (xFind tbX7_couple 81) k = k (.istore 5) 5 0 0 [] := rfl
theorem tbX7_couple_83 {k : Instr → Nat → Nat → Nat → List Nat → Prop} : xse (xFind tbX7_couple 83) k = k (.aload 4) 4 0 0 [] := rfl
theorem tbX7_couple_85 {k : Instr → Nat → Nat → Nat → List Nat → Prop} : xse (xFind tbX7_couple 85) k = k (.getfield 200) 1 2 2 [] := rfl
theorem tbX7_couple_88 {k : Instr → Nat → Nat → Nat → List Nat → Prop} : xse (xFind tbX7_couple 88) k = k (.aload 4) 4 0 0 [] := rfl
theorem tbX7_couple_90 {k : Instr → Nat → Nat → Nat → List Nat → Prop} : xse (xFind tbX7_couple 90) k = k (.invokevirtual 252) 8 2 5 [] := rfl
theorem tbX7_couple_93 {k : Instr → Nat → Nat → Nat → List Nat → Prop} : xse (xFind tbX7_couple 93) k = k (.aload_n 3) 3 0 0 [] := rfl
theorem tbX7_couple_94 {k : Instr → Nat → Nat → Nat → List Nat → Prop} : xse (xFind tbX7_couple 94) k = k (.getfield 232) 2 3 2 [] := rfl
theorem tbX7_couple_97 {k : Instr → Nat → Nat → Nat → List Nat → Prop} : xse (xFind tbX7_couple 97) k = k (.aload 4) 4 0 0 [] := rfl
theorem tbX7_couple_99 {k : Instr → Nat → Nat → Nat → List Nat → Prop} : xse (xFind tbX7_couple 99) k = k (.invokevirtual 118) 9 2 5 [] := rfl
theorem tbX7_couple_102 {k : Instr → Nat → Nat → Nat → List Nat → Prop} : xse (xFind tbX7_couple 102) k = k (.aload_n 3) 3 0 0 [] := rfl
theorem tbX7_couple_103 {k : Instr → Nat → Nat → Nat → List Nat → Prop} : xse (xFind tbX7_couple 103) k = k (.dup) 0 0 0 [] := rfl
theorem tbX7_couple_104 {k : Instr → Nat → Nat → Nat → List Nat → Prop} : xse (xFind tbX7_couple 104) k = k (.getfield 255) 2 5 0 [] := rfl
theorem tbX7_couple_107 {k : Instr → Nat → Nat → Nat → List Nat → Prop} : xse (xFind tbX7_couple 107) k = k (.iconst 2) 0 0 0 [] := rfl
theorem tbX7_couple_108 {k : Instr → Nat → Nat → Nat → List Nat → Prop} : xse (xFind tbX7_couple 108) k = k (.iload 5) 5 0 0 [] := rfl
theorem tbX7_couple_110 {k : Instr → Nat → Nat → Nat → List Nat → Prop} : xse (xFind tbX7_couple 110) k = k (.iadd) 0 0 0 [] := rfl
theorem tbX7_couple_111 {k : Instr → Nat → Nat → Nat → List Nat → Prop} : xse (xFind tbX7_couple 111) k = k (.iadd) 0 0 0 [] := rfl
theorem tbX7_couple_112 {k : Instr → Nat → Nat → Nat → List Nat → Prop} : xse (xFind tbX7_couple 112) k = k (.putfield 255) 2 5 0 [] := rfl
theorem tbX7_couple_115 {k : Instr → Nat → Nat → Nat → List Nat → Prop} : xse (xFind tbX7_couple 115) k = k (.aload_n 0) 0 0 0 [] := rfl
theorem tbX7_couple_116 {k : Instr → Nat → Nat → Nat → List Nat → Prop} : xse (xFind tbX7_couple 116) k = k (.dup) 0 0 0 [] := rfl
theorem tbX7_couple_117 {k : Instr → Nat → Nat → Nat → List Nat → Prop} : xse (xFind tbX7_couple 117) k = k (.getfield 258) 8 11 0 [] := rfl
theorem tbX7_couple_120 {k : Instr → Nat → Nat → Nat → List Nat → Prop} : xse (xFind tbX7_couple 120) k = k (.iload 5) 5 0 0 [] := rfl
theorem tbX7_couple_122 {k : Instr → Nat → Nat → Nat → List Nat → Prop} : xse (xFind tbX7_couple 122) k = k (.iconst 3) 0 0 0 [] := rfl
theorem tbX7_couple_123 {k : Instr → Nat → Nat → Nat → List Nat → Prop} : xse (xFind tbX7_couple 123) k = k (.imul) 0 0 0 [] := rfl
theorem tbX7_couple_124 {k : Instr → Nat → Nat → Nat → List Nat → Prop} : xse (xFind tbX7_couple 124) k = k (.iadd) 0 0 0 [] := rfl
theorem tbX7_couple_125 {k : Instr → Nat → Nat → Nat → List Nat → Prop} : xse (xFind tbX7_couple 125) k = k (.putfield 258) 8 11 0 [] := rfl
theorem tbX7_couple_128 {k : Instr → Nat → Nat → Nat → List Nat → Prop} : xse (xFind tbX7_couple 128) k = k (.aload_n 0) 0 0 0 [] := rfl
theorem tbX7_couple_129 {k : Instr → Nat → Nat → Nat → List Nat → Prop} : xse (xFind tbX7_couple 129) k = k (.getfield 35) 8 6 2 [] := rfl
theorem tbX7_couple_132 {k : Instr → Nat → Nat → Nat → List Nat → Prop} : xse (xFind tbX7_couple 132) k = k (.iconst 1) 0 0 0 [] := rfl
theorem tbX7_couple_133 {k : Instr → Nat → Nat → Nat → List Nat → Prop} : xse (xFind tbX7_couple 133) k = k (.aload 4) 4 0 0 [] := rfl
theorem tbX7_couple_135 {k : Instr → Nat → Nat → Nat → List Nat → Prop} : xse (xFind tbX7_couple 135) k = k (.getfield 122) 1 0 0 [] := rfl
theorem tbX7_couple_138 {k : Instr → Nat → Nat → Nat → List Nat → Prop} : xse (xFind tbX7_couple 138) k = k (.aload_n 3) 3 0 0 [] := rfl
theorem tbX7_couple_139 {k : Instr → Nat → Nat → Nat → List Nat → Prop} : xse (xFind tbX7_couple 139) k = k (.getfield 218) 2 0 0 [] := rfl
theorem tbX7_couple_142 {k : Instr → Nat → Nat → Nat → List Nat → Prop} : xse (xFind tbX7_couple 142) k = k (.invokevirtual 125) 10 4 7 [] := rfl
theorem tbX7_couple_145 {k : Instr → Nat → Nat → Nat → List Nat → Prop} : xse (xFind tbX7_couple 145) k = k (.aload_n 3) 3 0 0 [] := rfl
theorem tbX7_couple_146 {k : Instr → Nat → Nat → Nat → List Nat → Prop} : xse (xFind tbX7_couple 146) k = k (.getfield 232) 2 3 2 [] := rfl
theorem tbX7_couple_149 {k : Instr → Nat → Nat → Nat → List Nat → Prop} : xse (xFind tbX7_couple 149) k = k (.invokevirtual 101) 11 1 5 [] := rfl
theorem tbX7_couple_152 {k : Instr → Nat → Nat → Nat → List Nat → Prop} : xse (xFind tbX7_couple 152) k = k (.ireturn) 0 0 0 [] := rfl

def spX7_couple (W9 : xWd) : xSp cS := (fun av S => (7, 136), fun av S K => ∃ (a : Nat) (b : Int32) (c : Int32), av = [.ref a, .int b, .int c] ∧ (cK S a = 9 ∧ (cIn S a 804 1 ∧ lAll S (cRf S a 804) 3) ∧ (cIn S a 802 1 ∧ lAll S (cRf S a 802) 2) ∧ cFr S a 806 = some (cRf S a 806) ∧ ∃ N x u, stL S (cRf S a 806) N x u ∧ (¬ ((0 ≤ b ∧ b < cFi S (cRf S a 804) 2) ∧ 0 ≤ c ∧ c < cFi S (cRf S a 802) 2) → K (rX "java/lang/IndexOutOfBoundsException") S) ∧ ((0 ≤ b ∧ b < cFi S (cRf S a 804) 2) ∧ 0 ≤ c ∧ c < cFi S (cRf S a 802) 2 → (bOk S (lG S (cRf S a 804) b.toNatClampNeg) ∧ gOk S (lG S (cRf S a 802) c.toNatClampNeg) ∧ lCap W9 S (rL S (cRf S (lG S (cRf S a 804) b.toNatClampNeg) 203)) ∧ lCap W9 S (rL S (cRf S (lG S (cRf S a 802) c.toNatClampNeg) 102)) ∧ (cFi S (cRf S (lG S (cRf S a 804) b.toNatClampNeg) 203) 504 = nI (rPc S (cRf S (lG S (cRf S a 804) b.toNatClampNeg) 203)) ∧ 0 < rPc S (cRf S (lG S (cRf S a 804) b.toNatClampNeg) 203) ∧ rPc S (cRf S (lG S (cRf S a 804) b.toNatClampNeg) 203) ≤ 4) ∧ rN S (cRf S (lG S (cRf S a 804) b.toNatClampNeg) 203) < 30 ∧ ((cFi S (lG S (cRf S a 804) b.toNatClampNeg) 207 = -1 ∧ cFi S (cRf S (lG S (cRf S a 802) c.toNatClampNeg) 102) 500 = -1 ∧ cFi S (cRf S (lG S (cRf S a 802) c.toNatClampNeg) 102) 501 = cFi S (lG S (cRf S a 804) b.toNatClampNeg) 206) → ¬ rL S (cRf S (lG S (cRf S a 804) b.toNatClampNeg) 203) = rL S (cRf S (lG S (cRf S a 802) c.toNatClampNeg) 102) ∧ (cRf S (rL S (cRf S (lG S (cRf S a 804) b.toNatClampNeg) 203)) 1 = wE W9 ∨ ¬ cRf S (rL S (cRf S (lG S (cRf S a 804) b.toNatClampNeg) 203)) 1 = cRf S (rL S (cRf S (lG S (cRf S a 802) c.toNatClampNeg) 102)) 1))) ∧ (¬ ((cFi S (lG S (cRf S a 804) b.toNatClampNeg) 207 = -1 ∧ cFi S (cRf S (lG S (cRf S a 802) c.toNatClampNeg) 102) 500 = -1 ∧ cFi S (cRf S (lG S (cRf S a 802) c.toNatClampNeg) 102) 501 = cFi S (lG S (cRf S a 804) b.toNatClampNeg) 206)) → K (rX "java/lang/IllegalStateException") S) ∧ (((cFi S (lG S (cRf S a 804) b.toNatClampNeg) 207 = -1 ∧ cFi S (cRf S (lG S (cRf S a 802) c.toNatClampNeg) 102) 500 = -1 ∧ cFi S (cRf S (lG S (cRf S a 802) c.toNatClampNeg) 102) 501 = cFi S (lG S (cRf S a 804) b.toNatClampNeg) 206)) → (¬ ((nI (rN S (cRf S (lG S (cRf S a 804) b.toNatClampNeg) 203)) < cFi S (cRf S (lG S (cRf S a 804) b.toNatClampNeg) 203) 503 ∧ rDg S (cRf S (lG S (cRf S a 804) b.toNatClampNeg) 203) (-1) (some (lG S (cRf S a 802) c.toNatClampNeg)) (rPc S (cRf S (lG S (cRf S a 804) b.toNatClampNeg) 203)) (rN S (cRf S (lG S (cRf S a 804) b.toNatClampNeg) 203) + 1) = false)) → K (rX "java/lang/IllegalStateException") S) ∧ (((nI (rN S (cRf S (lG S (cRf S a 804) b.toNatClampNeg) 203)) < cFi S (cRf S (lG S (cRf S a 804) b.toNatClampNeg) 203) 503 ∧ rDg S (cRf S (lG S (cRf S a 804) b.toNatClampNeg) 203) (-1) (some (lG S (cRf S a 802) c.toNatClampNeg)) (rPc S (cRf S (lG S (cRf S a 804) b.toNatClampNeg) 203)) (rN S (cRf S (lG S (cRf S a 804) b.toNatClampNeg) 203) + 1) = false)) → ∀ x2 S2, lAdd W9 (cSetI (lRem S (rL S (cRf S (lG S (cRf S a 802) c.toNatClampNeg) 102)) (rP S (cRf S (lG S (cRf S a 802) c.toNatClampNeg) 102) (lG S (cRf S a 802) c.toNatClampNeg))) (rL S (cRf S (lG S (cRf S a 804) b.toNatClampNeg) 203)) 0 x2) (rL S (cRf S (lG S (cRf S a 804) b.toNatClampNeg) 203)) (lG S (cRf S a 802) c.toNatClampNeg) S2 → ∀ S6, tlR (cSetI (cSetI (cSetR S2 (lG S (cRf S a 802) c.toNatClampNeg) 102 (some (cRf S (lG S (cRf S a 804) b.toNatClampNeg) 203))) (lG S (cRf S a 804) b.toNatClampNeg) 205 (cFi S (lG S (cRf S a 804) b.toNatClampNeg) 205 + (2 + rBh S (cRf S (lG S (cRf S a 802) c.toNatClampNeg) 102) (lG S (cRf S a 802) c.toNatClampNeg) 0))) a 811 (cFi S a 811 + rBh S (cRf S (lG S (cRf S a 802) c.toNatClampNeg) 102) (lG S (cRf S a 802) c.toNatClampNeg) 0 * 3)) (cRf S a 806) N x u (cNote 1 (cFi S (lG S (cRf S a 802) c.toNatClampNeg) 100) (cFi S (lG S (cRf S a 804) b.toNatClampNeg) 200)) S6 → K (rI (nI (rN S (cRf S (lG S (cRf S a 804) b.toNatClampNeg) 203) + 1))) S6)))))
theorem spcX7_couple {av : List Value} {S : cS} {W9 : xWd} : (spX7_couple W9).1 av S = (7, 136) := rfl
theorem spwX7_couple {S : cS} {W9 : xWd} {K : xRes → cS → Prop} {a : Nat} {b : Int32} {c : Int32} : (spX7_couple W9).2 [.ref a, .int b, .int c] S K = (cK S a = 9 ∧ (cIn S a 804 1 ∧ lAll S (cRf S a 804) 3) ∧ (cIn S a 802 1 ∧ lAll S (cRf S a 802) 2) ∧ cFr S a 806 = some (cRf S a 806) ∧ ∃ N x u, stL S (cRf S a 806) N x u ∧ (¬ ((0 ≤ b ∧ b < cFi S (cRf S a 804) 2) ∧ 0 ≤ c ∧ c < cFi S (cRf S a 802) 2) → K (rX "java/lang/IndexOutOfBoundsException") S) ∧ ((0 ≤ b ∧ b < cFi S (cRf S a 804) 2) ∧ 0 ≤ c ∧ c < cFi S (cRf S a 802) 2 → (bOk S (lG S (cRf S a 804) b.toNatClampNeg) ∧ gOk S (lG S (cRf S a 802) c.toNatClampNeg) ∧ lCap W9 S (rL S (cRf S (lG S (cRf S a 804) b.toNatClampNeg) 203)) ∧ lCap W9 S (rL S (cRf S (lG S (cRf S a 802) c.toNatClampNeg) 102)) ∧ (cFi S (cRf S (lG S (cRf S a 804) b.toNatClampNeg) 203) 504 = nI (rPc S (cRf S (lG S (cRf S a 804) b.toNatClampNeg) 203)) ∧ 0 < rPc S (cRf S (lG S (cRf S a 804) b.toNatClampNeg) 203) ∧ rPc S (cRf S (lG S (cRf S a 804) b.toNatClampNeg) 203) ≤ 4) ∧ rN S (cRf S (lG S (cRf S a 804) b.toNatClampNeg) 203) < 30 ∧ ((cFi S (lG S (cRf S a 804) b.toNatClampNeg) 207 = -1 ∧ cFi S (cRf S (lG S (cRf S a 802) c.toNatClampNeg) 102) 500 = -1 ∧ cFi S (cRf S (lG S (cRf S a 802) c.toNatClampNeg) 102) 501 = cFi S (lG S (cRf S a 804) b.toNatClampNeg) 206) → ¬ rL S (cRf S (lG S (cRf S a 804) b.toNatClampNeg) 203) = rL S (cRf S (lG S (cRf S a 802) c.toNatClampNeg) 102) ∧ (cRf S (rL S (cRf S (lG S (cRf S a 804) b.toNatClampNeg) 203)) 1 = wE W9 ∨ ¬ cRf S (rL S (cRf S (lG S (cRf S a 804) b.toNatClampNeg) 203)) 1 = cRf S (rL S (cRf S (lG S (cRf S a 802) c.toNatClampNeg) 102)) 1))) ∧ (¬ ((cFi S (lG S (cRf S a 804) b.toNatClampNeg) 207 = -1 ∧ cFi S (cRf S (lG S (cRf S a 802) c.toNatClampNeg) 102) 500 = -1 ∧ cFi S (cRf S (lG S (cRf S a 802) c.toNatClampNeg) 102) 501 = cFi S (lG S (cRf S a 804) b.toNatClampNeg) 206)) → K (rX "java/lang/IllegalStateException") S) ∧ (((cFi S (lG S (cRf S a 804) b.toNatClampNeg) 207 = -1 ∧ cFi S (cRf S (lG S (cRf S a 802) c.toNatClampNeg) 102) 500 = -1 ∧ cFi S (cRf S (lG S (cRf S a 802) c.toNatClampNeg) 102) 501 = cFi S (lG S (cRf S a 804) b.toNatClampNeg) 206)) → (¬ ((nI (rN S (cRf S (lG S (cRf S a 804) b.toNatClampNeg) 203)) < cFi S (cRf S (lG S (cRf S a 804) b.toNatClampNeg) 203) 503 ∧ rDg S (cRf S (lG S (cRf S a 804) b.toNatClampNeg) 203) (-1) (some (lG S (cRf S a 802) c.toNatClampNeg)) (rPc S (cRf S (lG S (cRf S a 804) b.toNatClampNeg) 203)) (rN S (cRf S (lG S (cRf S a 804) b.toNatClampNeg) 203) + 1) = false)) → K (rX "java/lang/IllegalStateException") S) ∧ (((nI (rN S (cRf S (lG S (cRf S a 804) b.toNatClampNeg) 203)) < cFi S (cRf S (lG S (cRf S a 804) b.toNatClampNeg) 203) 503 ∧ rDg S (cRf S (lG S (cRf S a 804) b.toNatClampNeg) 203) (-1) (some (lG S (cRf S a 802) c.toNatClampNeg)) (rPc S (cRf S (lG S (cRf S a 804) b.toNatClampNeg) 203)) (rN S (cRf S (lG S (cRf S a 804) b.toNatClampNeg) 203) + 1) = false)) → ∀ x2 S2, lAdd W9 (cSetI (lRem S (rL S (cRf S (lG S (cRf S a 802) c.toNatClampNeg) 102)) (rP S (cRf S (lG S (cRf S a 802) c.toNatClampNeg) 102) (lG S (cRf S a 802) c.toNatClampNeg))) (rL S (cRf S (lG S (cRf S a 804) b.toNatClampNeg) 203)) 0 x2) (rL S (cRf S (lG S (cRf S a 804) b.toNatClampNeg) 203)) (lG S (cRf S a 802) c.toNatClampNeg) S2 → ∀ S6, tlR (cSetI (cSetI (cSetR S2 (lG S (cRf S a 802) c.toNatClampNeg) 102 (some (cRf S (lG S (cRf S a 804) b.toNatClampNeg) 203))) (lG S (cRf S a 804) b.toNatClampNeg) 205 (cFi S (lG S (cRf S a 804) b.toNatClampNeg) 205 + (2 + rBh S (cRf S (lG S (cRf S a 802) c.toNatClampNeg) 102) (lG S (cRf S a 802) c.toNatClampNeg) 0))) a 811 (cFi S a 811 + rBh S (cRf S (lG S (cRf S a 802) c.toNatClampNeg) 102) (lG S (cRf S a 802) c.toNatClampNeg) 0 * 3)) (cRf S a 806) N x u (cNote 1 (cFi S (lG S (cRf S a 802) c.toNatClampNeg) 100) (cFi S (lG S (cRf S a 804) b.toNatClampNeg) 200)) S6 → K (rI (nI (rN S (cRf S (lG S (cRf S a 804) b.toNatClampNeg) 203) + 1))) S6)))) :=
  propext ⟨fun h => by
    simp only [spX7_couple] at h
    obtain ⟨_, _, _, e, h⟩ := h
    simp only [List.cons.injEq, Value.int.injEq, Value.ref.injEq, rf_eq, and_true, true_and] at e
    obtain ⟨rfl, rfl, rfl⟩ := e
    exact h, fun h => ⟨_, _, _, rfl, h⟩⟩

def callX7_couple (W9 : xWd) : Nat → Option (xSp cS) := fun n => match n with | 0 => some (spX7_needBoat W9) | 1 => some (spX7_needBarge W9) | 2 => some (spX1_isUnderWay W9) | 3 => some (spX0_isTiedAt W9) | 4 => some (spX7_needState W9) | 5 => some (spX4_hasRoom W9) | 6 => some (spX4_isDangerous W9) | 7 => some (spX4_behind W9) | 8 => some (spX4_release W9) | 9 => some (spX4_append W9) | 10 => some (spX6_tell W9) | 11 => some (spX4_size W9) | _ => none

theorem callX7_couple_0 {W9 : xWd} {k : xSp cS → Prop} : xcs (callX7_couple W9 0) k = k (spX7_needBoat W9) := rfl

theorem callX7_couple_1 {W9 : xWd} {k : xSp cS → Prop} : xcs (callX7_couple W9 1) k = k (spX7_needBarge W9) := rfl

theorem callX7_couple_2 {W9 : xWd} {k : xSp cS → Prop} : xcs (callX7_couple W9 2) k = k (spX1_isUnderWay W9) := rfl

theorem callX7_couple_3 {W9 : xWd} {k : xSp cS → Prop} : xcs (callX7_couple W9 3) k = k (spX0_isTiedAt W9) := rfl

theorem callX7_couple_4 {W9 : xWd} {k : xSp cS → Prop} : xcs (callX7_couple W9 4) k = k (spX7_needState W9) := rfl

theorem callX7_couple_5 {W9 : xWd} {k : xSp cS → Prop} : xcs (callX7_couple W9 5) k = k (spX4_hasRoom W9) := rfl

theorem callX7_couple_6 {W9 : xWd} {k : xSp cS → Prop} : xcs (callX7_couple W9 6) k = k (spX4_isDangerous W9) := rfl

theorem callX7_couple_7 {W9 : xWd} {k : xSp cS → Prop} : xcs (callX7_couple W9 7) k = k (spX4_behind W9) := rfl

theorem callX7_couple_8 {W9 : xWd} {k : xSp cS → Prop} : xcs (callX7_couple W9 8) k = k (spX4_release W9) := rfl

theorem callX7_couple_9 {W9 : xWd} {k : xSp cS → Prop} : xcs (callX7_couple W9 9) k = k (spX4_append W9) := rfl

theorem callX7_couple_10 {W9 : xWd} {k : xSp cS → Prop} : xcs (callX7_couple W9 10) k = k (spX6_tell W9) := rfl

theorem callX7_couple_11 {W9 : xWd} {k : xSp cS → Prop} : xcs (callX7_couple W9 11) k = k (spX4_size W9) := rfl

theorem crX7_couple (l : Launch) (hl : l.stackTraces = false) (W9 : xWd) : xCallsOK l W9 (cI) (callX7_couple W9) clX7_couple RX7 wsX7_couple 8 212 6 := by
  intro E A p e R s m args below meth c hI hF hL X
  exact List.forall_mem_cons.mpr ⟨⟨_, rfl, xCR_V X (by rw [hI]; exact (semX7_needBoat l hl W9)) gX7_couple_X7_needBoat rfl rfl (by decide +kernel) (by rw [hF, hL]; decide)⟩,
    List.forall_mem_cons.mpr ⟨⟨_, rfl, xCR_V X (by rw [hI]; exact (semX7_needBarge l hl W9)) gX7_couple_X7_needBarge rfl rfl (by decide +kernel) (by rw [hF, hL]; decide)⟩,
    List.forall_mem_cons.mpr ⟨⟨_, rfl, xCR_V X (by rw [hI]; exact (semX1_isUnderWay l hl W9)) gX7_couple_X1_isUnderWay rfl rfl (by decide +kernel) (by rw [hF, hL]; decide)⟩,
    List.forall_mem_cons.mpr ⟨⟨_, rfl, xCR_V X (by rw [hI]; exact (semX0_isTiedAt l hl W9)) gX7_couple_X0_isTiedAt rfl rfl (by decide +kernel) (by rw [hF, hL]; decide)⟩,
    List.forall_mem_cons.mpr ⟨⟨_, rfl, xCR_S X (by rw [hI]; exact (semX7_needState l hl W9)) gX7_couple_X7_needState rfl (by decide +kernel) (by rw [hF, hL]; decide)⟩,
    List.forall_mem_cons.mpr ⟨⟨_, rfl, xCR_V X (by rw [hI]; exact (semX4_hasRoom l hl W9)) gX7_couple_X4_hasRoom rfl rfl (by decide +kernel) (by rw [hF, hL]; decide)⟩,
    List.forall_mem_cons.mpr ⟨⟨_, rfl, xCR_V X (by rw [hI]; exact (semX4_isDangerous l hl W9)) gX7_couple_X4_isDangerous rfl rfl (by decide +kernel) (by rw [hF, hL]; decide)⟩,
    List.forall_mem_cons.mpr ⟨⟨_, rfl, xCR_V X (by rw [hI]; exact (semX4_behind l hl W9)) gX7_couple_X4_behind rfl rfl (by decide +kernel) (by rw [hF, hL]; decide)⟩,
    List.forall_mem_cons.mpr ⟨⟨_, rfl, xCR_V X (by rw [hI]; exact (semX4_release l hl W9)) gX7_couple_X4_release rfl rfl (by decide +kernel) (by rw [hF, hL]; decide)⟩,
    List.forall_mem_cons.mpr ⟨⟨_, rfl, xCR_V X (by rw [hI]; exact (semX4_append l hl W9)) gX7_couple_X4_append rfl rfl (by decide +kernel) (by rw [hF, hL]; decide)⟩,
    List.forall_mem_cons.mpr ⟨⟨_, rfl, xCR_V X (by rw [hI]; exact (semX6_tell l hl W9)) gX7_couple_X6_tell rfl rfl (by decide +kernel) (by rw [hF, hL]; decide)⟩,
    List.forall_mem_cons.mpr ⟨⟨_, rfl, xCR_V X (by rw [hI]; exact (semX4_size l hl W9)) gX7_couple_X4_size rfl rfl (by decide +kernel) (by rw [hF, hL]; decide)⟩,
    fun _ h => nomatch h⟩⟩⟩⟩⟩⟩⟩⟩⟩⟩⟩⟩

set_option maxHeartbeats 1500000 in
set_option maxRecDepth 20000 in
theorem semX7_couple (l : Launch) (hl : l.stackTraces = false) (W9 : xWd) : xSem l W9 (cI) yX7_couple wsX7_couple 8 212 (spX7_couple W9) := by
  refine xSem_of (call := callX7_couple W9) (thrf := fun _ => "") cI_law (by decide +kernel) rfl ckX7_couple usX7_couple (crX7_couple l hl W9) xThrOK_nil ?_ ?_
  · intro av S KF h
    obtain ⟨a, b, c, rfl, h⟩ := h
    exact ⟨by intro v hv; simp only [List.mem_cons, List.not_mem_nil, or_false] at hv; rcases hv with rfl | rfl | rfl <;> first | rfl | exact cat_rf, Nat.le_of_ble_eq_true rfl⟩
  intro av S KF h G hG
  obtain ⟨a, b, c, rfl, h⟩ := h
  rw [show (spX7_couple W9).1 _ S = _ from spcX7_couple] at hG
  try dsimp only at hG
  change G 0 [some (.ref a), some (.int b), some (.int c), none, none, none] [] S 0 0
  obtain ⟨h0, ⟨⟨h1, h1b⟩, h2⟩, ⟨h3, h4⟩, h5, N, x, u, h6, hbad, hok⟩ := h

  generalize hSt : cRf S a 806 = st0 at *
  have hi1 : cIn S a 804 1 := ⟨h1, h1b⟩
  by_cases q1 : 0 ≤ b ∧ b < cFi S (cRf S a 804) 2
  · by_cases q2 : 0 ≤ c ∧ c < cFi S (cRf S a 802) 2
    · obtain ⟨⟨hB, hGk, hcT, hcR, hpl, h30, hsep⟩, hz⟩ := hok ⟨q1, q2⟩
      clear hok
      obtain ⟨-, g2⟩ := lAll_at h2 q1.1 q1.2
      obtain ⟨-, k2⟩ := lAll_at h4 q2.1 q2.2
      generalize hw0 : lG S (cRf S a 804) b.toNatClampNeg = w at *
      generalize hg0 : lG S (cRf S a 802) c.toNatClampNeg = g at *
      obtain ⟨-, ⟨b2, b2b⟩, b3⟩ := hB
      obtain ⟨⟨r1, r1b⟩, r3, r4, -⟩ := hGk
      generalize hT : cRf S w 203 = tw at *
      generalize hR : cRf S g 102 = ro at *
      obtain ⟨f1, f2, f3, f4, f5, f6⟩ := rOk_facts b3
      have f7 : cIn S tw 505 1 := b3.2.1
      have f8 : cRf S tw 505 = rL S tw := rfl
      have hin : cIn S g 102 6 := ⟨by rw [hR]; exact r1, by rw [hR]; exact r1b⟩
      by_cases w1 : cFi S w 207 = -1 ∧ cFi S ro 500 = -1 ∧ cFi S ro 501 = cFi S w 206
      · obtain ⟨s1, s2⟩ := hsep w1
        have hz1 := hz.2 w1
        clear hz
        have e1 : bi (¬ cFi S w 207 = -1) = 0 := bi_f (fun z => z w1.1)
        have e2 : bi (cFi S ro 500 = -1 ∧ cFi S ro 501 = cFi S w 206) = 1 := bi_t w1.2
        have hm2 : ∀ c, some g = some c → cK S c = 2 := fun c z => by cases z; exact k2
        by_cases w2 : nI (rN S tw) < cFi S tw 503
        · have e3 : bi (nI (rN S tw) < cFi S tw 503) = 1 := bi_t w2
          by_cases w3 : rDg S tw (-1) (some g) (rPc S tw) (rN S tw + 1) = false
          · have hr := hz1.2 ⟨w2, w3⟩
            have e4 : bi (rDg S tw (-1) (some g) (rPc S tw) (rN S tw + 1) = true) = 0 := bi_f (fun z => by rw [w3] at z; cases z)
            generalize hsh : rBh S ro g 0 = sh at *
            have hp := r4.2
            have la := live_of h0 (by omega)
            have lw := live_of g2 (by omega)
            have lg := live_of k2 (by omega)
            have lt := live_of f1 (by omega)
            have hf1 : fr1 S (lRem S (rL S ro) (rP S ro g)) := fr1_rem
            have hs1 : lSame S (lRem S (rL S ro) (rP S ro g)) (rL S tw) := by
              rcases s2 with z | z
              · refine lRem_same s1 (fun y => ?_)
                rcases hcR.2.2.2.2 with v | v
                · have : rP S ro g < lCn S (rL S ro) := hp
                  omega
                · exact v.1 (y.symm.trans z)
              · exact lRem_same s1 z
            have hcT1 := hcT.mono hf1 hs1
            have hkd1 := (rOk_kd b3).mono hf1 hs1
            have hn1 : lCn (lRem S (rL S ro) (rP S ro g)) (rL S tw) = rN S tw := hs1.rd.1
            have K1 := fun b hb => hf1.1 b hb
            generalize hS1 : lRem S (rL S ro) (rP S ro g) = S1 at *
            have ka1 := (hf1.1 a la).trans h0
            have kw1 := (hf1.1 w lw).trans g2
            have kg1 := (hf1.1 g lg).trans k2
            have kt1 := (hf1.1 tw lt).trans f1
            have fw1 := (hf1.2.2.1 w 203 (by omega) lw).trans b2
            have ft1 := (hf1.2.2.1 tw 505 (by omega) lt).trans f2
            have fs1 := (hf1.2.2.1 a 806 (by omega) la).trans h5
            have rl1 : rL S1 tw = rL S tw := by unfold rL cRf; rw [ft1, f2]
            have rn1 : rN S1 tw = rN S tw := by show lCn S1 (rL S1 tw) = _; rw [rl1]; exact hn1
            have in1 : cIn S1 tw 505 1 := ⟨by show cFr S1 tw 505 = some (rL S1 tw); rw [rl1]; exact ft1, by show cK S1 (rL S1 tw) = 1; rw [rl1]; exact hcT1.1⟩
            have k102 : ∀ S2, lAdd W9 (cSetI S1 (rL S tw) 0 (cFi S1 (rL S tw) 0 + 1)) (rL S tw) g S2 → G 102 [some (.ref a), some (.int b), some (.int c), some (.ref w), some (.ref g), some (.int sh)] [] (cSetR S2 g 102 (some tw)) 5 69 := by
              intro S2 hA
              have hr2 := hr _ S2 hA
              have hf2 : fr1 S S2 := hf1.trans ((fr1_m (L := rL S tw) (g := 0) (x := cFi S1 (rL S tw) 0 + 1) (by omega)).trans (fr1_add hA))
              have hnew := lAdd_new hA (by rw [lCap_m]; exact hcT1) (by rw [lCn_m, hn1]; exact h30)
              have ka2 := (hf2.1 a la).trans h0
              have kw2 := (hf2.1 w lw).trans g2
              have kg2 := (hf2.1 g lg).trans k2
              have kt2 := (hf2.1 tw lt).trans f1
              have fw2 := (hf2.2.2.1 w 203 (by omega) lw).trans b2
              have ft2 := (hf2.2.2.1 tw 505 (by omega) lt).trans f2
              have fs2 := (hf2.2.2.1 a 806 (by omega) la).trans h5
              have iw2 := hf2.2.1 w 205 (by omega) lw
              have iw3 := hf2.2.1 w 200 (by omega) lw
              have ig3 := hf2.2.1 g 100 (by omega) lg
              have ia2 := hf2.2.1 a 811 (by omega) la
              have hst := h6.mono hf2
              obtain ⟨y0, y1, y2, y3, y4, y5, y6, y7, y8⟩ := hst
              have nwg : (w = g) = False := eq_false (fun z => by rw [z] at g2; omega)
              have nag : (a = g) = False := eq_false (fun z => by rw [z] at h0; omega)
              have naw : (a = w) = False := eq_false (fun z => by rw [z] at h0; omega)
              have ntg : (tw = g) = False := eq_false (fun z => by rw [z] at f1; omega)
              have nsw : (st0 = w) = False := eq_false (fun z => by rw [z] at y0; omega)
              have nsg : (st0 = g) = False := eq_false (fun z => by rw [z] at y0; omega)
              have nsa : (st0 = a) = False := eq_false (fun z => by rw [z] at y0; omega)
              have nxg : (x = g) = False := eq_false (fun z => by rw [z] at y4; omega)
              have nxw : (x = w) = False := eq_false (fun z => by rw [z] at y4; omega)
              have nxa : (x = a) = False := eq_false (fun z => by rw [z] at y4; omega)
              have e9 : ∀ S9, cFr S9 x 400 = cFr S2 x 400 → cRf S9 x 400 = cRf S2 x 400 := fun S9 z => by unfold cRf; rw [z]
              generalize hS5 : cSetI (cSetI (cSetR S2 g 102 (some tw)) w 205 (cFi S w 205 + (2 + sh))) a 811 (cFi S a 811 + sh * 3) = S5 at *
              have hst5 : stL S5 st0 N x u := by
                rw [← hS5]
                refine ⟨y0, ?_, y2, ?_, y4, ?_, ?_, ?_, y8⟩
                · simp only [cFi_setI, cFi_setR, nsw, nsa, false_and, if_false]; exact y1
                · simp only [cFr_setI, cFr_setR, nsg, false_and, if_false]; exact y3
                · have e : cRf (cSetI (cSetI (cSetR S2 g 102 (some tw)) w 205 (cFi S w 205 + (2 + sh))) a 811 (cFi S a 811 + sh * 3)) x 400 = cRf S2 x 400 := e9 _ (by simp only [cFr_setI, cFr_setR, nxg, false_and, if_false])
                  exact ⟨by rw [e]; simp only [cFr_setI, cFr_setR, nxg, false_and, if_false]; exact y5.1, by rw [e]; exact y5.2⟩
                · have e : cRf (cSetI (cSetI (cSetR S2 g 102 (some tw)) w 205 (cFi S w 205 + (2 + sh))) a 811 (cFi S a 811 + sh * 3)) x 400 = cRf S2 x 400 := e9 _ (by simp only [cFr_setI, cFr_setR, nxg, false_and, if_false])
                  rw [e]; exact y6
                · simp only [cFi_setI, cFi_setR, nxw, nxa, false_and, if_false]; exact y7
              have ks5 : cK S5 st0 = 8 := hst5.1
              have ka5 : cK S5 a = 9 := by rw [← hS5]; exact ka2
              have kw5 : cK S5 w = 3 := by rw [← hS5]; exact kw2
              have kg5 : cK S5 g = 2 := by rw [← hS5]; exact kg2
              have kt5 : cK S5 tw = 6 := by rw [← hS5]; exact kt2
              have fs5 : cFr S5 a 806 = some st0 := by rw [← hS5]; simp only [cFr_setI, cFr_setR, nag, false_and, if_false]; exact fs2
              have ig5 : cFi S5 g 100 = cFi S g 100 := by rw [← hS5]; simp only [cFi_setI, cFi_setR, Nat.reduceEqDiff, and_false, if_false]; exact ig3
              have iw5 : cFi S5 w 200 = cFi S w 200 := by rw [← hS5]; simp only [cFi_setI, cFi_setR, Nat.reduceEqDiff, and_false, if_false]; exact iw3
              have fw5 : cFr S5 w 203 = some tw := by rw [← hS5]; simp only [cFr_setI, cFr_setR, nwg, false_and, if_false]; exact fw2
              have ft5 : cFr S5 tw 505 = some (rL S tw) := by rw [← hS5]; simp only [cFr_setI, cFr_setR, ntg, false_and, if_false]; exact ft2
              have hl5 : cK S5 (rL S tw) = 1 ∧ cFi S5 (rL S tw) 2 = nI (rN S tw + 1) := by
                rw [← hS5]
                refine ⟨hnew.1.1, ?_⟩
                simp only [cFi_setI, cFi_setR, Nat.reduceEqDiff, and_false, if_false]
                have z := hnew.1.2.1
                rw [hnew.2.1, lCn_m, hn1] at z
                exact z
              refine xgo0 hG (fun fu hfu => ?_)
              simp only [↓callX7_couple_0, ↓callX7_couple_1, ↓callX7_couple_10, ↓callX7_couple_11, ↓callX7_couple_2, ↓callX7_couple_3, ↓callX7_couple_4, ↓callX7_couple_5, ↓callX7_couple_6, ↓callX7_couple_7, ↓callX7_couple_8, ↓callX7_couple_9, ↓cg_1_0, ↓cg_1_2, ↓cg_2_0, ↓cg_2_3, ↓cg_2_5, ↓cg_2_6, ↓cg_8_11, ↓cg_8_6, cisa, ↓cp_2_5, ↓cp_8_11, ki_0, ki_1, ki_2, ki_3, ki_m1, ↓vm_aload, ↓vm_aload_n, ↓vm_astore, ↓vm_astore_n, ↓vm_dup, ↓vm_getfield, ↓vm_goto, ↓vm_iadd, ↓vm_iconst, ↓vm_ifCond_eq, ↓vm_ifCond_ne, ↓vm_iload, ↓vm_iload_n, ↓vm_imul, ↓vm_invokestatic, ↓vm_invokevirtual, ↓vm_ireturn, ↓vm_istore, ↓vm_putfield, ↓xc_1, ↓xc_2, ↓xc_3, ↓xc_4, ↓tbX7_couple_0, ↓tbX7_couple_1, ↓tbX7_couple_2, ↓tbX7_couple_5, ↓tbX7_couple_6, ↓tbX7_couple_7, ↓tbX7_couple_8, ↓tbX7_couple_11, ↓tbX7_couple_13, ↓tbX7_couple_14, ↓tbX7_couple_17, ↓tbX7_couple_20, ↓tbX7_couple_22, ↓tbX7_couple_23, ↓tbX7_couple_26, ↓tbX7_couple_29, ↓tbX7_couple_32, ↓tbX7_couple_33, ↓tbX7_couple_36, ↓tbX7_couple_37, ↓tbX7_couple_40, ↓tbX7_couple_41, ↓tbX7_couple_44, ↓tbX7_couple_47, ↓tbX7_couple_50, ↓tbX7_couple_51, ↓tbX7_couple_54, ↓tbX7_couple_55, ↓tbX7_couple_57, ↓tbX7_couple_60, ↓tbX7_couple_63, ↓tbX7_couple_64, ↓tbX7_couple_67, ↓tbX7_couple_68, ↓tbX7_couple_71, ↓tbX7_couple_73, ↓tbX7_couple_76, ↓tbX7_couple_78, ↓tbX7_couple_81, ↓tbX7_couple_83, ↓tbX7_couple_85, ↓tbX7_couple_88, ↓tbX7_couple_90, ↓tbX7_couple_93, ↓tbX7_couple_94, ↓tbX7_couple_97, ↓tbX7_couple_99, ↓tbX7_couple_102, ↓tbX7_couple_103, ↓tbX7_couple_104, ↓tbX7_couple_107, ↓tbX7_couple_108, ↓tbX7_couple_110, ↓tbX7_couple_111, ↓tbX7_couple_112, ↓tbX7_couple_115, ↓tbX7_couple_116, ↓tbX7_couple_117, ↓tbX7_couple_120, ↓tbX7_couple_122, ↓tbX7_couple_123, ↓tbX7_couple_124, ↓tbX7_couple_125, ↓tbX7_couple_128, ↓tbX7_couple_129, ↓tbX7_couple_132, ↓tbX7_couple_133, ↓tbX7_couple_135, ↓tbX7_couple_138, ↓tbX7_couple_139, ↓tbX7_couple_142, ↓tbX7_couple_145, ↓tbX7_couple_146, ↓tbX7_couple_149, ↓tbX7_couple_152, hfu, xstep0, xJ1_hit, xJ1_go, xJ2_hit1, xJ2_hit2, xJ2_go, ↓xif_t, ↓xif_f, seval, ↓xca_eq, ↓xre_l, ↓xre_r, xmask_t, xmask_f, xmask_nil, ↓xst_eq, xX_eq, eI_eq, eMc_eq, eMs_eq, eF_eq, eThr_eq, ↓xS1_mk, ↓xSI_mk, ↓xSR_mk, ↓xLI_0, ↓xLI_s, ↓xLR_0, ↓xLR_s, vRef_ref, vRef_null, vRef_rf, cat_int, cat_ref, cat_null, cat_rf, rf_some, rf_none, rf_null, rf_eq, rf_ref, ref_rf, ref_null, ref_ref, xOk_0, xOk_1, xOk_2r, xOk_2n, xOk_2f, vOpt_rf, vOpt_ref, vOpt_null, List.set_cons_zero, List.set_cons_succ, List.take_succ_cons, List.take_zero, List.drop_succ_cons, List.drop_zero, List.reverse_cons, List.reverse_nil, List.nil_append, List.cons_append, List.append_nil, List.length_cons, List.length_nil, List.map_cons, List.map_nil, List.sum_cons, List.sum_nil, Option.toList_some, Option.toList_none, xRecv_mk, true_and, and_true, true_implies, Nat.reduceAdd, Nat.reduceLeDiff, Nat.zero_le, Nat.le_refl, Nat.add_zero, Nat.zero_add, reduceIte, not_true_eq_false, not_false_eq_true, false_implies, and_self, implies_true, eq_self, Nat.reduceEqDiff, List.cons.injEq, xsn_1, xsn_2, false_and, and_false, or_false, false_or, or_true, true_or, xsn_3, xsn_4, cK_setI, cFi_setI, cFr_setI, cLen_setI, cRi_setI, ↓spwX4_isDangerous_r, ↓spwX7_needBoat, spcX7_needBoat, ↓spwX7_needBarge, spcX7_needBarge, ↓spwX1_isUnderWay, spcX1_isUnderWay, ↓spwX0_isTiedAt, spcX0_isTiedAt, ↓spwX7_needState, spcX7_needState, ↓spwX4_hasRoom, spcX4_hasRoom, ↓spwX4_isDangerous, spcX4_isDangerous, ↓spwX4_behind, spcX4_behind, ↓spwX4_release, spcX4_release, ↓spwX4_append, spcX4_append, ↓spwX6_tell, spcX6_tell, ↓spwX4_size, spcX4_size, cK_setR, cFi_setR, cFr_setR, kw2, nwg, iw2, ka2, nag, naw, ia2, hS5, ka5, fs5, ks5, kg5, ig5, kw5, iw5]
              try simp only [xif_e]
              refine ⟨N, x, u, hst5, fun S6 hT6 => ?_⟩
              obtain ⟨v1, -, v2, -⟩ := tlR_k hT6 hst5 kw5 (by omega)
              obtain ⟨v3, -, v4, -⟩ := tlR_k hT6 hst5 kt5 (by omega)
              obtain ⟨v5, v6, -⟩ := tlR_k hT6 hst5 hl5.1 (by omega)
              have v2 : cFr S6 w 203 = some tw := (congrFun v2 203).trans fw5
              have v4 : cFr S6 tw 505 = some (rL S tw) := (congrFun v4 505).trans ft5
              have v6 : cFi S6 (rL S tw) 2 = nI (rN S tw + 1) := (congrFun v6 2).trans hl5.2
              have v7 : cRf S6 tw 505 = rL S tw := by unfold cRf; rw [v4]; rfl
              have v8 : cIn S6 tw 505 1 := ⟨by rw [v7]; exact v4, by rw [v7]; exact v5⟩
              simp only [v1, v2, v3, v7, v8, v6, rf_some, xRecv_mk, cisa (show 5 ≤ 9 by omega), Nat.reduceAdd, eq_self, or_true, true_and, xSR_mk, ↓spwX4_size, ↓xre_l, Option.toList_some, ↓xSI_mk]
              exact hr2 S6 hT6
            refine xgo hG (head := 102) (mb := [true, true, true, true, true, true]) (P := fun lv st S9 cs ss => ∃ S2, lAdd W9 (cSetI S1 (rL S tw) 0 (cFi S1 (rL S tw) 0 + 1)) (rL S tw) g S2 ∧ lv = [some (.ref a), some (.int b), some (.int c), some (.ref w), some (.ref g), some (.int sh)] ∧ st = [] ∧ S9 = cSetR S2 g 102 (some tw) ∧ cs = 5 ∧ ss = 69) (fun lv st S9 cs ss hP => ?_) (fun fu hfu => ?_)
            · obtain ⟨S2, hA, rfl, rfl, rfl, rfl, rfl⟩ := hP
              exact k102 S2 hA
            · simp only [↓callX7_couple_0, ↓callX7_couple_1, ↓callX7_couple_10, ↓callX7_couple_11, ↓callX7_couple_2, ↓callX7_couple_3, ↓callX7_couple_4, ↓callX7_couple_5, ↓callX7_couple_6, ↓callX7_couple_7, ↓callX7_couple_8, ↓callX7_couple_9, ↓cg_1_0, ↓cg_1_2, ↓cg_2_0, ↓cg_2_3, ↓cg_2_5, ↓cg_2_6, ↓cg_8_11, ↓cg_8_6, cisa, ↓cp_2_5, ↓cp_8_11, ki_0, ki_1, ki_2, ki_3, ki_m1, ↓vm_aload, ↓vm_aload_n, ↓vm_astore, ↓vm_astore_n, ↓vm_dup, ↓vm_getfield, ↓vm_goto, ↓vm_iadd, ↓vm_iconst, ↓vm_ifCond_eq, ↓vm_ifCond_ne, ↓vm_iload, ↓vm_iload_n, ↓vm_imul, ↓vm_invokestatic, ↓vm_invokevirtual, ↓vm_ireturn, ↓vm_istore, ↓vm_putfield, ↓xc_1, ↓xc_2, ↓xc_3, ↓xc_4, ↓tbX7_couple_0, ↓tbX7_couple_1, ↓tbX7_couple_2, ↓tbX7_couple_5, ↓tbX7_couple_6, ↓tbX7_couple_7, ↓tbX7_couple_8, ↓tbX7_couple_11, ↓tbX7_couple_13, ↓tbX7_couple_14, ↓tbX7_couple_17, ↓tbX7_couple_20, ↓tbX7_couple_22, ↓tbX7_couple_23, ↓tbX7_couple_26, ↓tbX7_couple_29, ↓tbX7_couple_32, ↓tbX7_couple_33, ↓tbX7_couple_36, ↓tbX7_couple_37, ↓tbX7_couple_40, ↓tbX7_couple_41, ↓tbX7_couple_44, ↓tbX7_couple_47, ↓tbX7_couple_50, ↓tbX7_couple_51, ↓tbX7_couple_54, ↓tbX7_couple_55, ↓tbX7_couple_57, ↓tbX7_couple_60, ↓tbX7_couple_63, ↓tbX7_couple_64, ↓tbX7_couple_67, ↓tbX7_couple_68, ↓tbX7_couple_71, ↓tbX7_couple_73, ↓tbX7_couple_76, ↓tbX7_couple_78, ↓tbX7_couple_81, ↓tbX7_couple_83, ↓tbX7_couple_85, ↓tbX7_couple_88, ↓tbX7_couple_90, ↓tbX7_couple_93, ↓tbX7_couple_94, ↓tbX7_couple_97, ↓tbX7_couple_99, ↓tbX7_couple_102, ↓tbX7_couple_103, ↓tbX7_couple_104, ↓tbX7_couple_107, ↓tbX7_couple_108, ↓tbX7_couple_110, ↓tbX7_couple_111, ↓tbX7_couple_112, ↓tbX7_couple_115, ↓tbX7_couple_116, ↓tbX7_couple_117, ↓tbX7_couple_120, ↓tbX7_couple_122, ↓tbX7_couple_123, ↓tbX7_couple_124, ↓tbX7_couple_125, ↓tbX7_couple_128, ↓tbX7_couple_129, ↓tbX7_couple_132, ↓tbX7_couple_133, ↓tbX7_couple_135, ↓tbX7_couple_138, ↓tbX7_couple_139, ↓tbX7_couple_142, ↓tbX7_couple_145, ↓tbX7_couple_146, ↓tbX7_couple_149, ↓tbX7_couple_152, hfu, xstep0, xJ1_hit, xJ1_go, xJ2_hit1, xJ2_hit2, xJ2_go, ↓xif_t, ↓xif_f, seval, ↓xca_eq, ↓xre_l, ↓xre_r, xmask_t, xmask_f, xmask_nil, ↓xst_eq, xX_eq, eI_eq, eMc_eq, eMs_eq, eF_eq, eThr_eq, ↓xS1_mk, ↓xSI_mk, ↓xSR_mk, ↓xLI_0, ↓xLI_s, ↓xLR_0, ↓xLR_s, vRef_ref, vRef_null, vRef_rf, cat_int, cat_ref, cat_null, cat_rf, rf_some, rf_none, rf_null, rf_eq, rf_ref, ref_rf, ref_null, ref_ref, xOk_0, xOk_1, xOk_2r, xOk_2n, xOk_2f, vOpt_rf, vOpt_ref, vOpt_null, List.set_cons_zero, List.set_cons_succ, List.take_succ_cons, List.take_zero, List.drop_succ_cons, List.drop_zero, List.reverse_cons, List.reverse_nil, List.nil_append, List.cons_append, List.append_nil, List.length_cons, List.length_nil, List.map_cons, List.map_nil, List.sum_cons, List.sum_nil, Option.toList_some, Option.toList_none, xRecv_mk, true_and, and_true, true_implies, Nat.reduceAdd, Nat.reduceLeDiff, Nat.zero_le, Nat.le_refl, Nat.add_zero, Nat.zero_add, reduceIte, not_true_eq_false, not_false_eq_true, false_implies, and_self, implies_true, eq_self, Nat.reduceEqDiff, List.cons.injEq, xsn_1, xsn_2, false_and, and_false, or_false, false_or, or_true, true_or, xsn_3, xsn_4, cK_setI, cFi_setI, cFr_setI, cLen_setI, cRi_setI, ↓spwX4_isDangerous_r, ↓spwX7_needBoat, spcX7_needBoat, ↓spwX7_needBarge, spcX7_needBarge, ↓spwX1_isUnderWay, spcX1_isUnderWay, ↓spwX0_isTiedAt, spcX0_isTiedAt, ↓spwX7_needState, spcX7_needState, ↓spwX4_hasRoom, spcX4_hasRoom, ↓spwX4_isDangerous, spcX4_isDangerous, ↓spwX4_behind, spcX4_behind, ↓spwX4_release, spcX4_release, ↓spwX4_append, spcX4_append, ↓spwX6_tell, spcX6_tell, ↓spwX4_size, spcX4_size, h0, hi1, h2, h3, h4, q1, q2, hw0, hg0, g2, k2, b2, b2b, b3, hT, r1, r1b, r3, r4, hR, hin, f1, f2, f3, f4, f5, f7, f8, hpl, hm2, e1, e2, e3, e4, hsh, hcR, hS1, kw1, fw1, kt1, in1, kg1, rl1, rn1, hcT1, h30, hkd1]
              try simp only [xif_e]
              refine ⟨hm2, ?_⟩
              intro S2 hA
              first | exact ⟨S2, hA, rfl⟩ | exact ⟨S2, hA, rfl, rfl⟩ | exact ⟨S2, hA, rfl, rfl, rfl, rfl, rfl⟩
          · have h := hz1.1 (fun z => w3 z.2)
            have e4 : bi (rDg S tw (-1) (some g) (rPc S tw) (rN S tw + 1) = true) = 1 := bi_t (by cases hh : rDg S tw (-1) (some g) (rPc S tw) (rN S tw + 1); exact absurd hh w3; rfl)
            refine xgo hG (mb := []) (head := 71) (P := fun _ _ _ _ _ => False) (fun _ _ _ _ _ q => q.elim) (pc := 0) (fun fu hfu => ?_)
            simp only [↓callX7_couple_0, ↓callX7_couple_1, ↓callX7_couple_10, ↓callX7_couple_11, ↓callX7_couple_2, ↓callX7_couple_3, ↓callX7_couple_4, ↓callX7_couple_5, ↓callX7_couple_6, ↓callX7_couple_7, ↓callX7_couple_8, ↓callX7_couple_9, ↓cg_1_0, ↓cg_1_2, ↓cg_2_0, ↓cg_2_3, ↓cg_2_5, ↓cg_2_6, ↓cg_8_11, ↓cg_8_6, cisa, ↓cp_2_5, ↓cp_8_11, ki_0, ki_1, ki_2, ki_3, ki_m1, ↓vm_aload, ↓vm_aload_n, ↓vm_astore, ↓vm_astore_n, ↓vm_dup, ↓vm_getfield, ↓vm_goto, ↓vm_iadd, ↓vm_iconst, ↓vm_ifCond_eq, ↓vm_ifCond_ne, ↓vm_iload, ↓vm_iload_n, ↓vm_imul, ↓vm_invokestatic, ↓vm_invokevirtual, ↓vm_ireturn, ↓vm_istore, ↓vm_putfield, ↓xc_1, ↓xc_2, ↓xc_3, ↓xc_4, ↓tbX7_couple_0, ↓tbX7_couple_1, ↓tbX7_couple_2, ↓tbX7_couple_5, ↓tbX7_couple_6, ↓tbX7_couple_7, ↓tbX7_couple_8, ↓tbX7_couple_11, ↓tbX7_couple_13, ↓tbX7_couple_14, ↓tbX7_couple_17, ↓tbX7_couple_20, ↓tbX7_couple_22, ↓tbX7_couple_23, ↓tbX7_couple_26, ↓tbX7_couple_29, ↓tbX7_couple_32, ↓tbX7_couple_33, ↓tbX7_couple_36, ↓tbX7_couple_37, ↓tbX7_couple_40, ↓tbX7_couple_41, ↓tbX7_couple_44, ↓tbX7_couple_47, ↓tbX7_couple_50, ↓tbX7_couple_51, ↓tbX7_couple_54, ↓tbX7_couple_55, ↓tbX7_couple_57, ↓tbX7_couple_60, ↓tbX7_couple_63, ↓tbX7_couple_64, ↓tbX7_couple_67, ↓tbX7_couple_68, ↓tbX7_couple_71, ↓tbX7_couple_73, ↓tbX7_couple_76, ↓tbX7_couple_78, ↓tbX7_couple_81, ↓tbX7_couple_83, ↓tbX7_couple_85, ↓tbX7_couple_88, ↓tbX7_couple_90, ↓tbX7_couple_93, ↓tbX7_couple_94, ↓tbX7_couple_97, ↓tbX7_couple_99, ↓tbX7_couple_102, ↓tbX7_couple_103, ↓tbX7_couple_104, ↓tbX7_couple_107, ↓tbX7_couple_108, ↓tbX7_couple_110, ↓tbX7_couple_111, ↓tbX7_couple_112, ↓tbX7_couple_115, ↓tbX7_couple_116, ↓tbX7_couple_117, ↓tbX7_couple_120, ↓tbX7_couple_122, ↓tbX7_couple_123, ↓tbX7_couple_124, ↓tbX7_couple_125, ↓tbX7_couple_128, ↓tbX7_couple_129, ↓tbX7_couple_132, ↓tbX7_couple_133, ↓tbX7_couple_135, ↓tbX7_couple_138, ↓tbX7_couple_139, ↓tbX7_couple_142, ↓tbX7_couple_145, ↓tbX7_couple_146, ↓tbX7_couple_149, ↓tbX7_couple_152, hfu, xstep0, xJ1_hit, xJ1_go, xJ2_hit1, xJ2_hit2, xJ2_go, ↓xif_t, ↓xif_f, seval, ↓xca_eq, ↓xre_l, ↓xre_r, xmask_t, xmask_f, xmask_nil, ↓xst_eq, xX_eq, eI_eq, eMc_eq, eMs_eq, eF_eq, eThr_eq, ↓xS1_mk, ↓xSI_mk, ↓xSR_mk, ↓xLI_0, ↓xLI_s, ↓xLR_0, ↓xLR_s, vRef_ref, vRef_null, vRef_rf, cat_int, cat_ref, cat_null, cat_rf, rf_some, rf_none, rf_null, rf_eq, rf_ref, ref_rf, ref_null, ref_ref, xOk_0, xOk_1, xOk_2r, xOk_2n, xOk_2f, vOpt_rf, vOpt_ref, vOpt_null, List.set_cons_zero, List.set_cons_succ, List.take_succ_cons, List.take_zero, List.drop_succ_cons, List.drop_zero, List.reverse_cons, List.reverse_nil, List.nil_append, List.cons_append, List.append_nil, List.length_cons, List.length_nil, List.map_cons, List.map_nil, List.sum_cons, List.sum_nil, Option.toList_some, Option.toList_none, xRecv_mk, true_and, and_true, true_implies, Nat.reduceAdd, Nat.reduceLeDiff, Nat.zero_le, Nat.le_refl, Nat.add_zero, Nat.zero_add, reduceIte, not_true_eq_false, not_false_eq_true, false_implies, and_self, implies_true, eq_self, Nat.reduceEqDiff, List.cons.injEq, xsn_1, xsn_2, false_and, and_false, or_false, false_or, or_true, true_or, xsn_3, xsn_4, cK_setI, cFi_setI, cFr_setI, cLen_setI, cRi_setI, ↓spwX4_isDangerous_r, ↓spwX7_needBoat, spcX7_needBoat, ↓spwX7_needBarge, spcX7_needBarge, ↓spwX1_isUnderWay, spcX1_isUnderWay, ↓spwX0_isTiedAt, spcX0_isTiedAt, ↓spwX7_needState, spcX7_needState, ↓spwX4_hasRoom, spcX4_hasRoom, ↓spwX4_isDangerous, spcX4_isDangerous, ↓spwX4_behind, spcX4_behind, ↓spwX4_release, spcX4_release, ↓spwX4_append, spcX4_append, ↓spwX6_tell, spcX6_tell, ↓spwX4_size, spcX4_size, h0, hi1, h2, h3, h4, q1, q2, hw0, hg0, g2, k2, b2, b2b, b3, hT, r1, r1b, r3, r4, hR, hin, f1, f2, f3, f4, f5, f7, f8, hpl, hm2, e1, e2, e3, e4]
            try simp only [xif_e]
            first | exact h | grind
        · have h := hz1.1 (fun z => w2 z.1)
          have e3 : bi (nI (rN S tw) < cFi S tw 503) = 0 := bi_f w2
          refine xgo hG (mb := []) (head := 71) (P := fun _ _ _ _ _ => False) (fun _ _ _ _ _ q => q.elim) (pc := 0) (fun fu hfu => ?_)
          simp only [↓callX7_couple_0, ↓callX7_couple_1, ↓callX7_couple_10, ↓callX7_couple_11, ↓callX7_couple_2, ↓callX7_couple_3, ↓callX7_couple_4, ↓callX7_couple_5, ↓callX7_couple_6, ↓callX7_couple_7, ↓callX7_couple_8, ↓callX7_couple_9, ↓cg_1_0, ↓cg_1_2, ↓cg_2_0, ↓cg_2_3, ↓cg_2_5, ↓cg_2_6, ↓cg_8_11, ↓cg_8_6, cisa, ↓cp_2_5, ↓cp_8_11, ki_0, ki_1, ki_2, ki_3, ki_m1, ↓vm_aload, ↓vm_aload_n, ↓vm_astore, ↓vm_astore_n, ↓vm_dup, ↓vm_getfield, ↓vm_goto, ↓vm_iadd, ↓vm_iconst, ↓vm_ifCond_eq, ↓vm_ifCond_ne, ↓vm_iload, ↓vm_iload_n, ↓vm_imul, ↓vm_invokestatic, ↓vm_invokevirtual, ↓vm_ireturn, ↓vm_istore, ↓vm_putfield, ↓xc_1, ↓xc_2, ↓xc_3, ↓xc_4, ↓tbX7_couple_0, ↓tbX7_couple_1, ↓tbX7_couple_2, ↓tbX7_couple_5, ↓tbX7_couple_6, ↓tbX7_couple_7, ↓tbX7_couple_8, ↓tbX7_couple_11, ↓tbX7_couple_13, ↓tbX7_couple_14, ↓tbX7_couple_17, ↓tbX7_couple_20, ↓tbX7_couple_22, ↓tbX7_couple_23, ↓tbX7_couple_26, ↓tbX7_couple_29, ↓tbX7_couple_32, ↓tbX7_couple_33, ↓tbX7_couple_36, ↓tbX7_couple_37, ↓tbX7_couple_40, ↓tbX7_couple_41, ↓tbX7_couple_44, ↓tbX7_couple_47, ↓tbX7_couple_50, ↓tbX7_couple_51, ↓tbX7_couple_54, ↓tbX7_couple_55, ↓tbX7_couple_57, ↓tbX7_couple_60, ↓tbX7_couple_63, ↓tbX7_couple_64, ↓tbX7_couple_67, ↓tbX7_couple_68, ↓tbX7_couple_71, ↓tbX7_couple_73, ↓tbX7_couple_76, ↓tbX7_couple_78, ↓tbX7_couple_81, ↓tbX7_couple_83, ↓tbX7_couple_85, ↓tbX7_couple_88, ↓tbX7_couple_90, ↓tbX7_couple_93, ↓tbX7_couple_94, ↓tbX7_couple_97, ↓tbX7_couple_99, ↓tbX7_couple_102, ↓tbX7_couple_103, ↓tbX7_couple_104, ↓tbX7_couple_107, ↓tbX7_couple_108, ↓tbX7_couple_110, ↓tbX7_couple_111, ↓tbX7_couple_112, ↓tbX7_couple_115, ↓tbX7_couple_116, ↓tbX7_couple_117, ↓tbX7_couple_120, ↓tbX7_couple_122, ↓tbX7_couple_123, ↓tbX7_couple_124, ↓tbX7_couple_125, ↓tbX7_couple_128, ↓tbX7_couple_129, ↓tbX7_couple_132, ↓tbX7_couple_133, ↓tbX7_couple_135, ↓tbX7_couple_138, ↓tbX7_couple_139, ↓tbX7_couple_142, ↓tbX7_couple_145, ↓tbX7_couple_146, ↓tbX7_couple_149, ↓tbX7_couple_152, hfu, xstep0, xJ1_hit, xJ1_go, xJ2_hit1, xJ2_hit2, xJ2_go, ↓xif_t, ↓xif_f, seval, ↓xca_eq, ↓xre_l, ↓xre_r, xmask_t, xmask_f, xmask_nil, ↓xst_eq, xX_eq, eI_eq, eMc_eq, eMs_eq, eF_eq, eThr_eq, ↓xS1_mk, ↓xSI_mk, ↓xSR_mk, ↓xLI_0, ↓xLI_s, ↓xLR_0, ↓xLR_s, vRef_ref, vRef_null, vRef_rf, cat_int, cat_ref, cat_null, cat_rf, rf_some, rf_none, rf_null, rf_eq, rf_ref, ref_rf, ref_null, ref_ref, xOk_0, xOk_1, xOk_2r, xOk_2n, xOk_2f, vOpt_rf, vOpt_ref, vOpt_null, List.set_cons_zero, List.set_cons_succ, List.take_succ_cons, List.take_zero, List.drop_succ_cons, List.drop_zero, List.reverse_cons, List.reverse_nil, List.nil_append, List.cons_append, List.append_nil, List.length_cons, List.length_nil, List.map_cons, List.map_nil, List.sum_cons, List.sum_nil, Option.toList_some, Option.toList_none, xRecv_mk, true_and, and_true, true_implies, Nat.reduceAdd, Nat.reduceLeDiff, Nat.zero_le, Nat.le_refl, Nat.add_zero, Nat.zero_add, reduceIte, not_true_eq_false, not_false_eq_true, false_implies, and_self, implies_true, eq_self, Nat.reduceEqDiff, List.cons.injEq, xsn_1, xsn_2, false_and, and_false, or_false, false_or, or_true, true_or, xsn_3, xsn_4, cK_setI, cFi_setI, cFr_setI, cLen_setI, cRi_setI, ↓spwX4_isDangerous_r, ↓spwX7_needBoat, spcX7_needBoat, ↓spwX7_needBarge, spcX7_needBarge, ↓spwX1_isUnderWay, spcX1_isUnderWay, ↓spwX0_isTiedAt, spcX0_isTiedAt, ↓spwX7_needState, spcX7_needState, ↓spwX4_hasRoom, spcX4_hasRoom, ↓spwX4_isDangerous, spcX4_isDangerous, ↓spwX4_behind, spcX4_behind, ↓spwX4_release, spcX4_release, ↓spwX4_append, spcX4_append, ↓spwX6_tell, spcX6_tell, ↓spwX4_size, spcX4_size, h0, hi1, h2, h3, h4, q1, q2, hw0, hg0, g2, k2, b2, b2b, b3, hT, r1, r1b, r3, r4, hR, hin, f1, f2, f3, f4, f5, f7, f8, hpl, hm2, e1, e2, e3]
          try simp only [xif_e]
          first | exact h | grind
      · have h := hz.1 w1
        refine xgo hG (mb := []) (head := 40) (P := fun _ _ _ _ _ => False) (fun _ _ _ _ _ q => q.elim) (pc := 0) (fun fu hfu => ?_)
        simp only [↓callX7_couple_0, ↓callX7_couple_1, ↓callX7_couple_10, ↓callX7_couple_11, ↓callX7_couple_2, ↓callX7_couple_3, ↓callX7_couple_4, ↓callX7_couple_5, ↓callX7_couple_6, ↓callX7_couple_7, ↓callX7_couple_8, ↓callX7_couple_9, ↓cg_1_0, ↓cg_1_2, ↓cg_2_0, ↓cg_2_3, ↓cg_2_5, ↓cg_2_6, ↓cg_8_11, ↓cg_8_6, cisa, ↓cp_2_5, ↓cp_8_11, ki_0, ki_1, ki_2, ki_3, ki_m1, ↓vm_aload, ↓vm_aload_n, ↓vm_astore, ↓vm_astore_n, ↓vm_dup, ↓vm_getfield, ↓vm_goto, ↓vm_iadd, ↓vm_iconst, ↓vm_ifCond_eq, ↓vm_ifCond_ne, ↓vm_iload, ↓vm_iload_n, ↓vm_imul, ↓vm_invokestatic, ↓vm_invokevirtual, ↓vm_ireturn, ↓vm_istore, ↓vm_putfield, ↓xc_1, ↓xc_2, ↓xc_3, ↓xc_4, ↓tbX7_couple_0, ↓tbX7_couple_1, ↓tbX7_couple_2, ↓tbX7_couple_5, ↓tbX7_couple_6, ↓tbX7_couple_7, ↓tbX7_couple_8, ↓tbX7_couple_11, ↓tbX7_couple_13, ↓tbX7_couple_14, ↓tbX7_couple_17, ↓tbX7_couple_20, ↓tbX7_couple_22, ↓tbX7_couple_23, ↓tbX7_couple_26, ↓tbX7_couple_29, ↓tbX7_couple_32, ↓tbX7_couple_33, ↓tbX7_couple_36, ↓tbX7_couple_37, ↓tbX7_couple_40, ↓tbX7_couple_41, ↓tbX7_couple_44, ↓tbX7_couple_47, ↓tbX7_couple_50, ↓tbX7_couple_51, ↓tbX7_couple_54, ↓tbX7_couple_55, ↓tbX7_couple_57, ↓tbX7_couple_60, ↓tbX7_couple_63, ↓tbX7_couple_64, ↓tbX7_couple_67, ↓tbX7_couple_68, ↓tbX7_couple_71, ↓tbX7_couple_73, ↓tbX7_couple_76, ↓tbX7_couple_78, ↓tbX7_couple_81, ↓tbX7_couple_83, ↓tbX7_couple_85, ↓tbX7_couple_88, ↓tbX7_couple_90, ↓tbX7_couple_93, ↓tbX7_couple_94, ↓tbX7_couple_97, ↓tbX7_couple_99, ↓tbX7_couple_102, ↓tbX7_couple_103, ↓tbX7_couple_104, ↓tbX7_couple_107, ↓tbX7_couple_108, ↓tbX7_couple_110, ↓tbX7_couple_111, ↓tbX7_couple_112, ↓tbX7_couple_115, ↓tbX7_couple_116, ↓tbX7_couple_117, ↓tbX7_couple_120, ↓tbX7_couple_122, ↓tbX7_couple_123, ↓tbX7_couple_124, ↓tbX7_couple_125, ↓tbX7_couple_128, ↓tbX7_couple_129, ↓tbX7_couple_132, ↓tbX7_couple_133, ↓tbX7_couple_135, ↓tbX7_couple_138, ↓tbX7_couple_139, ↓tbX7_couple_142, ↓tbX7_couple_145, ↓tbX7_couple_146, ↓tbX7_couple_149, ↓tbX7_couple_152, hfu, xstep0, xJ1_hit, xJ1_go, xJ2_hit1, xJ2_hit2, xJ2_go, ↓xif_t, ↓xif_f, seval, ↓xca_eq, ↓xre_l, ↓xre_r, xmask_t, xmask_f, xmask_nil, ↓xst_eq, xX_eq, eI_eq, eMc_eq, eMs_eq, eF_eq, eThr_eq, ↓xS1_mk, ↓xSI_mk, ↓xSR_mk, ↓xLI_0, ↓xLI_s, ↓xLR_0, ↓xLR_s, vRef_ref, vRef_null, vRef_rf, cat_int, cat_ref, cat_null, cat_rf, rf_some, rf_none, rf_null, rf_eq, rf_ref, ref_rf, ref_null, ref_ref, xOk_0, xOk_1, xOk_2r, xOk_2n, xOk_2f, vOpt_rf, vOpt_ref, vOpt_null, List.set_cons_zero, List.set_cons_succ, List.take_succ_cons, List.take_zero, List.drop_succ_cons, List.drop_zero, List.reverse_cons, List.reverse_nil, List.nil_append, List.cons_append, List.append_nil, List.length_cons, List.length_nil, List.map_cons, List.map_nil, List.sum_cons, List.sum_nil, Option.toList_some, Option.toList_none, xRecv_mk, true_and, and_true, true_implies, Nat.reduceAdd, Nat.reduceLeDiff, Nat.zero_le, Nat.le_refl, Nat.add_zero, Nat.zero_add, reduceIte, not_true_eq_false, not_false_eq_true, false_implies, and_self, implies_true, eq_self, Nat.reduceEqDiff, List.cons.injEq, xsn_1, xsn_2, false_and, and_false, or_false, false_or, or_true, true_or, xsn_3, xsn_4, cK_setI, cFi_setI, cFr_setI, cLen_setI, cRi_setI, ↓spwX4_isDangerous_r, ↓spwX7_needBoat, spcX7_needBoat, ↓spwX7_needBarge, spcX7_needBarge, ↓spwX1_isUnderWay, spcX1_isUnderWay, ↓spwX0_isTiedAt, spcX0_isTiedAt, ↓spwX7_needState, spcX7_needState, ↓spwX4_hasRoom, spcX4_hasRoom, ↓spwX4_isDangerous, spcX4_isDangerous, ↓spwX4_behind, spcX4_behind, ↓spwX4_release, spcX4_release, ↓spwX4_append, spcX4_append, ↓spwX6_tell, spcX6_tell, ↓spwX4_size, spcX4_size, h0, hi1, h2, h3, h4, q1, q2, hw0, hg0, g2, k2, hin, hR, bi_0]
        try simp only [xif_e]
        repeat' (first | exact h | with_reducible apply And.intro | with_reducible intro _)
        all_goals grind
    · have h := hbad (fun z => q2 z.2)
      refine xgo hG (mb := []) (head := 11) (P := fun _ _ _ _ _ => False) (fun _ _ _ _ _ q => q.elim) (pc := 0) (fun fu hfu => ?_)
      simp only [↓callX7_couple_0, ↓callX7_couple_1, ↓callX7_couple_10, ↓callX7_couple_11, ↓callX7_couple_2, ↓callX7_couple_3, ↓callX7_couple_4, ↓callX7_couple_5, ↓callX7_couple_6, ↓callX7_couple_7, ↓callX7_couple_8, ↓callX7_couple_9, ↓cg_1_0, ↓cg_1_2, ↓cg_2_0, ↓cg_2_3, ↓cg_2_5, ↓cg_2_6, ↓cg_8_11, ↓cg_8_6, cisa, ↓cp_2_5, ↓cp_8_11, ki_0, ki_1, ki_2, ki_3, ki_m1, ↓vm_aload, ↓vm_aload_n, ↓vm_astore, ↓vm_astore_n, ↓vm_dup, ↓vm_getfield, ↓vm_goto, ↓vm_iadd, ↓vm_iconst, ↓vm_ifCond_eq, ↓vm_ifCond_ne, ↓vm_iload, ↓vm_iload_n, ↓vm_imul, ↓vm_invokestatic, ↓vm_invokevirtual, ↓vm_ireturn, ↓vm_istore, ↓vm_putfield, ↓xc_1, ↓xc_2, ↓xc_3, ↓xc_4, ↓tbX7_couple_0, ↓tbX7_couple_1, ↓tbX7_couple_2, ↓tbX7_couple_5, ↓tbX7_couple_6, ↓tbX7_couple_7, ↓tbX7_couple_8, ↓tbX7_couple_11, ↓tbX7_couple_13, ↓tbX7_couple_14, ↓tbX7_couple_17, ↓tbX7_couple_20, ↓tbX7_couple_22, ↓tbX7_couple_23, ↓tbX7_couple_26, ↓tbX7_couple_29, ↓tbX7_couple_32, ↓tbX7_couple_33, ↓tbX7_couple_36, ↓tbX7_couple_37, ↓tbX7_couple_40, ↓tbX7_couple_41, ↓tbX7_couple_44, ↓tbX7_couple_47, ↓tbX7_couple_50, ↓tbX7_couple_51, ↓tbX7_couple_54, ↓tbX7_couple_55, ↓tbX7_couple_57, ↓tbX7_couple_60, ↓tbX7_couple_63, ↓tbX7_couple_64, ↓tbX7_couple_67, ↓tbX7_couple_68, ↓tbX7_couple_71, ↓tbX7_couple_73, ↓tbX7_couple_76, ↓tbX7_couple_78, ↓tbX7_couple_81, ↓tbX7_couple_83, ↓tbX7_couple_85, ↓tbX7_couple_88, ↓tbX7_couple_90, ↓tbX7_couple_93, ↓tbX7_couple_94, ↓tbX7_couple_97, ↓tbX7_couple_99, ↓tbX7_couple_102, ↓tbX7_couple_103, ↓tbX7_couple_104, ↓tbX7_couple_107, ↓tbX7_couple_108, ↓tbX7_couple_110, ↓tbX7_couple_111, ↓tbX7_couple_112, ↓tbX7_couple_115, ↓tbX7_couple_116, ↓tbX7_couple_117, ↓tbX7_couple_120, ↓tbX7_couple_122, ↓tbX7_couple_123, ↓tbX7_couple_124, ↓tbX7_couple_125, ↓tbX7_couple_128, ↓tbX7_couple_129, ↓tbX7_couple_132, ↓tbX7_couple_133, ↓tbX7_couple_135, ↓tbX7_couple_138, ↓tbX7_couple_139, ↓tbX7_couple_142, ↓tbX7_couple_145, ↓tbX7_couple_146, ↓tbX7_couple_149, ↓tbX7_couple_152, hfu, xstep0, xJ1_hit, xJ1_go, xJ2_hit1, xJ2_hit2, xJ2_go, ↓xif_t, ↓xif_f, seval, ↓xca_eq, ↓xre_l, ↓xre_r, xmask_t, xmask_f, xmask_nil, ↓xst_eq, xX_eq, eI_eq, eMc_eq, eMs_eq, eF_eq, eThr_eq, ↓xS1_mk, ↓xSI_mk, ↓xSR_mk, ↓xLI_0, ↓xLI_s, ↓xLR_0, ↓xLR_s, vRef_ref, vRef_null, vRef_rf, cat_int, cat_ref, cat_null, cat_rf, rf_some, rf_none, rf_null, rf_eq, rf_ref, ref_rf, ref_null, ref_ref, xOk_0, xOk_1, xOk_2r, xOk_2n, xOk_2f, vOpt_rf, vOpt_ref, vOpt_null, List.set_cons_zero, List.set_cons_succ, List.take_succ_cons, List.take_zero, List.drop_succ_cons, List.drop_zero, List.reverse_cons, List.reverse_nil, List.nil_append, List.cons_append, List.append_nil, List.length_cons, List.length_nil, List.map_cons, List.map_nil, List.sum_cons, List.sum_nil, Option.toList_some, Option.toList_none, xRecv_mk, true_and, and_true, true_implies, Nat.reduceAdd, Nat.reduceLeDiff, Nat.zero_le, Nat.le_refl, Nat.add_zero, Nat.zero_add, reduceIte, not_true_eq_false, not_false_eq_true, false_implies, and_self, implies_true, eq_self, Nat.reduceEqDiff, List.cons.injEq, xsn_1, xsn_2, false_and, and_false, or_false, false_or, or_true, true_or, xsn_3, xsn_4, cK_setI, cFi_setI, cFr_setI, cLen_setI, cRi_setI, ↓spwX4_isDangerous_r, ↓spwX7_needBoat, spcX7_needBoat, ↓spwX7_needBarge, spcX7_needBarge, ↓spwX1_isUnderWay, spcX1_isUnderWay, ↓spwX0_isTiedAt, spcX0_isTiedAt, ↓spwX7_needState, spcX7_needState, ↓spwX4_hasRoom, spcX4_hasRoom, ↓spwX4_isDangerous, spcX4_isDangerous, ↓spwX4_behind, spcX4_behind, ↓spwX4_release, spcX4_release, ↓spwX4_append, spcX4_append, ↓spwX6_tell, spcX6_tell, ↓spwX4_size, spcX4_size, h0, hi1, h2, h3, h4, q1, q2]
      try simp only [xif_e]
      first | exact h | grind
  · have h := hbad (fun z => q1 z.1)
    refine xgo hG (mb := []) (head := 5) (P := fun _ _ _ _ _ => False) (fun _ _ _ _ _ q => q.elim) (pc := 0) (fun fu hfu => ?_)
    simp only [↓callX7_couple_0, ↓callX7_couple_1, ↓callX7_couple_10, ↓callX7_couple_11, ↓callX7_couple_2, ↓callX7_couple_3, ↓callX7_couple_4, ↓callX7_couple_5, ↓callX7_couple_6, ↓callX7_couple_7, ↓callX7_couple_8, ↓callX7_couple_9, ↓cg_1_0, ↓cg_1_2, ↓cg_2_0, ↓cg_2_3, ↓cg_2_5, ↓cg_2_6, ↓cg_8_11, ↓cg_8_6, cisa, ↓cp_2_5, ↓cp_8_11, ki_0, ki_1, ki_2, ki_3, ki_m1, ↓vm_aload, ↓vm_aload_n, ↓vm_astore, ↓vm_astore_n, ↓vm_dup, ↓vm_getfield, ↓vm_goto, ↓vm_iadd, ↓vm_iconst, ↓vm_ifCond_eq, ↓vm_ifCond_ne, ↓vm_iload, ↓vm_iload_n, ↓vm_imul, ↓vm_invokestatic, ↓vm_invokevirtual, ↓vm_ireturn, ↓vm_istore, ↓vm_putfield, ↓xc_1, ↓xc_2, ↓xc_3, ↓xc_4, ↓tbX7_couple_0, ↓tbX7_couple_1, ↓tbX7_couple_2, ↓tbX7_couple_5, ↓tbX7_couple_6, ↓tbX7_couple_7, ↓tbX7_couple_8, ↓tbX7_couple_11, ↓tbX7_couple_13, ↓tbX7_couple_14, ↓tbX7_couple_17, ↓tbX7_couple_20, ↓tbX7_couple_22, ↓tbX7_couple_23, ↓tbX7_couple_26, ↓tbX7_couple_29, ↓tbX7_couple_32, ↓tbX7_couple_33, ↓tbX7_couple_36, ↓tbX7_couple_37, ↓tbX7_couple_40, ↓tbX7_couple_41, ↓tbX7_couple_44, ↓tbX7_couple_47, ↓tbX7_couple_50, ↓tbX7_couple_51, ↓tbX7_couple_54, ↓tbX7_couple_55, ↓tbX7_couple_57, ↓tbX7_couple_60, ↓tbX7_couple_63, ↓tbX7_couple_64, ↓tbX7_couple_67, ↓tbX7_couple_68, ↓tbX7_couple_71, ↓tbX7_couple_73, ↓tbX7_couple_76, ↓tbX7_couple_78, ↓tbX7_couple_81, ↓tbX7_couple_83, ↓tbX7_couple_85, ↓tbX7_couple_88, ↓tbX7_couple_90, ↓tbX7_couple_93, ↓tbX7_couple_94, ↓tbX7_couple_97, ↓tbX7_couple_99, ↓tbX7_couple_102, ↓tbX7_couple_103, ↓tbX7_couple_104, ↓tbX7_couple_107, ↓tbX7_couple_108, ↓tbX7_couple_110, ↓tbX7_couple_111, ↓tbX7_couple_112, ↓tbX7_couple_115, ↓tbX7_couple_116, ↓tbX7_couple_117, ↓tbX7_couple_120, ↓tbX7_couple_122, ↓tbX7_couple_123, ↓tbX7_couple_124, ↓tbX7_couple_125, ↓tbX7_couple_128, ↓tbX7_couple_129, ↓tbX7_couple_132, ↓tbX7_couple_133, ↓tbX7_couple_135, ↓tbX7_couple_138, ↓tbX7_couple_139, ↓tbX7_couple_142, ↓tbX7_couple_145, ↓tbX7_couple_146, ↓tbX7_couple_149, ↓tbX7_couple_152, hfu, xstep0, xJ1_hit, xJ1_go, xJ2_hit1, xJ2_hit2, xJ2_go, ↓xif_t, ↓xif_f, seval, ↓xca_eq, ↓xre_l, ↓xre_r, xmask_t, xmask_f, xmask_nil, ↓xst_eq, xX_eq, eI_eq, eMc_eq, eMs_eq, eF_eq, eThr_eq, ↓xS1_mk, ↓xSI_mk, ↓xSR_mk, ↓xLI_0, ↓xLI_s, ↓xLR_0, ↓xLR_s, vRef_ref, vRef_null, vRef_rf, cat_int, cat_ref, cat_null, cat_rf, rf_some, rf_none, rf_null, rf_eq, rf_ref, ref_rf, ref_null, ref_ref, xOk_0, xOk_1, xOk_2r, xOk_2n, xOk_2f, vOpt_rf, vOpt_ref, vOpt_null, List.set_cons_zero, List.set_cons_succ, List.take_succ_cons, List.take_zero, List.drop_succ_cons, List.drop_zero, List.reverse_cons, List.reverse_nil, List.nil_append, List.cons_append, List.append_nil, List.length_cons, List.length_nil, List.map_cons, List.map_nil, List.sum_cons, List.sum_nil, Option.toList_some, Option.toList_none, xRecv_mk, true_and, and_true, true_implies, Nat.reduceAdd, Nat.reduceLeDiff, Nat.zero_le, Nat.le_refl, Nat.add_zero, Nat.zero_add, reduceIte, not_true_eq_false, not_false_eq_true, false_implies, and_self, implies_true, eq_self, Nat.reduceEqDiff, List.cons.injEq, xsn_1, xsn_2, false_and, and_false, or_false, false_or, or_true, true_or, xsn_3, xsn_4, cK_setI, cFi_setI, cFr_setI, cLen_setI, cRi_setI, ↓spwX4_isDangerous_r, ↓spwX7_needBoat, spcX7_needBoat, ↓spwX7_needBarge, spcX7_needBarge, ↓spwX1_isUnderWay, spcX1_isUnderWay, ↓spwX0_isTiedAt, spcX0_isTiedAt, ↓spwX7_needState, spcX7_needState, ↓spwX4_hasRoom, spcX4_hasRoom, ↓spwX4_isDangerous, spcX4_isDangerous, ↓spwX4_behind, spcX4_behind, ↓spwX4_release, spcX4_release, ↓spwX4_append, spcX4_append, ↓spwX6_tell, spcX6_tell, ↓spwX4_size, spcX4_size, h0, hi1, h2, q1]
    try simp only [xif_e]
    first | exact h | grind

def tbX7_drop : List (Nat × xHint) := [(0, .aload_n 0, 0, 0, 0, []), (1, .iload_n 1, 1, 0, 0, []), (2, .invokevirtual 219, 0, 2, 8, []), (5, .astore 4, 4, 0, 0, []), (7, .aload_n 0, 0, 0, 0, []), (8, .iload_n 2, 2, 0, 0, []), (9, .invokevirtual 153, 1, 2, 8, []), (12, .astore 5, 5, 0, 0, []), (14, .iload_n 3, 3, 0, 0, []), (15, .iconst 2, 0, 0, 0, []), (16, .invokestatic 261, 2, 2, 0, []), (19, .aload 4, 4, 0, 0, []), (21, .invokevirtual 223, 3, 1, 2, []), (24, .ifCond .ne 20, 44, 0, 0, []), (27, .aload 5, 5, 0, 0, []), (29, .getfield 200, 1, 2, 2, []), (32, .aload 4, 4, 0, 0, []), (34, .getfield 232, 2, 3, 2, []), (37, .if_acmp .ne 7, 44, 0, 0, []), (40, .iconst 1, 0, 0, 0, []), (41, .goto 4, 45, 0, 0, []), (44, .iconst 0, 0, 0, 0, []), (45, .invokestatic 77, 4, 1, 0, []), (48, .aload_n 0, 0, 0, 0, []), (49, .aload 4, 4, 0, 0, []), (51, .getfield 238, 2, 6, 0, []), (54, .iload_n 3, 3, 0, 0, []), (55, .invokevirtual 97, 5, 3, 8, []), (58, .astore 6, 6, 0, 0, []), (60, .aload 6, 6, 0, 0, []), (62, .invokevirtual 109, 6, 1, 5, []), (65, .ifCond .eq 29, 94, 0, 0, []), (68, .aload 4, 4, 0, 0, []), (70, .getfield 232, 2, 3, 2, []), (73, .aload 4, 4, 0, 0, []), (75, .getfield 232, 2, 3, 2, []), (78, .aload 5, 5, 0, 0, []), (80, .invokevirtual 264, 7, 2, 5, []), (83, .aconst_null, 0, 0, 0, []), (84, .invokevirtual 244, 8, 3, 5, []), (87, .ifCond .ne 7, 94, 0, 0, []), (90, .iconst 1, 0, 0, 0, []), (91, .goto 4, 95, 0, 0, []), (94, .iconst 0, 0, 0, 0, []), (95, .invokestatic 77, 4, 1, 0, []), (98, .aload 4, 4, 0, 0, []), (100, .dup, 0, 0, 0, []), (101, .getfield 255, 2, 5, 0, []), (104, .iconst 1, 0, 0, 0, []), (105, .aload 4, 4, 0, 0, []), (107, .getfield 232, 2, 3, 2, []), (110, .aload 5, 5, 0, 0, []), (112, .invokevirtual 248, 9, 2, 5, []), (115, .iadd, 0, 0, 0, []), (116, .iadd, 0, 0, 0, []), (117, .putfield 255, 2, 5, 0, []), (120, .aload 4, 4, 0, 0, []), (122, .getfield 232, 2, 3, 2, []), (125, .aload 5, 5, 0, 0, []), (127, .invokevirtual 252, 10, 2, 5, []), (130, .aload 6, 6, 0, 0, []), (132, .aload 5, 5, 0, 0, []), (134, .invokevirtual 118, 11, 2, 5, []), (137, .aload_n 0, 0, 0, 0, []), (138, .getfield 35, 8, 6, 2, []), (141, .iconst 0, 0, 0, 0, []), (142, .aload 5, 5, 0, 0, []), (144, .getfield 122, 1, 0, 0, []), (147, .aload 4, 4, 0, 0, []), (149, .getfield 238, 2, 6, 0, []), (152, .invokevirtual 125, 12, 4, 7, []), (155, .aload 4, 4, 0, 0, []), (157, .getfield 232, 2, 3, 2, []), (160, .invokevirtual 101, 13, 1, 5, []), (163, .ireturn, 0, 0, 0, [])]
def clX7_drop : List (Instr × Nat × Nat × Nat) := [(.invokevirtual 219, 0, 2, 8), (.invokevirtual 153, 1, 2, 8), (.invokestatic 261, 2, 2, 0), (.invokevirtual 223, 3, 1, 2), (.invokestatic 77, 4, 1, 0), (.invokevirtual 97, 5, 3, 8), (.invokevirtual 109, 6, 1, 5), (.invokevirtual 264, 7, 2, 5), (.invokevirtual 244, 8, 3, 5), (.invokevirtual 248, 9, 2, 5), (.invokevirtual 252, 10, 2, 5), (.invokevirtual 118, 11, 2, 5), (.invokevirtual 125, 12, 4, 7), (.invokevirtual 101, 13, 1, 5)]
def thX7_drop : List (Nat × Nat) := []
theorem ckX7_drop : tbX7_drop.all (xRow RX7 cX7_drop wsX7_drop vwCl [1, 2, 8] clX7_drop thX7_drop 7 (yX7_drop.name == "<init>") (some .int)) = true := xRow_q 0xac6500b6e800b404197d00b6ee00b404197a00b40519032300b42a7600b605190619fc00b60519e800b40419ff00b56060f800b60519e800b4041904ff00b45904194d00b8030400a70407009af400b6010801b60519e800b40419e800b404191d00996d00b60619063a6100b61dee00b404192a4d00b8030400a7040700a6e800b40419c800b4051914009adf00b604190501b8051d053a9900b61c2a043adb00b61b2a 164 (by decide +kernel) (by decide +kernel)
theorem usX7_drop : xUse wsX7_drop vwCl [1, 2, 8] = true := xUse_g rfl (lw_good lwl_X7_drop lwl_X00 (by decide +kernel)) (xUse_g rfl (lw_good lwl_X7_drop lwl_X10 (by decide +kernel)) (xUse_g rfl (lw_good lwl_X7_drop lwl_X70 (by decide +kernel)) xUse_n))
theorem tbX7_drop_0 {k : Instr → Nat → Nat → Nat → List Nat → Prop} : xse (xFind tbX7_drop 0) k = k (.aload_n 0) 0 0 0 [] := rfl
theorem tbX7_drop_1 {k : Instr → Nat → Nat → Nat → List Nat → Prop} : xse (xFind tbX7_drop 1) k = k (.iload_n 1) 1 0 0 [] := rfl
theorem tbX7_drop_2 {k : Instr → Nat → Nat → Nat → List Nat → Prop} : xse (xFind tbX7_drop 2) k = k (.invokevirtual 219) 0 2 8 [] := rfl
theorem tbX7_drop_5 {k : Instr → Nat → Nat → Nat → List Nat → Prop} : xse (xFind tbX7_drop 5) k = k (.astore 4) 4 0 0 [] := rfl
theorem tbX7_drop_7 {k : Instr → Nat → Nat → Nat → List Nat → Prop} : xse (xFind tbX7_drop 7) k = k (.aload_n 0) 0 0 0 [] := rfl
theorem tbX7_drop_8 {k : Instr → Nat → Nat → Nat → List Nat → Prop} : xse (xFind tbX7_drop 8) k = k (.iload_n 2) 2 0 0 [] := rfl
theorem tbX7_drop_9 {k : Instr → Nat → Nat → Nat → List Nat → Prop} : xse (xFind tbX7_drop 9) k = k (.invokevirtual 153) 1 2 8 [] := rfl
theorem tbX7_drop_12 {k : Instr → Nat → Nat → Nat → List Nat → Prop} : xse (xFind tbX7_drop 12) k = k (.astore 5) 5 0 0 [] := rfl
theorem tbX7_drop_14 {k : Instr → Nat → Nat → Nat → List Nat → Prop} : xse (xFind tbX7_drop 14) k = k (.iload_n 3) 3 0 0 [] := rfl
theorem tbX7_drop_15 {k : Instr → Nat → Nat → Nat → List Nat → Prop} : xse (xFind tbX7_drop 15) k = k (.iconst 2) 0 0 0 [] := rfl
theorem tbX7_drop_16 {k : Instr → Nat → Nat → Nat → List Nat → Prop} : xse (xFind tbX7_drop 16) k = k (.invokestatic 261) 2 2 0 [] := rfl
theorem tbX7_drop_19 {k : Instr → Nat → Nat → Nat → List Nat → Prop} : xse (xFind tbX7_drop 19) k = k (.aload 4) 4 0 0 [] := rfl
theorem tbX7_drop_21 {k : Instr → Nat → Nat → Nat → List Nat → Prop} : xse (xFind tbX7_drop 21) k = k (.invokevirtual 223) 3 1 2 [] := rfl
theorem tbX7_drop_24 {k : Instr → Nat → Nat → Nat → List Nat → Prop} : xse (xFind tbX7_drop 24) k = k (.ifCond .ne 20) 44 0 0 [] := rfl
theorem tbX7_drop_27 {k : Instr → Nat → Nat → Nat → List Nat → Prop} : xse (xFind tbX7_drop 27) k = k (.aload 5) 5 0 0 [] := rfl
theorem tbX7_drop_29 {k : Instr → Nat → Nat → Nat → List Nat → Prop} : xse (xFind tbX7_drop 29) k = k (.getfield 200) 1 2 2 [] := rfl
theorem tbX7_drop_32 {k : Instr → Nat → Nat → Nat → List Nat → Prop} : xse (xFind tbX7_drop 32) k = k (.aload 4) 4 0 0 [] := rfl
theorem tbX7_drop_34 {k : Instr → Nat → Nat → Nat → List Nat → Prop} : xse (xFind tbX7_drop 34) k = k (.getfield 232) 2 3 2 [] := rfl
theorem tbX7_drop_37 {k : Instr → Nat → Nat → Nat → List Nat → Prop} : xse (xFind tbX7_drop 37) k = k (.if_acmp .ne 7) 44 0 0 [] := rfl
theorem tbX7_drop_40 {k : Instr → Nat → Nat → Nat → List Nat → Prop} : xse (xFind tbX7_drop 40) k = k (.iconst 1) 0 0 0 [] := rfl
theorem tbX7_drop_41 {k : Instr → Nat → Nat → Nat → List Nat → Prop} : xse (xFind tbX7_drop 41) k = k (.goto 4) 45 0 0 [] := rfl
theorem tbX7_drop_44 {k : Instr → Nat → Nat → Nat → List Nat → Prop} : xse (xFind tbX7_drop 44) k = k (.iconst 0) 0 0 0 [] := rfl
theorem tbX7_drop_45 {k : Instr → Nat → Nat → Nat → List Nat → Prop} : xse (xFind tbX7_drop 45) k = k (.invokestatic 77) 4 1 0 [] := rfl
theorem tbX7_drop_48 {k : Instr → Nat → Nat → Nat → List Nat → Prop} : xse (xFind tbX7_drop 48) k = k (.aload_n 0) 0 0 0 [] := rfl
theorem tbX7_drop_49 {k : Instr → Nat → Nat → Nat → List Nat → Prop} : xse (xFind tbX7_drop 49) k = k (.aload 4) 4 0 0 [] := rfl
theorem tbX7_drop_51 {k : Instr → Nat → Nat → Nat → List Nat → Prop} : xse (xFind tbX7_drop 51) k = k (.getfield 238) 2 6 0 [] := rfl
theorem tbX7_drop_54 {k : Instr → Nat → Nat → Nat → List Nat → Prop} : xse (xFind tbX7_drop 54) k = k (.iload_n 3) 3 0 0 [] := rfl
theorem tbX7_drop_55 {k : Instr → Nat → Nat → Nat → List Nat → Prop} : xse (xFind tbX7_drop 55) k = k (.invokevirtual 97) 5 3 8 [] := rfl
theorem tbX7_drop_58 {k : Instr → Nat → Nat → Nat → List Nat → Prop} : xse (xFind tbX7_drop 58) k = k (.astore 6) 6 0 0 [] := rfl
theorem tbX7_drop_60 {k : Instr → Nat → Nat → Nat → List Nat → Prop} : xse (xFind tbX7_drop 60) k = k (.aload 6) 6 0 0 [] := rfl
theorem tbX7_drop_62 {k : Instr → Nat → Nat → Nat → List Nat → Prop} : xse (xFind tbX7_drop 62) k = k (.invokevirtual 109) 6 1 5 [] := rfl
theorem tbX7_drop_65 {k : Instr → Nat → Nat → Nat → List Nat → Prop} : xse (xFind tbX7_drop 65) k = k (.ifCond .eq 29) 94 0 0 [] := rfl
theorem tbX7_drop_68 {k : Instr → Nat → Nat → Nat → List Nat → Prop} : xse (xFind tbX7_drop 68) k = k (.aload 4) 4 0 0 [] := rfl
theorem tbX7_drop_70 {k : Instr → Nat → Nat → Nat → List Nat → Prop} : xse (xFind tbX7_drop 70) k = k (.getfield 232) 2 3 2 [] := rfl
theorem tbX7_drop_73 {k : Instr → Nat → Nat → Nat → List Nat → Prop} : xse (xFind tbX7_drop 73) k = k (.aload 4) 4 0 0 [] := rfl
theorem tbX7_drop_75 {k : Instr → Nat → Nat → Nat → List Nat → Prop} : xse (xFind tbX7_drop 75) k = k (.getfield 232) 2 3 2 [] := rfl
theorem tbX7_drop_78 {k : Instr → Nat → Nat → Nat → List Nat → Prop} : xse (xFind tbX7_drop 78) k = k (.aload 5) 5 0 0 [] := rfl
theorem tbX7_drop_80 {k : Instr → Nat → Nat → Nat → List Nat → Prop} : xse (xFind tbX7_drop 80) k = k (.invokevirtual 264) 7 2 5 [] := rfl
theorem tbX7_drop_83 {k : Instr → Nat → Nat → Nat → List Nat → Prop} : xse (xFind tbX7_drop 83) k = k (.aconst_null) 0 0 0 [] := rfl
theorem tbX7_drop_84 {k : Instr → Nat → Nat → Nat → List Nat → Prop} : xse (xFind tbX7_drop 84) k = k (.invokevirtual 244) 8 3 5 [] := rfl
theorem tbX7_drop_87 {k : Instr → Nat → Nat → Nat → List Nat → Prop} : xse (xFind tbX7_drop 87) k = k (.ifCond .ne 7) 94 0 0 [] := rfl
theorem tbX7_drop_90 {k : Instr → Nat → Nat → Nat → List Nat → Prop} : xse (xFind tbX7_drop 90) k = k (.iconst 1) 0 0 0 [] := rfl
theorem tbX7_drop_91 {k : Instr → Nat → Nat → Nat → List Nat → Prop} : xse (xFind tbX7_drop 91) k = k (.goto 4) 95 0 0 [] := rfl
theorem tbX7_drop_94 {k : Instr → Nat → Nat → Nat → List Nat → Prop} : xse (xFind tbX7_drop 94) k = k (.iconst 0) 0 0 0 [] := rfl
theorem tbX7_drop_95 {k : Instr → Nat → Nat → Nat → List Nat → Prop} : xse (xFind tbX7_drop 95) k = k (.invokestatic 77) 4 1 0 [] := rfl
theorem tbX7_drop_98 {k : Instr → Nat → Nat → Nat → List Nat → Prop} : xse (xFind tbX7_drop 98) k = k (.aload 4) 4 0 0 [] := rfl
theorem tbX7_drop_100 {k : Instr → Nat → Nat → Nat → List Nat → Prop} : xse (xFind tbX7_drop 100) k = k (.dup) 0 0 0 [] := rfl
theorem tbX7_drop_101 {k : Instr → Nat → Nat → Nat → List Nat → Prop} : xse (xFind tbX7_drop 101) k = k (.getfield 255) 2 5 0 [] := rfl
theorem tbX7_drop_104 {k : Instr → Nat → Nat → Nat → List Nat → Prop} : xse (xFind tbX7_drop 104) k = k (.iconst 1) 0 0 0 [] := rfl
theorem tbX7_drop_105 {k : Instr → Nat → Nat → Nat → List Nat → Prop} : xse (xFind tbX7_drop 105) k = k (.aload 4) 4 0 0 [] := rfl
theorem tbX7_drop_107 {k : Instr → Nat → Nat → Nat → List Nat → Prop} : xse (xFind tbX7_drop 107) k = k (.getfield 232) 2 3 2 [] := rfl
theorem tbX7_drop_110 {k : Instr → Nat → Nat → Nat → List Nat → Prop} : xse (xFind tbX7_drop 110) k = k (.aload 5) 5 0 0 [] := rfl
theorem tbX7_drop_112 {k : Instr → Nat → Nat → Nat → List Nat → Prop} : xse (xFind tbX7_drop 112) k = k (.invokevirtual 248) 9 2 5 [] := rfl
theorem tbX7_drop_115 {k : Instr → Nat → Nat → Nat → List Nat → Prop} : xse (xFind tbX7_drop 115) k = k (.iadd) 0 0 0 [] := rfl
theorem tbX7_drop_116 {k : Instr → Nat → Nat → Nat → List Nat → Prop} : xse (xFind tbX7_drop 116) k = k (.iadd) 0 0 0 [] := rfl
theorem tbX7_drop_117 {k : Instr → Nat → Nat → Nat → List Nat → Prop} : xse (xFind tbX7_drop 117) k = k (.putfield 255) 2 5 0 [] := rfl
theorem tbX7_drop_120 {k : Instr → Nat → Nat → Nat → List Nat → Prop} : xse (xFind tbX7_drop 120) k = k (.aload 4) 4 0 0 [] := rfl
theorem tbX7_drop_122 {k : Instr → Nat → Nat → Nat → List Nat → Prop} : xse (xFind tbX7_drop 122) k = k (.getfield 232) 2 3 2 [] := rfl
theorem tbX7_drop_125 {k : Instr → Nat → Nat → Nat → List Nat → Prop} : xse (xFind tbX7_drop 125) k = k (.aload 5) 5 0 0 [] := rfl
theorem tbX7_drop_127 {k : Instr → Nat → Nat → Nat → List Nat → Prop} : xse (xFind tbX7_drop 127) k = k (.invokevirtual 252) 10 2 5 [] := rfl
theorem tbX7_drop_130 {k : Instr → Nat → Nat → Nat → List Nat → Prop} : xse (xFind tbX7_drop 130) k = k (.aload 6) 6 0 0 [] := rfl
theorem tbX7_drop_132 {k : Instr → Nat → Nat → Nat → List Nat → Prop} : xse (xFind tbX7_drop 132) k = k (.aload 5) 5 0 0 [] := rfl
theorem tbX7_drop_134 {k : Instr → Nat → Nat → Nat → List Nat → Prop} : xse (xFind tbX7_drop 134) k = k (.invokevirtual 118) 11 2 5 [] := rfl
theorem tbX7_drop_137 {k : Instr → Nat → Nat → Nat → List Nat → Prop} : xse (xFind tbX7_drop 137) k = k (.aload_n 0) 0 0 0 [] := rfl
theorem tbX7_drop_138 {k : Instr → Nat → Nat → Nat → List Nat → Prop} : xse (xFind tbX7_drop 138) k = k (.getfield 35) 8 6 2 [] := rfl
theorem tbX7_drop_141 {k : Instr → Nat → Nat → Nat → List Nat → Prop} : xse (xFind tbX7_drop 141) k = k (.iconst 0) 0 0 0 [] := rfl
theorem tbX7_drop_142 {k : Instr → Nat → Nat → Nat → List Nat → Prop} : xse (xFind tbX7_drop 142) k = k (.aload 5) 5 0 0 [] := rfl
theorem tbX7_drop_144 {k : Instr → Nat → Nat → Nat → List Nat → Prop} : xse (xFind tbX7_drop 144) k = k (.getfield 122) 1 0 0 [] := rfl
theorem tbX7_drop_147 {k : Instr → Nat → Nat → Nat → List Nat → Prop} : xse (xFind tbX7_drop 147) k = k (.aload 4) 4 0 0 [] := rfl
theorem tbX7_drop_149 {k : Instr → Nat → Nat → Nat → List Nat → Prop} : xse (xFind tbX7_drop 149) k = k (.getfield 238) 2 6 0 [] := rfl
theorem tbX7_drop_152 {k : Instr → Nat → Nat → Nat → List Nat → Prop} : xse (xFind tbX7_drop 152) k = k (.invokevirtual 125) 12 4 7 [] := rfl
theorem tbX7_drop_155 {k : Instr → Nat → Nat → Nat → List Nat → Prop} : xse (xFind tbX7_drop 155) k = k (.aload 4) 4 0 0 [] := rfl
theorem tbX7_drop_157 {k : Instr → Nat → Nat → Nat → List Nat → Prop} : xse (xFind tbX7_drop 157) k = k (.getfield 232) 2 3 2 [] := rfl
theorem tbX7_drop_160 {k : Instr → Nat → Nat → Nat → List Nat → Prop} : xse (xFind tbX7_drop 160) k = k (.invokevirtual 101) 13 1 5 [] := rfl
theorem tbX7_drop_163 {k : Instr → Nat → Nat → Nat → List Nat → Prop} : xse (xFind tbX7_drop 163) k = k (.ireturn) 0 0 0 [] := rfl

def spX7_drop (W9 : xWd) : xSp cS := (fun av S => (11, 160), fun av S K => ∃ (a : Nat) (b : Int32) (c : Int32) (t : Int32), av = [.ref a, .int b, .int c, .int t] ∧ (cK S a = 9 ∧ (cIn S a 804 1 ∧ lAll S (cRf S a 804) 3) ∧ (cIn S a 802 1 ∧ lAll S (cRf S a 802) 2) ∧ ((cIn S a 801 1 ∧ lAll S (cRf S a 801) 6) ∧ cFi S (cRf S a 801) 2 = 16) ∧ cFr S a 806 = some (cRf S a 806) ∧ ∃ N x u, stL S (cRf S a 806) N x u ∧ (¬ ((0 ≤ b ∧ b < cFi S (cRf S a 804) 2) ∧ (0 ≤ c ∧ c < cFi S (cRf S a 802) 2) ∧ 0 ≤ t ∧ t < 2) → K (rX "java/lang/IndexOutOfBoundsException") S) ∧ ((0 ≤ b ∧ b < cFi S (cRf S a 804) 2) ∧ (0 ≤ c ∧ c < cFi S (cRf S a 802) 2) ∧ 0 ≤ t ∧ t < 2 → (bOk S (lG S (cRf S a 804) b.toNatClampNeg) ∧ gOk S (lG S (cRf S a 802) c.toNatClampNeg) ∧ lCap W9 S (rL S (cRf S (lG S (cRf S a 804) b.toNatClampNeg) 203)) ∧ (cFi S (cRf S (lG S (cRf S a 804) b.toNatClampNeg) 203) 504 = nI (rPc S (cRf S (lG S (cRf S a 804) b.toNatClampNeg) 203)) ∧ 0 < rPc S (cRf S (lG S (cRf S a 804) b.toNatClampNeg) 203) ∧ rPc S (cRf S (lG S (cRf S a 804) b.toNatClampNeg) 203) ≤ 4) ∧ rN S (cRf S (lG S (cRf S a 804) b.toNatClampNeg) 203) < 30 ∧ ((cFi S (lG S (cRf S a 804) b.toNatClampNeg) 207 = -1 ∧ (cRf S (lG S (cRf S a 802) c.toNatClampNeg) 102) = (cRf S (lG S (cRf S a 804) b.toNatClampNeg) 203)) → (0 ≤ cFi S (lG S (cRf S a 804) b.toNatClampNeg) 206 ∧ cFi S (lG S (cRf S a 804) b.toNatClampNeg) 206 < 8) ∧ cIn S (lG S (cRf S a 801) (cFi S (lG S (cRf S a 804) b.toNatClampNeg) 206 * 2 + t).toNatClampNeg) 505 1 ∧ lCap W9 S (rL S (lG S (cRf S a 801) (cFi S (lG S (cRf S a 804) b.toNatClampNeg) 206 * 2 + t).toNatClampNeg)) ∧ rN S (lG S (cRf S a 801) (cFi S (lG S (cRf S a 804) b.toNatClampNeg) 206 * 2 + t).toNatClampNeg) < 30 ∧ lKd S (rL S (lG S (cRf S a 801) (cFi S (lG S (cRf S a 804) b.toNatClampNeg) 206 * 2 + t).toNatClampNeg)) 2 ∧ ¬ rL S (lG S (cRf S a 801) (cFi S (lG S (cRf S a 804) b.toNatClampNeg) 206 * 2 + t).toNatClampNeg) = rL S (cRf S (lG S (cRf S a 804) b.toNatClampNeg) 203) ∧ (cRf S (rL S (lG S (cRf S a 801) (cFi S (lG S (cRf S a 804) b.toNatClampNeg) 206 * 2 + t).toNatClampNeg)) 1 = wE W9 ∨ ¬ cRf S (rL S (lG S (cRf S a 801) (cFi S (lG S (cRf S a 804) b.toNatClampNeg) 206 * 2 + t).toNatClampNeg)) 1 = cRf S (rL S (cRf S (lG S (cRf S a 804) b.toNatClampNeg) 203)) 1))) ∧ (¬ ((cFi S (lG S (cRf S a 804) b.toNatClampNeg) 207 = -1 ∧ (cRf S (lG S (cRf S a 802) c.toNatClampNeg) 102) = (cRf S (lG S (cRf S a 804) b.toNatClampNeg) 203))) → K (rX "java/lang/IllegalStateException") S) ∧ (((cFi S (lG S (cRf S a 804) b.toNatClampNeg) 207 = -1 ∧ (cRf S (lG S (cRf S a 802) c.toNatClampNeg) 102) = (cRf S (lG S (cRf S a 804) b.toNatClampNeg) 203))) → (¬ ((cFi S (rL S (lG S (cRf S a 801) (cFi S (lG S (cRf S a 804) b.toNatClampNeg) 206 * 2 + t).toNatClampNeg)) 2 < cFi S (lG S (cRf S a 801) (cFi S (lG S (cRf S a 804) b.toNatClampNeg) 206 * 2 + t).toNatClampNeg) 503 ∧ rDg S (cRf S (lG S (cRf S a 804) b.toNatClampNeg) 203) (rPl S (cRf S (lG S (cRf S a 804) b.toNatClampNeg) 203) (lG S (cRf S a 802) c.toNatClampNeg) (rN S (cRf S (lG S (cRf S a 804) b.toNatClampNeg) 203)) 0) none (rPc S (cRf S (lG S (cRf S a 804) b.toNatClampNeg) 203)) (rN S (cRf S (lG S (cRf S a 804) b.toNatClampNeg) 203) + 1) = false)) → K (rX "java/lang/IllegalStateException") S) ∧ (((cFi S (rL S (lG S (cRf S a 801) (cFi S (lG S (cRf S a 804) b.toNatClampNeg) 206 * 2 + t).toNatClampNeg)) 2 < cFi S (lG S (cRf S a 801) (cFi S (lG S (cRf S a 804) b.toNatClampNeg) 206 * 2 + t).toNatClampNeg) 503 ∧ rDg S (cRf S (lG S (cRf S a 804) b.toNatClampNeg) 203) (rPl S (cRf S (lG S (cRf S a 804) b.toNatClampNeg) 203) (lG S (cRf S a 802) c.toNatClampNeg) (rN S (cRf S (lG S (cRf S a 804) b.toNatClampNeg) 203)) 0) none (rPc S (cRf S (lG S (cRf S a 804) b.toNatClampNeg) 203)) (rN S (cRf S (lG S (cRf S a 804) b.toNatClampNeg) 203) + 1) = false)) → ∀ x2 S2, lAdd W9 (cSetI (lRem (cSetI S (lG S (cRf S a 804) b.toNatClampNeg) 205 (cFi S (lG S (cRf S a 804) b.toNatClampNeg) 205 + (1 + rBh S (cRf S (lG S (cRf S a 804) b.toNatClampNeg) 203) (lG S (cRf S a 802) c.toNatClampNeg) 0))) (rL S (cRf S (lG S (cRf S a 804) b.toNatClampNeg) 203)) (rP S (cRf S (lG S (cRf S a 804) b.toNatClampNeg) 203) (lG S (cRf S a 802) c.toNatClampNeg))) (rL S (lG S (cRf S a 801) (cFi S (lG S (cRf S a 804) b.toNatClampNeg) 206 * 2 + t).toNatClampNeg)) 0 x2) (rL S (lG S (cRf S a 801) (cFi S (lG S (cRf S a 804) b.toNatClampNeg) 206 * 2 + t).toNatClampNeg)) (lG S (cRf S a 802) c.toNatClampNeg) S2 → ∀ S6, tlR (cSetR S2 (lG S (cRf S a 802) c.toNatClampNeg) 102 (some (lG S (cRf S a 801) (cFi S (lG S (cRf S a 804) b.toNatClampNeg) 206 * 2 + t).toNatClampNeg))) (cRf S a 806) N x u (cNote 0 (cFi S (lG S (cRf S a 802) c.toNatClampNeg) 100) (cFi S (lG S (cRf S a 804) b.toNatClampNeg) 206)) S6 → K (rI (nI (rN S (cRf S (lG S (cRf S a 804) b.toNatClampNeg) 203) - 1))) S6)))))
theorem spcX7_drop {av : List Value} {S : cS} {W9 : xWd} : (spX7_drop W9).1 av S = (11, 160) := rfl
theorem spwX7_drop {S : cS} {W9 : xWd} {K : xRes → cS → Prop} {a : Nat} {b : Int32} {c : Int32} {t : Int32} : (spX7_drop W9).2 [.ref a, .int b, .int c, .int t] S K = (cK S a = 9 ∧ (cIn S a 804 1 ∧ lAll S (cRf S a 804) 3) ∧ (cIn S a 802 1 ∧ lAll S (cRf S a 802) 2) ∧ ((cIn S a 801 1 ∧ lAll S (cRf S a 801) 6) ∧ cFi S (cRf S a 801) 2 = 16) ∧ cFr S a 806 = some (cRf S a 806) ∧ ∃ N x u, stL S (cRf S a 806) N x u ∧ (¬ ((0 ≤ b ∧ b < cFi S (cRf S a 804) 2) ∧ (0 ≤ c ∧ c < cFi S (cRf S a 802) 2) ∧ 0 ≤ t ∧ t < 2) → K (rX "java/lang/IndexOutOfBoundsException") S) ∧ ((0 ≤ b ∧ b < cFi S (cRf S a 804) 2) ∧ (0 ≤ c ∧ c < cFi S (cRf S a 802) 2) ∧ 0 ≤ t ∧ t < 2 → (bOk S (lG S (cRf S a 804) b.toNatClampNeg) ∧ gOk S (lG S (cRf S a 802) c.toNatClampNeg) ∧ lCap W9 S (rL S (cRf S (lG S (cRf S a 804) b.toNatClampNeg) 203)) ∧ (cFi S (cRf S (lG S (cRf S a 804) b.toNatClampNeg) 203) 504 = nI (rPc S (cRf S (lG S (cRf S a 804) b.toNatClampNeg) 203)) ∧ 0 < rPc S (cRf S (lG S (cRf S a 804) b.toNatClampNeg) 203) ∧ rPc S (cRf S (lG S (cRf S a 804) b.toNatClampNeg) 203) ≤ 4) ∧ rN S (cRf S (lG S (cRf S a 804) b.toNatClampNeg) 203) < 30 ∧ ((cFi S (lG S (cRf S a 804) b.toNatClampNeg) 207 = -1 ∧ (cRf S (lG S (cRf S a 802) c.toNatClampNeg) 102) = (cRf S (lG S (cRf S a 804) b.toNatClampNeg) 203)) → (0 ≤ cFi S (lG S (cRf S a 804) b.toNatClampNeg) 206 ∧ cFi S (lG S (cRf S a 804) b.toNatClampNeg) 206 < 8) ∧ cIn S (lG S (cRf S a 801) (cFi S (lG S (cRf S a 804) b.toNatClampNeg) 206 * 2 + t).toNatClampNeg) 505 1 ∧ lCap W9 S (rL S (lG S (cRf S a 801) (cFi S (lG S (cRf S a 804) b.toNatClampNeg) 206 * 2 + t).toNatClampNeg)) ∧ rN S (lG S (cRf S a 801) (cFi S (lG S (cRf S a 804) b.toNatClampNeg) 206 * 2 + t).toNatClampNeg) < 30 ∧ lKd S (rL S (lG S (cRf S a 801) (cFi S (lG S (cRf S a 804) b.toNatClampNeg) 206 * 2 + t).toNatClampNeg)) 2 ∧ ¬ rL S (lG S (cRf S a 801) (cFi S (lG S (cRf S a 804) b.toNatClampNeg) 206 * 2 + t).toNatClampNeg) = rL S (cRf S (lG S (cRf S a 804) b.toNatClampNeg) 203) ∧ (cRf S (rL S (lG S (cRf S a 801) (cFi S (lG S (cRf S a 804) b.toNatClampNeg) 206 * 2 + t).toNatClampNeg)) 1 = wE W9 ∨ ¬ cRf S (rL S (lG S (cRf S a 801) (cFi S (lG S (cRf S a 804) b.toNatClampNeg) 206 * 2 + t).toNatClampNeg)) 1 = cRf S (rL S (cRf S (lG S (cRf S a 804) b.toNatClampNeg) 203)) 1))) ∧ (¬ ((cFi S (lG S (cRf S a 804) b.toNatClampNeg) 207 = -1 ∧ (cRf S (lG S (cRf S a 802) c.toNatClampNeg) 102) = (cRf S (lG S (cRf S a 804) b.toNatClampNeg) 203))) → K (rX "java/lang/IllegalStateException") S) ∧ (((cFi S (lG S (cRf S a 804) b.toNatClampNeg) 207 = -1 ∧ (cRf S (lG S (cRf S a 802) c.toNatClampNeg) 102) = (cRf S (lG S (cRf S a 804) b.toNatClampNeg) 203))) → (¬ ((cFi S (rL S (lG S (cRf S a 801) (cFi S (lG S (cRf S a 804) b.toNatClampNeg) 206 * 2 + t).toNatClampNeg)) 2 < cFi S (lG S (cRf S a 801) (cFi S (lG S (cRf S a 804) b.toNatClampNeg) 206 * 2 + t).toNatClampNeg) 503 ∧ rDg S (cRf S (lG S (cRf S a 804) b.toNatClampNeg) 203) (rPl S (cRf S (lG S (cRf S a 804) b.toNatClampNeg) 203) (lG S (cRf S a 802) c.toNatClampNeg) (rN S (cRf S (lG S (cRf S a 804) b.toNatClampNeg) 203)) 0) none (rPc S (cRf S (lG S (cRf S a 804) b.toNatClampNeg) 203)) (rN S (cRf S (lG S (cRf S a 804) b.toNatClampNeg) 203) + 1) = false)) → K (rX "java/lang/IllegalStateException") S) ∧ (((cFi S (rL S (lG S (cRf S a 801) (cFi S (lG S (cRf S a 804) b.toNatClampNeg) 206 * 2 + t).toNatClampNeg)) 2 < cFi S (lG S (cRf S a 801) (cFi S (lG S (cRf S a 804) b.toNatClampNeg) 206 * 2 + t).toNatClampNeg) 503 ∧ rDg S (cRf S (lG S (cRf S a 804) b.toNatClampNeg) 203) (rPl S (cRf S (lG S (cRf S a 804) b.toNatClampNeg) 203) (lG S (cRf S a 802) c.toNatClampNeg) (rN S (cRf S (lG S (cRf S a 804) b.toNatClampNeg) 203)) 0) none (rPc S (cRf S (lG S (cRf S a 804) b.toNatClampNeg) 203)) (rN S (cRf S (lG S (cRf S a 804) b.toNatClampNeg) 203) + 1) = false)) → ∀ x2 S2, lAdd W9 (cSetI (lRem (cSetI S (lG S (cRf S a 804) b.toNatClampNeg) 205 (cFi S (lG S (cRf S a 804) b.toNatClampNeg) 205 + (1 + rBh S (cRf S (lG S (cRf S a 804) b.toNatClampNeg) 203) (lG S (cRf S a 802) c.toNatClampNeg) 0))) (rL S (cRf S (lG S (cRf S a 804) b.toNatClampNeg) 203)) (rP S (cRf S (lG S (cRf S a 804) b.toNatClampNeg) 203) (lG S (cRf S a 802) c.toNatClampNeg))) (rL S (lG S (cRf S a 801) (cFi S (lG S (cRf S a 804) b.toNatClampNeg) 206 * 2 + t).toNatClampNeg)) 0 x2) (rL S (lG S (cRf S a 801) (cFi S (lG S (cRf S a 804) b.toNatClampNeg) 206 * 2 + t).toNatClampNeg)) (lG S (cRf S a 802) c.toNatClampNeg) S2 → ∀ S6, tlR (cSetR S2 (lG S (cRf S a 802) c.toNatClampNeg) 102 (some (lG S (cRf S a 801) (cFi S (lG S (cRf S a 804) b.toNatClampNeg) 206 * 2 + t).toNatClampNeg))) (cRf S a 806) N x u (cNote 0 (cFi S (lG S (cRf S a 802) c.toNatClampNeg) 100) (cFi S (lG S (cRf S a 804) b.toNatClampNeg) 206)) S6 → K (rI (nI (rN S (cRf S (lG S (cRf S a 804) b.toNatClampNeg) 203) - 1))) S6)))) :=
  propext ⟨fun h => by
    simp only [spX7_drop] at h
    obtain ⟨_, _, _, _, e, h⟩ := h
    simp only [List.cons.injEq, Value.int.injEq, Value.ref.injEq, rf_eq, and_true, true_and] at e
    obtain ⟨rfl, rfl, rfl, rfl⟩ := e
    exact h, fun h => ⟨_, _, _, _, rfl, h⟩⟩

def callX7_drop (W9 : xWd) : Nat → Option (xSp cS) := fun n => match n with | 0 => some (spX7_needBoat W9) | 1 => some (spX7_needBarge W9) | 2 => some (spX7_needIndex W9) | 3 => some (spX1_isUnderWay W9) | 4 => some (spX7_needState W9) | 5 => some (spX7_needTier W9) | 6 => some (spX4_hasRoom W9) | 7 => some (spX4_placeOf W9) | 8 => some (spX4_isDangerous W9) | 9 => some (spX4_behind W9) | 10 => some (spX4_release W9) | 11 => some (spX4_append W9) | 12 => some (spX6_tell W9) | 13 => some (spX4_size W9) | _ => none

theorem callX7_drop_0 {W9 : xWd} {k : xSp cS → Prop} : xcs (callX7_drop W9 0) k = k (spX7_needBoat W9) := rfl

theorem callX7_drop_1 {W9 : xWd} {k : xSp cS → Prop} : xcs (callX7_drop W9 1) k = k (spX7_needBarge W9) := rfl

theorem callX7_drop_2 {W9 : xWd} {k : xSp cS → Prop} : xcs (callX7_drop W9 2) k = k (spX7_needIndex W9) := rfl

theorem callX7_drop_3 {W9 : xWd} {k : xSp cS → Prop} : xcs (callX7_drop W9 3) k = k (spX1_isUnderWay W9) := rfl

theorem callX7_drop_4 {W9 : xWd} {k : xSp cS → Prop} : xcs (callX7_drop W9 4) k = k (spX7_needState W9) := rfl

theorem callX7_drop_5 {W9 : xWd} {k : xSp cS → Prop} : xcs (callX7_drop W9 5) k = k (spX7_needTier W9) := rfl

theorem callX7_drop_6 {W9 : xWd} {k : xSp cS → Prop} : xcs (callX7_drop W9 6) k = k (spX4_hasRoom W9) := rfl

theorem callX7_drop_7 {W9 : xWd} {k : xSp cS → Prop} : xcs (callX7_drop W9 7) k = k (spX4_placeOf W9) := rfl

theorem callX7_drop_8 {W9 : xWd} {k : xSp cS → Prop} : xcs (callX7_drop W9 8) k = k (spX4_isDangerous W9) := rfl

theorem callX7_drop_9 {W9 : xWd} {k : xSp cS → Prop} : xcs (callX7_drop W9 9) k = k (spX4_behind W9) := rfl

theorem callX7_drop_10 {W9 : xWd} {k : xSp cS → Prop} : xcs (callX7_drop W9 10) k = k (spX4_release W9) := rfl

theorem callX7_drop_11 {W9 : xWd} {k : xSp cS → Prop} : xcs (callX7_drop W9 11) k = k (spX4_append W9) := rfl

theorem callX7_drop_12 {W9 : xWd} {k : xSp cS → Prop} : xcs (callX7_drop W9 12) k = k (spX6_tell W9) := rfl

theorem callX7_drop_13 {W9 : xWd} {k : xSp cS → Prop} : xcs (callX7_drop W9 13) k = k (spX4_size W9) := rfl

theorem crX7_drop (l : Launch) (hl : l.stackTraces = false) (W9 : xWd) : xCallsOK l W9 (cI) (callX7_drop W9) clX7_drop RX7 wsX7_drop 9 212 7 := by
  intro E A p e R s m args below meth c hI hF hL X
  exact List.forall_mem_cons.mpr ⟨⟨_, rfl, xCR_V X (by rw [hI]; exact (semX7_needBoat l hl W9)) gX7_drop_X7_needBoat rfl rfl (by decide +kernel) (by rw [hF, hL]; decide)⟩,
    List.forall_mem_cons.mpr ⟨⟨_, rfl, xCR_V X (by rw [hI]; exact (semX7_needBarge l hl W9)) gX7_drop_X7_needBarge rfl rfl (by decide +kernel) (by rw [hF, hL]; decide)⟩,
    List.forall_mem_cons.mpr ⟨⟨_, rfl, xCR_S X (by rw [hI]; exact (semX7_needIndex l hl W9)) gX7_drop_X7_needIndex rfl (by decide +kernel) (by rw [hF, hL]; decide)⟩,
    List.forall_mem_cons.mpr ⟨⟨_, rfl, xCR_V X (by rw [hI]; exact (semX1_isUnderWay l hl W9)) gX7_drop_X1_isUnderWay rfl rfl (by decide +kernel) (by rw [hF, hL]; decide)⟩,
    List.forall_mem_cons.mpr ⟨⟨_, rfl, xCR_S X (by rw [hI]; exact (semX7_needState l hl W9)) gX7_drop_X7_needState rfl (by decide +kernel) (by rw [hF, hL]; decide)⟩,
    List.forall_mem_cons.mpr ⟨⟨_, rfl, xCR_V X (by rw [hI]; exact (semX7_needTier l hl W9)) gX7_drop_X7_needTier rfl rfl (by decide +kernel) (by rw [hF, hL]; decide)⟩,
    List.forall_mem_cons.mpr ⟨⟨_, rfl, xCR_V X (by rw [hI]; exact (semX4_hasRoom l hl W9)) gX7_drop_X4_hasRoom rfl rfl (by decide +kernel) (by rw [hF, hL]; decide)⟩,
    List.forall_mem_cons.mpr ⟨⟨_, rfl, xCR_V X (by rw [hI]; exact (semX4_placeOf l hl W9)) gX7_drop_X4_placeOf rfl rfl (by decide +kernel) (by rw [hF, hL]; decide)⟩,
    List.forall_mem_cons.mpr ⟨⟨_, rfl, xCR_V X (by rw [hI]; exact (semX4_isDangerous l hl W9)) gX7_drop_X4_isDangerous rfl rfl (by decide +kernel) (by rw [hF, hL]; decide)⟩,
    List.forall_mem_cons.mpr ⟨⟨_, rfl, xCR_V X (by rw [hI]; exact (semX4_behind l hl W9)) gX7_drop_X4_behind rfl rfl (by decide +kernel) (by rw [hF, hL]; decide)⟩,
    List.forall_mem_cons.mpr ⟨⟨_, rfl, xCR_V X (by rw [hI]; exact (semX4_release l hl W9)) gX7_drop_X4_release rfl rfl (by decide +kernel) (by rw [hF, hL]; decide)⟩,
    List.forall_mem_cons.mpr ⟨⟨_, rfl, xCR_V X (by rw [hI]; exact (semX4_append l hl W9)) gX7_drop_X4_append rfl rfl (by decide +kernel) (by rw [hF, hL]; decide)⟩,
    List.forall_mem_cons.mpr ⟨⟨_, rfl, xCR_V X (by rw [hI]; exact (semX6_tell l hl W9)) gX7_drop_X6_tell rfl rfl (by decide +kernel) (by rw [hF, hL]; decide)⟩,
    List.forall_mem_cons.mpr ⟨⟨_, rfl, xCR_V X (by rw [hI]; exact (semX4_size l hl W9)) gX7_drop_X4_size rfl rfl (by decide +kernel) (by rw [hF, hL]; decide)⟩,
    fun _ h => nomatch h⟩⟩⟩⟩⟩⟩⟩⟩⟩⟩⟩⟩⟩⟩

set_option maxHeartbeats 1500000 in
set_option maxRecDepth 20000 in
theorem semX7_drop (l : Launch) (hl : l.stackTraces = false) (W9 : xWd) : xSem l W9 (cI) yX7_drop wsX7_drop 9 212 (spX7_drop W9) := by
  refine xSem_of (call := callX7_drop W9) (thrf := fun _ => "") cI_law (by decide +kernel) rfl ckX7_drop usX7_drop (crX7_drop l hl W9) xThrOK_nil ?_ ?_
  · intro av S KF h
    obtain ⟨a, b, c, t, rfl, h⟩ := h
    exact ⟨by intro v hv; simp only [List.mem_cons, List.not_mem_nil, or_false] at hv; rcases hv with rfl | rfl | rfl | rfl <;> first | rfl | exact cat_rf, Nat.le_of_ble_eq_true rfl⟩
  intro av S KF h G hG
  obtain ⟨a, b, c, t, rfl, h⟩ := h
  rw [show (spX7_drop W9).1 _ S = _ from spcX7_drop] at hG
  try dsimp only at hG
  change G 0 [some (.ref a), some (.int b), some (.int c), some (.int t), none, none, none] [] S 0 0
  obtain ⟨h0, ⟨⟨h1, h1b⟩, h2⟩, ⟨h3, h4⟩, ⟨⟨t1, t2⟩, t3⟩, h5, N, x, u, h6, hbad, hok⟩ := h

  generalize hSt : cRf S a 806 = st0 at *
  have hi1 : cIn S a 804 1 := ⟨h1, h1b⟩
  by_cases q1 : 0 ≤ b ∧ b < cFi S (cRf S a 804) 2
  · by_cases q2 : 0 ≤ c ∧ c < cFi S (cRf S a 802) 2
    · by_cases q3 : 0 ≤ t ∧ t < 2
      · obtain ⟨⟨hB, hGk, hcT, hpl, h30, hsep⟩, hz⟩ := hok ⟨q1, q2, q3⟩
        clear hok
        obtain ⟨-, g2⟩ := lAll_at h2 q1.1 q1.2
        obtain ⟨-, k2⟩ := lAll_at h4 q2.1 q2.2
        generalize hw0 : lG S (cRf S a 804) b.toNatClampNeg = w at *
        generalize hg0 : lG S (cRf S a 802) c.toNatClampNeg = g at *
        obtain ⟨-, ⟨b2, b2b⟩, b3⟩ := hB
        obtain ⟨⟨r1, r1b⟩, r3, r4, -⟩ := hGk
        generalize hT : cRf S w 203 = tw at *
        obtain ⟨f1, f2, f3, f4, f5, f6⟩ := rOk_facts b3
        have f7 : cIn S tw 505 1 := b3.2.1
        have f8 : cRf S tw 505 = rL S tw := rfl
        by_cases w1 : cFi S w 207 = -1 ∧ cRf S g 102 = tw
        · obtain ⟨p1, p2, p3, p4, p5, s1, s2⟩ := hsep w1
          have hz1 := hz.2 w1
          clear hz
          have hR := w1.2
          rw [hR] at r1 r1b r3 r4
          have e1 : bi (¬ cFi S w 207 = -1) = 0 := bi_f (fun z => z w1.1)
          have qq : (0 ≤ cFi S w 206 ∧ cFi S w 206 < 8) ∧ 0 ≤ t ∧ t < 2 := ⟨p1, q3⟩
          have q9 : 0 ≤ cFi S w 206 * 2 + t ∧ cFi S w 206 * 2 + t < cFi S (cRf S a 801) 2 := by rw [t3]; grind
          obtain ⟨-, m2⟩ := lAll_at t2 q9.1 q9.2
          generalize hR2 : lG S (cRf S a 801) (cFi S w 206 * 2 + t).toNatClampNeg = r at *
          obtain ⟨p2a, p2b⟩ := p2
          have p2c : cIn S r 505 1 := ⟨p2a, p2b⟩
          have p2d : cRf S r 505 = rL S r := rfl
          have hm2 : ∀ c, (none : Option Nat) = some c → cK S c = 2 := fun c z => by cases z
          by_cases w2 : cFi S (rL S r) 2 < cFi S r 503
          · have e3 : bi (cFi S (rL S r) 2 < cFi S r 503) = 1 := bi_t w2
            by_cases w3 : rDg S tw (rPl S tw g (rN S tw) 0) none (rPc S tw) (rN S tw + 1) = false
            · have hr := hz1.2 ⟨w2, w3⟩
              have e4 : bi (rDg S tw (rPl S tw g (rN S tw) 0) none (rPc S tw) (rN S tw + 1) = true) = 0 := bi_f (fun z => by rw [w3] at z; cases z)
              generalize hsh : rBh S tw g 0 = sh at *
              generalize hlo : rPl S tw g (rN S tw) 0 = lo at *
              have hp : rP S tw g < lCn S (rL S tw) := r4.2
              have la := live_of h0 (by omega)
              have lw := live_of g2 (by omega)
              have lg := live_of k2 (by omega)
              have lt := live_of f1 (by omega)
              have lr := live_of m2 (by omega)
              have nwg : (w = g) = False := eq_false (fun z => by rw [z] at g2; omega)
              have ngw : (g = w) = False := eq_false (fun z => by rw [z] at k2; omega)
              have nag : (a = g) = False := eq_false (fun z => by rw [z] at h0; omega)
              have naw : (a = w) = False := eq_false (fun z => by rw [z] at h0; omega)
              have ntg : (tw = g) = False := eq_false (fun z => by rw [z] at f1; omega)
              have nrg : (r = g) = False := eq_false (fun z => by rw [z] at m2; omega)
              obtain ⟨n0, n1, n2⟩ : True ∧ True ∧ True := ⟨trivial, trivial, trivial⟩
              generalize hWk : cFi S w 205 + (1 + sh) = wk at *
              have hs1 : lSame S (lRem (cSetI S w 205 wk) (rL S tw) (rP S tw g)) (rL S r) := by
                refine (same_sI (L := rL S r) (q := w) (g := 205) (x := wk) (Or.inl (by omega))).trans ?_
                rcases s2 with z | z
                · refine lRem_same s1 (fun y => ?_)
                  rcases hcT.2.2.2.2 with v | v
                  · omega
                  · exact v.1 (y.symm.trans z)
                · exact lRem_same s1 z
              have hf1 : fr1 (cSetI S w 205 wk) (lRem (cSetI S w 205 wk) (rL S tw) (rP S tw g)) := fr1_rem
              have hcap0 : lCap W9 (cSetI S w 205 wk) (rL S r) := by rw [lCap_sI (by omega)]; exact p3
              have hs1b : lSame (cSetI S w 205 wk) (lRem (cSetI S w 205 wk) (rL S tw) (rP S tw g)) (rL S r) := by
                rcases s2 with z | z
                · refine lRem_same s1 (fun y => ?_)
                  rcases hcT.2.2.2.2 with v | v
                  · omega
                  · exact v.1 (y.symm.trans z)
                · exact lRem_same s1 z
              have hcT1 := hcap0.mono hf1 hs1b
              have hkd0 : lKd (cSetI S w 205 wk) (rL S r) 2 := by unfold lKd; rw [lCn_sI (by omega)]; exact p5
              have hkd1 := hkd0.mono hf1 hs1b
              have hn1 : lCn (lRem (cSetI S w 205 wk) (rL S tw) (rP S tw g)) (rL S r) = rN S r := hs1.rd.1
              have hrm := lRem_new (W9 := W9) (S := cSetI S w 205 wk) (L := rL S tw) (p := rP S tw g) (by rw [lCap_sI (by omega)]; exact hcT) (by rw [lCn_sI (by omega)]; exact hp)
              have htn : lCn (lRem (cSetI S w 205 wk) (rL S tw) (rP S tw g)) (rL S tw) = rN S tw - 1 := by rw [hrm.2.1, lCn_sI (by omega)]; rfl
              have hta : cRf (lRem (cSetI S w 205 wk) (rL S tw) (rP S tw g)) (rL S tw) 1 = cRf S (rL S tw) 1 := hrm.2.2.1
              have hra : cRf (lRem (cSetI S w 205 wk) (rL S tw) (rP S tw g)) (rL S r) 1 = cRf S (rL S r) 1 := hs1.rd.2.1
              have hcapT := hrm.1
              have ka1 : cK (lRem (cSetI S w 205 wk) (rL S tw) (rP S tw g)) a = 9 := h0
              have kw1 : cK (lRem (cSetI S w 205 wk) (rL S tw) (rP S tw g)) w = 3 := g2
              have kg1 : cK (lRem (cSetI S w 205 wk) (rL S tw) (rP S tw g)) g = 2 := k2
              have kt1 : cK (lRem (cSetI S w 205 wk) (rL S tw) (rP S tw g)) tw = 6 := f1
              have kr1 : cK (lRem (cSetI S w 205 wk) (rL S tw) (rP S tw g)) r = 6 := m2
              have fw1 : cFr (lRem (cSetI S w 205 wk) (rL S tw) (rP S tw g)) w 203 = some tw := b2
              have ft1 : cFr (lRem (cSetI S w 205 wk) (rL S tw) (rP S tw g)) tw 505 = some (rL S tw) := f2
              have fr5 : cFr (lRem (cSetI S w 205 wk) (rL S tw) (rP S tw g)) r 505 = some (rL S r) := p2a
              have fs1 : cFr (lRem (cSetI S w 205 wk) (rL S tw) (rP S tw g)) a 806 = some st0 := h5
              have iw1 : cFi (lRem (cSetI S w 205 wk) (rL S tw) (rP S tw g)) w 206 = cFi S w 206 := by rw [hf1.2.1 w 206 (by omega) lw, cFi_setI, if_neg (fun z => by omega)]
              have ig1 : cFi (lRem (cSetI S w 205 wk) (rL S tw) (rP S tw g)) g 100 = cFi S g 100 := by rw [hf1.2.1 g 100 (by omega) lg, cFi_setI, if_neg (fun z => by omega)]
              have hst1 : stL (lRem (cSetI S w 205 wk) (rL S tw) (rP S tw g)) st0 N x u := by
                obtain ⟨y0, y1, y2, y3, y4, y5, y6, y7, y8⟩ := h6
                have nsw : (st0 = w) = False := eq_false (fun z => by rw [z] at y0; omega)
                have nxw : (x = w) = False := eq_false (fun z => by rw [z] at y4; omega)
                refine stL.mono (S := cSetI S w 205 wk) ⟨y0, ?_, y2, y3, y4, y5, y6, ?_, y8⟩ hf1
                · simp only [cFi_setI, nsw, false_and, if_false]; exact y1
                · simp only [cFi_setI, nxw, false_and, if_false]; exact y7
              generalize hS1 : lRem (cSetI S w 205 wk) (rL S tw) (rP S tw g) = S1 at *
              have la1 := live_of ka1 (by omega)
              have lw1 := live_of kw1 (by omega)
              have lg1 := live_of kg1 (by omega)
              have lt1 := live_of kt1 (by omega)
              have rl1 : rL S1 r = rL S r := by unfold rL cRf; rw [fr5, p2a]; rfl
              have z1 : rOk (cSetI S w 205 wk) tw = rOk S tw := rOk_sI (by omega)
              have z2 : rHas (cSetI S w 205 wk) tw g = rHas S tw g := rHas_sI (by omega)
              have z3 : lCap W9 (cSetI S w 205 wk) (rL S tw) = lCap W9 S (rL S tw) := lCap_sI (by omega)
              have z4 : rP (cSetI S w 205 wk) tw g = rP S tw g := rP_sI (by omega)
              have rn1 : rN S1 r = rN S r := by show lCn S1 (rL S1 r) = _; rw [rl1]; exact hn1
              have in1 : cIn S1 r 505 1 := ⟨by show cFr S1 r 505 = some (rL S1 r); rw [rl1]; exact fr5, by show cK S1 (rL S1 r) = 1; rw [rl1]; exact hcT1.1⟩
              have k137 : ∀ S2, lAdd W9 (cSetI S1 (rL S r) 0 (cFi S1 (rL S r) 0 + 1)) (rL S r) g S2 → G 137 [some (.ref a), some (.int b), some (.int c), some (.int t), some (.ref w), some (.ref g), some (.ref r)] [] (cSetR S2 g 102 (some r)) 9 93 := by
                intro S2 hA
                have hr2 := hr _ S2 hA
                have hf2 : fr1 S1 S2 := (fr1_m (L := rL S r) (g := 0) (x := cFi S1 (rL S r) 0 + 1) (by omega)).trans (fr1_add hA)
                have hs2 : lSame S1 S2 (rL S tw) := by
                  refine (same_m (L := rL S tw) (q := rL S r) (x := cFi S1 (rL S r) 0 + 1)).trans (same_add hA (by rw [lCap_m]; exact hcapT) (fun z => s1 z.symm) ?_)
                  rw [cRf_m, cRf_m, hta, hra]
                  rcases s2 with z | z
                  · refine Or.inr (fun y => ?_)
                    rcases hcT.2.2.2.2 with v | v
                    · omega
                    · exact v.1 (y.trans z)
                  · exact Or.inr (fun y => z y.symm)
                have ka2 := (hf2.1 a la1).trans ka1
                have kw2 := (hf2.1 w lw1).trans kw1
                have kg2 := (hf2.1 g lg1).trans kg1
                have kt2 := (hf2.1 tw lt1).trans kt1
                have fw2 := (hf2.2.2.1 w 203 (by omega) lw1).trans fw1
                have ft2 := (hf2.2.2.1 tw 505 (by omega) lt1).trans ft1
                have fs2 := (hf2.2.2.1 a 806 (by omega) la1).trans fs1
                have iw2 := (hf2.2.1 w 206 (by omega) lw1).trans iw1
                have ig2 := (hf2.2.1 g 100 (by omega) lg1).trans ig1
                obtain ⟨y0, y1, y2, y3, y4, y5, y6, y7, y8⟩ := hst1.mono hf2
                have nsg : (st0 = g) = False := eq_false (fun z => by rw [z] at y0; omega)
                have nxg : (x = g) = False := eq_false (fun z => by rw [z] at y4; omega)
                have e9 : ∀ S9, cFr S9 x 400 = cFr S2 x 400 → cRf S9 x 400 = cRf S2 x 400 := fun S9 z => by unfold cRf; rw [z]
                generalize hS5 : cSetR S2 g 102 (some r) = S5 at *
                have hst5 : stL S5 st0 N x u := by
                  rw [← hS5]
                  have e : cRf (cSetR S2 g 102 (some r)) x 400 = cRf S2 x 400 := e9 _ (by simp only [cFr_setR, nxg, false_and, if_false])
                  refine ⟨y0, y1, y2, ?_, y4, ?_, ?_, y7, y8⟩
                  · simp only [cFr_setR, nsg, false_and, if_false]; exact y3
                  · exact ⟨by rw [e]; simp only [cFr_setR, nxg, false_and, if_false]; exact y5.1, by rw [e]; exact y5.2⟩
                  · rw [e]; exact y6
                have ks5 : cK S5 st0 = 8 := hst5.1
                have ka5 : cK S5 a = 9 := by rw [← hS5]; exact ka2
                have kw5 : cK S5 w = 3 := by rw [← hS5]; exact kw2
                have kg5 : cK S5 g = 2 := by rw [← hS5]; exact kg2
                have kt5 : cK S5 tw = 6 := by rw [← hS5]; exact kt2
                have fs5 : cFr S5 a 806 = some st0 := by rw [← hS5]; simp only [cFr_setR, nag, false_and, if_false]; exact fs2
                have ig5 : cFi S5 g 100 = cFi S g 100 := by rw [← hS5]; exact ig2
                have iw5 : cFi S5 w 206 = cFi S w 206 := by rw [← hS5]; exact iw2
                have fw5 : cFr S5 w 203 = some tw := by rw [← hS5]; simp only [cFr_setR, nwg, false_and, if_false]; exact fw2
                have ft5 : cFr S5 tw 505 = some (rL S tw) := by rw [← hS5]; simp only [cFr_setR, ntg, false_and, if_false]; exact ft2
                have hl5 : cK S5 (rL S tw) = 1 ∧ cFi S5 (rL S tw) 2 = nI (rN S tw - 1) := by
                  rw [← hS5]
                  have z := hcapT.mono hf2 hs2
                  refine ⟨z.1, z.2.1.trans ?_⟩
                  rw [hs2.rd.1, htn]
                refine xgo0 hG (fun fu hfu => ?_)
                simp only [↓callX7_drop_0, ↓callX7_drop_1, ↓callX7_drop_10, ↓callX7_drop_11, ↓callX7_drop_12, ↓callX7_drop_13, ↓callX7_drop_2, ↓callX7_drop_3, ↓callX7_drop_4, ↓callX7_drop_5, ↓callX7_drop_6, ↓callX7_drop_7, ↓callX7_drop_8, ↓callX7_drop_9, ↓cg_1_0, ↓cg_1_2, ↓cg_2_3, ↓cg_2_5, ↓cg_2_6, ↓cg_8_6, cisa, ↓cp_2_5, ki_0, ki_1, ki_2, ↓vm_aconst_null, ↓vm_aload, ↓vm_aload_n, ↓vm_astore, ↓vm_dup, ↓vm_getfield, ↓vm_goto, ↓vm_iadd, ↓vm_iconst, ↓vm_ifCond_eq, ↓vm_ifCond_ne, ↓vm_if_acmp_ne, ↓vm_iload_n, ↓vm_invokestatic, ↓vm_invokevirtual, ↓vm_ireturn, ↓vm_putfield, ↓xc_1, ↓xc_2, ↓xc_3, ↓xc_4, ↓tbX7_drop_0, ↓tbX7_drop_1, ↓tbX7_drop_2, ↓tbX7_drop_5, ↓tbX7_drop_7, ↓tbX7_drop_8, ↓tbX7_drop_9, ↓tbX7_drop_12, ↓tbX7_drop_14, ↓tbX7_drop_15, ↓tbX7_drop_16, ↓tbX7_drop_19, ↓tbX7_drop_21, ↓tbX7_drop_24, ↓tbX7_drop_27, ↓tbX7_drop_29, ↓tbX7_drop_32, ↓tbX7_drop_34, ↓tbX7_drop_37, ↓tbX7_drop_40, ↓tbX7_drop_41, ↓tbX7_drop_44, ↓tbX7_drop_45, ↓tbX7_drop_48, ↓tbX7_drop_49, ↓tbX7_drop_51, ↓tbX7_drop_54, ↓tbX7_drop_55, ↓tbX7_drop_58, ↓tbX7_drop_60, ↓tbX7_drop_62, ↓tbX7_drop_65, ↓tbX7_drop_68, ↓tbX7_drop_70, ↓tbX7_drop_73, ↓tbX7_drop_75, ↓tbX7_drop_78, ↓tbX7_drop_80, ↓tbX7_drop_83, ↓tbX7_drop_84, ↓tbX7_drop_87, ↓tbX7_drop_90, ↓tbX7_drop_91, ↓tbX7_drop_94, ↓tbX7_drop_95, ↓tbX7_drop_98, ↓tbX7_drop_100, ↓tbX7_drop_101, ↓tbX7_drop_104, ↓tbX7_drop_105, ↓tbX7_drop_107, ↓tbX7_drop_110, ↓tbX7_drop_112, ↓tbX7_drop_115, ↓tbX7_drop_116, ↓tbX7_drop_117, ↓tbX7_drop_120, ↓tbX7_drop_122, ↓tbX7_drop_125, ↓tbX7_drop_127, ↓tbX7_drop_130, ↓tbX7_drop_132, ↓tbX7_drop_134, ↓tbX7_drop_137, ↓tbX7_drop_138, ↓tbX7_drop_141, ↓tbX7_drop_142, ↓tbX7_drop_144, ↓tbX7_drop_147, ↓tbX7_drop_149, ↓tbX7_drop_152, ↓tbX7_drop_155, ↓tbX7_drop_157, ↓tbX7_drop_160, ↓tbX7_drop_163, hfu, xstep0, xJ1_hit, xJ1_go, xJ2_hit1, xJ2_hit2, xJ2_go, ↓xif_t, ↓xif_f, seval, ↓xca_eq, ↓xre_l, ↓xre_r, xmask_t, xmask_f, xmask_nil, ↓xst_eq, xX_eq, eI_eq, eMc_eq, eMs_eq, eF_eq, eThr_eq, ↓xS1_mk, ↓xSI_mk, ↓xSR_mk, ↓xLI_0, ↓xLI_s, ↓xLR_0, ↓xLR_s, vRef_ref, vRef_null, vRef_rf, cat_int, cat_ref, cat_null, cat_rf, rf_some, rf_none, rf_null, rf_eq, rf_ref, ref_rf, ref_null, ref_ref, xOk_0, xOk_1, xOk_2r, xOk_2n, xOk_2f, vOpt_rf, vOpt_ref, vOpt_null, List.set_cons_zero, List.set_cons_succ, List.take_succ_cons, List.take_zero, List.drop_succ_cons, List.drop_zero, List.reverse_cons, List.reverse_nil, List.nil_append, List.cons_append, List.append_nil, List.length_cons, List.length_nil, List.map_cons, List.map_nil, List.sum_cons, List.sum_nil, Option.toList_some, Option.toList_none, xRecv_mk, true_and, and_true, true_implies, Nat.reduceAdd, Nat.reduceLeDiff, Nat.zero_le, Nat.le_refl, Nat.add_zero, Nat.zero_add, reduceIte, not_true_eq_false, not_false_eq_true, false_implies, and_self, implies_true, eq_self, Nat.reduceEqDiff, List.cons.injEq, xsn_1, xsn_2, false_and, and_false, or_false, false_or, or_true, true_or, xsn_3, xsn_4, cK_setI, cFi_setI, cFr_setI, cLen_setI, cRi_setI, ↓spwX4_isDangerous_n, rL_sI, ↓spwX7_needBoat, spcX7_needBoat, ↓spwX7_needBarge, spcX7_needBarge, ↓spwX7_needIndex, spcX7_needIndex, ↓spwX1_isUnderWay, spcX1_isUnderWay, ↓spwX7_needState, spcX7_needState, ↓spwX7_needTier, spcX7_needTier, ↓spwX4_hasRoom, spcX4_hasRoom, ↓spwX4_placeOf, spcX4_placeOf, ↓spwX4_isDangerous, spcX4_isDangerous, ↓spwX4_behind, spcX4_behind, ↓spwX4_release, spcX4_release, ↓spwX4_append, spcX4_append, ↓spwX6_tell, spcX6_tell, ↓spwX4_size, spcX4_size, ka5, fs5, ks5, kg5, ig5, kw5, iw5]
                try simp only [xif_e]
                refine ⟨N, x, u, hst5, fun S6 hT6 => ?_⟩
                obtain ⟨v1, -, v2, -⟩ := tlR_k hT6 hst5 kw5 (by omega)
                obtain ⟨v3, -, v4, -⟩ := tlR_k hT6 hst5 kt5 (by omega)
                obtain ⟨v5, v6, -⟩ := tlR_k hT6 hst5 hl5.1 (by omega)
                have v2 : cFr S6 w 203 = some tw := (congrFun v2 203).trans fw5
                have v4 : cFr S6 tw 505 = some (rL S tw) := (congrFun v4 505).trans ft5
                have v6 : cFi S6 (rL S tw) 2 = nI (rN S tw - 1) := (congrFun v6 2).trans hl5.2
                have v7 : cRf S6 tw 505 = rL S tw := by unfold cRf; rw [v4]; rfl
                have v8 : cIn S6 tw 505 1 := ⟨by rw [v7]; exact v4, by rw [v7]; exact v5⟩
                simp only [v1, v2, v3, v7, v8, v6, rf_some, xRecv_mk, cisa (show 5 ≤ 9 by omega), Nat.reduceAdd, eq_self, or_true, true_and, xSR_mk, ↓spwX4_size, ↓xre_l, Option.toList_some, ↓xSI_mk]
                exact hr2 S6 hT6
              refine xgo hG (head := 137) (mb := [true, true, true, true, true, true, true]) (P := fun lv st S9 cs ss => ∃ S2, lAdd W9 (cSetI S1 (rL S r) 0 (cFi S1 (rL S r) 0 + 1)) (rL S r) g S2 ∧ lv = [some (.ref a), some (.int b), some (.int c), some (.int t), some (.ref w), some (.ref g), some (.ref r)] ∧ st = [] ∧ S9 = cSetR S2 g 102 (some r) ∧ cs = 9 ∧ ss = 93) (fun lv st S9 cs ss hP => ?_) (fun fu hfu => ?_)
              · obtain ⟨S2, hA, rfl, rfl, rfl, rfl, rfl⟩ := hP
                exact k137 S2 hA
              · simp only [↓callX7_drop_0, ↓callX7_drop_1, ↓callX7_drop_10, ↓callX7_drop_11, ↓callX7_drop_12, ↓callX7_drop_13, ↓callX7_drop_2, ↓callX7_drop_3, ↓callX7_drop_4, ↓callX7_drop_5, ↓callX7_drop_6, ↓callX7_drop_7, ↓callX7_drop_8, ↓callX7_drop_9, ↓cg_1_0, ↓cg_1_2, ↓cg_2_3, ↓cg_2_5, ↓cg_2_6, ↓cg_8_6, cisa, ↓cp_2_5, ki_0, ki_1, ki_2, ↓vm_aconst_null, ↓vm_aload, ↓vm_aload_n, ↓vm_astore, ↓vm_dup, ↓vm_getfield, ↓vm_goto, ↓vm_iadd, ↓vm_iconst, ↓vm_ifCond_eq, ↓vm_ifCond_ne, ↓vm_if_acmp_ne, ↓vm_iload_n, ↓vm_invokestatic, ↓vm_invokevirtual, ↓vm_ireturn, ↓vm_putfield, ↓xc_1, ↓xc_2, ↓xc_3, ↓xc_4, ↓tbX7_drop_0, ↓tbX7_drop_1, ↓tbX7_drop_2, ↓tbX7_drop_5, ↓tbX7_drop_7, ↓tbX7_drop_8, ↓tbX7_drop_9, ↓tbX7_drop_12, ↓tbX7_drop_14, ↓tbX7_drop_15, ↓tbX7_drop_16, ↓tbX7_drop_19, ↓tbX7_drop_21, ↓tbX7_drop_24, ↓tbX7_drop_27, ↓tbX7_drop_29, ↓tbX7_drop_32, ↓tbX7_drop_34, ↓tbX7_drop_37, ↓tbX7_drop_40, ↓tbX7_drop_41, ↓tbX7_drop_44, ↓tbX7_drop_45, ↓tbX7_drop_48, ↓tbX7_drop_49, ↓tbX7_drop_51, ↓tbX7_drop_54, ↓tbX7_drop_55, ↓tbX7_drop_58, ↓tbX7_drop_60, ↓tbX7_drop_62, ↓tbX7_drop_65, ↓tbX7_drop_68, ↓tbX7_drop_70, ↓tbX7_drop_73, ↓tbX7_drop_75, ↓tbX7_drop_78, ↓tbX7_drop_80, ↓tbX7_drop_83, ↓tbX7_drop_84, ↓tbX7_drop_87, ↓tbX7_drop_90, ↓tbX7_drop_91, ↓tbX7_drop_94, ↓tbX7_drop_95, ↓tbX7_drop_98, ↓tbX7_drop_100, ↓tbX7_drop_101, ↓tbX7_drop_104, ↓tbX7_drop_105, ↓tbX7_drop_107, ↓tbX7_drop_110, ↓tbX7_drop_112, ↓tbX7_drop_115, ↓tbX7_drop_116, ↓tbX7_drop_117, ↓tbX7_drop_120, ↓tbX7_drop_122, ↓tbX7_drop_125, ↓tbX7_drop_127, ↓tbX7_drop_130, ↓tbX7_drop_132, ↓tbX7_drop_134, ↓tbX7_drop_137, ↓tbX7_drop_138, ↓tbX7_drop_141, ↓tbX7_drop_142, ↓tbX7_drop_144, ↓tbX7_drop_147, ↓tbX7_drop_149, ↓tbX7_drop_152, ↓tbX7_drop_155, ↓tbX7_drop_157, ↓tbX7_drop_160, ↓tbX7_drop_163, hfu, xstep0, xJ1_hit, xJ1_go, xJ2_hit1, xJ2_hit2, xJ2_go, ↓xif_t, ↓xif_f, seval, ↓xca_eq, ↓xre_l, ↓xre_r, xmask_t, xmask_f, xmask_nil, ↓xst_eq, xX_eq, eI_eq, eMc_eq, eMs_eq, eF_eq, eThr_eq, ↓xS1_mk, ↓xSI_mk, ↓xSR_mk, ↓xLI_0, ↓xLI_s, ↓xLR_0, ↓xLR_s, vRef_ref, vRef_null, vRef_rf, cat_int, cat_ref, cat_null, cat_rf, rf_some, rf_none, rf_null, rf_eq, rf_ref, ref_rf, ref_null, ref_ref, xOk_0, xOk_1, xOk_2r, xOk_2n, xOk_2f, vOpt_rf, vOpt_ref, vOpt_null, List.set_cons_zero, List.set_cons_succ, List.take_succ_cons, List.take_zero, List.drop_succ_cons, List.drop_zero, List.reverse_cons, List.reverse_nil, List.nil_append, List.cons_append, List.append_nil, List.length_cons, List.length_nil, List.map_cons, List.map_nil, List.sum_cons, List.sum_nil, Option.toList_some, Option.toList_none, xRecv_mk, true_and, and_true, true_implies, Nat.reduceAdd, Nat.reduceLeDiff, Nat.zero_le, Nat.le_refl, Nat.add_zero, Nat.zero_add, reduceIte, not_true_eq_false, not_false_eq_true, false_implies, and_self, implies_true, eq_self, Nat.reduceEqDiff, List.cons.injEq, xsn_1, xsn_2, false_and, and_false, or_false, false_or, or_true, true_or, xsn_3, xsn_4, cK_setI, cFi_setI, cFr_setI, cLen_setI, cRi_setI, ↓spwX4_isDangerous_n, rL_sI, ↓spwX7_needBoat, spcX7_needBoat, ↓spwX7_needBarge, spcX7_needBarge, ↓spwX7_needIndex, spcX7_needIndex, ↓spwX1_isUnderWay, spcX1_isUnderWay, ↓spwX7_needState, spcX7_needState, ↓spwX7_needTier, spcX7_needTier, ↓spwX4_hasRoom, spcX4_hasRoom, ↓spwX4_placeOf, spcX4_placeOf, ↓spwX4_isDangerous, spcX4_isDangerous, ↓spwX4_behind, spcX4_behind, ↓spwX4_release, spcX4_release, ↓spwX4_append, spcX4_append, ↓spwX6_tell, spcX6_tell, ↓spwX4_size, spcX4_size, h0, hi1, h2, h3, h4, t1, t2, t3, q1, q2, q3, qq, hw0, hg0, g2, k2, b2, b2b, b3, hT, r1, r1b, r3, r4, hR, hR2, m2, p2a, p2b, p2c, p2d, f1, f2, f3, f4, f5, f7, f8, hpl, e1, e3, hlo, e4, hsh, hWk, z1, z2, z3, z4, hcT, hS1, kw1, fw1, kt1, kr1, in1, kg1, rl1, rn1, hcT1, p4, hkd1]
                try simp only [xif_e]
                first | (refine ⟨hm2, ?_⟩) | skip
                intro S2 hA
                first | exact ⟨S2, hA, rfl⟩ | exact ⟨S2, hA, rfl, rfl⟩ | exact ⟨S2, hA, rfl, rfl, rfl, rfl, rfl⟩
            · have h := hz1.1 (fun z => w3 z.2)
              have e4 : bi (rDg S tw (rPl S tw g (rN S tw) 0) none (rPc S tw) (rN S tw + 1) = true) = 1 := bi_t (by cases hh : rDg S tw (rPl S tw g (rN S tw) 0) none (rPc S tw) (rN S tw + 1); exact absurd hh w3; rfl)
              refine xgo hG (mb := []) (head := 98) (P := fun _ _ _ _ _ => False) (fun _ _ _ _ _ q => q.elim) (pc := 0) (fun fu hfu => ?_)
              simp only [↓callX7_drop_0, ↓callX7_drop_1, ↓callX7_drop_10, ↓callX7_drop_11, ↓callX7_drop_12, ↓callX7_drop_13, ↓callX7_drop_2, ↓callX7_drop_3, ↓callX7_drop_4, ↓callX7_drop_5, ↓callX7_drop_6, ↓callX7_drop_7, ↓callX7_drop_8, ↓callX7_drop_9, ↓cg_1_0, ↓cg_1_2, ↓cg_2_3, ↓cg_2_5, ↓cg_2_6, ↓cg_8_6, cisa, ↓cp_2_5, ki_0, ki_1, ki_2, ↓vm_aconst_null, ↓vm_aload, ↓vm_aload_n, ↓vm_astore, ↓vm_dup, ↓vm_getfield, ↓vm_goto, ↓vm_iadd, ↓vm_iconst, ↓vm_ifCond_eq, ↓vm_ifCond_ne, ↓vm_if_acmp_ne, ↓vm_iload_n, ↓vm_invokestatic, ↓vm_invokevirtual, ↓vm_ireturn, ↓vm_putfield, ↓xc_1, ↓xc_2, ↓xc_3, ↓xc_4, ↓tbX7_drop_0, ↓tbX7_drop_1, ↓tbX7_drop_2, ↓tbX7_drop_5, ↓tbX7_drop_7, ↓tbX7_drop_8, ↓tbX7_drop_9, ↓tbX7_drop_12, ↓tbX7_drop_14, ↓tbX7_drop_15, ↓tbX7_drop_16, ↓tbX7_drop_19, ↓tbX7_drop_21, ↓tbX7_drop_24, ↓tbX7_drop_27, ↓tbX7_drop_29, ↓tbX7_drop_32, ↓tbX7_drop_34, ↓tbX7_drop_37, ↓tbX7_drop_40, ↓tbX7_drop_41, ↓tbX7_drop_44, ↓tbX7_drop_45, ↓tbX7_drop_48, ↓tbX7_drop_49, ↓tbX7_drop_51, ↓tbX7_drop_54, ↓tbX7_drop_55, ↓tbX7_drop_58, ↓tbX7_drop_60, ↓tbX7_drop_62, ↓tbX7_drop_65, ↓tbX7_drop_68, ↓tbX7_drop_70, ↓tbX7_drop_73, ↓tbX7_drop_75, ↓tbX7_drop_78, ↓tbX7_drop_80, ↓tbX7_drop_83, ↓tbX7_drop_84, ↓tbX7_drop_87, ↓tbX7_drop_90, ↓tbX7_drop_91, ↓tbX7_drop_94, ↓tbX7_drop_95, ↓tbX7_drop_98, ↓tbX7_drop_100, ↓tbX7_drop_101, ↓tbX7_drop_104, ↓tbX7_drop_105, ↓tbX7_drop_107, ↓tbX7_drop_110, ↓tbX7_drop_112, ↓tbX7_drop_115, ↓tbX7_drop_116, ↓tbX7_drop_117, ↓tbX7_drop_120, ↓tbX7_drop_122, ↓tbX7_drop_125, ↓tbX7_drop_127, ↓tbX7_drop_130, ↓tbX7_drop_132, ↓tbX7_drop_134, ↓tbX7_drop_137, ↓tbX7_drop_138, ↓tbX7_drop_141, ↓tbX7_drop_142, ↓tbX7_drop_144, ↓tbX7_drop_147, ↓tbX7_drop_149, ↓tbX7_drop_152, ↓tbX7_drop_155, ↓tbX7_drop_157, ↓tbX7_drop_160, ↓tbX7_drop_163, hfu, xstep0, xJ1_hit, xJ1_go, xJ2_hit1, xJ2_hit2, xJ2_go, ↓xif_t, ↓xif_f, seval, ↓xca_eq, ↓xre_l, ↓xre_r, xmask_t, xmask_f, xmask_nil, ↓xst_eq, xX_eq, eI_eq, eMc_eq, eMs_eq, eF_eq, eThr_eq, ↓xS1_mk, ↓xSI_mk, ↓xSR_mk, ↓xLI_0, ↓xLI_s, ↓xLR_0, ↓xLR_s, vRef_ref, vRef_null, vRef_rf, cat_int, cat_ref, cat_null, cat_rf, rf_some, rf_none, rf_null, rf_eq, rf_ref, ref_rf, ref_null, ref_ref, xOk_0, xOk_1, xOk_2r, xOk_2n, xOk_2f, vOpt_rf, vOpt_ref, vOpt_null, List.set_cons_zero, List.set_cons_succ, List.take_succ_cons, List.take_zero, List.drop_succ_cons, List.drop_zero, List.reverse_cons, List.reverse_nil, List.nil_append, List.cons_append, List.append_nil, List.length_cons, List.length_nil, List.map_cons, List.map_nil, List.sum_cons, List.sum_nil, Option.toList_some, Option.toList_none, xRecv_mk, true_and, and_true, true_implies, Nat.reduceAdd, Nat.reduceLeDiff, Nat.zero_le, Nat.le_refl, Nat.add_zero, Nat.zero_add, reduceIte, not_true_eq_false, not_false_eq_true, false_implies, and_self, implies_true, eq_self, Nat.reduceEqDiff, List.cons.injEq, xsn_1, xsn_2, false_and, and_false, or_false, false_or, or_true, true_or, xsn_3, xsn_4, cK_setI, cFi_setI, cFr_setI, cLen_setI, cRi_setI, ↓spwX4_isDangerous_n, rL_sI, ↓spwX7_needBoat, spcX7_needBoat, ↓spwX7_needBarge, spcX7_needBarge, ↓spwX7_needIndex, spcX7_needIndex, ↓spwX1_isUnderWay, spcX1_isUnderWay, ↓spwX7_needState, spcX7_needState, ↓spwX7_needTier, spcX7_needTier, ↓spwX4_hasRoom, spcX4_hasRoom, ↓spwX4_placeOf, spcX4_placeOf, ↓spwX4_isDangerous, spcX4_isDangerous, ↓spwX4_behind, spcX4_behind, ↓spwX4_release, spcX4_release, ↓spwX4_append, spcX4_append, ↓spwX6_tell, spcX6_tell, ↓spwX4_size, spcX4_size, h0, hi1, h2, h3, h4, t1, t2, t3, q1, q2, q3, qq, hw0, hg0, g2, k2, b2, b2b, b3, hT, r1, r1b, r3, r4, hR, hR2, m2, p2a, p2b, p2c, p2d, f1, f2, f3, f4, f5, f7, f8, hpl, e1, e3, e4]
              try simp only [xif_e]
              first | exact h | exact ⟨hm2, h⟩ | grind
          · have h := hz1.1 (fun z => w2 z.1)
            have e3 : bi (cFi S (rL S r) 2 < cFi S r 503) = 0 := bi_f w2
            refine xgo hG (mb := []) (head := 98) (P := fun _ _ _ _ _ => False) (fun _ _ _ _ _ q => q.elim) (pc := 0) (fun fu hfu => ?_)
            simp only [↓callX7_drop_0, ↓callX7_drop_1, ↓callX7_drop_10, ↓callX7_drop_11, ↓callX7_drop_12, ↓callX7_drop_13, ↓callX7_drop_2, ↓callX7_drop_3, ↓callX7_drop_4, ↓callX7_drop_5, ↓callX7_drop_6, ↓callX7_drop_7, ↓callX7_drop_8, ↓callX7_drop_9, ↓cg_1_0, ↓cg_1_2, ↓cg_2_3, ↓cg_2_5, ↓cg_2_6, ↓cg_8_6, cisa, ↓cp_2_5, ki_0, ki_1, ki_2, ↓vm_aconst_null, ↓vm_aload, ↓vm_aload_n, ↓vm_astore, ↓vm_dup, ↓vm_getfield, ↓vm_goto, ↓vm_iadd, ↓vm_iconst, ↓vm_ifCond_eq, ↓vm_ifCond_ne, ↓vm_if_acmp_ne, ↓vm_iload_n, ↓vm_invokestatic, ↓vm_invokevirtual, ↓vm_ireturn, ↓vm_putfield, ↓xc_1, ↓xc_2, ↓xc_3, ↓xc_4, ↓tbX7_drop_0, ↓tbX7_drop_1, ↓tbX7_drop_2, ↓tbX7_drop_5, ↓tbX7_drop_7, ↓tbX7_drop_8, ↓tbX7_drop_9, ↓tbX7_drop_12, ↓tbX7_drop_14, ↓tbX7_drop_15, ↓tbX7_drop_16, ↓tbX7_drop_19, ↓tbX7_drop_21, ↓tbX7_drop_24, ↓tbX7_drop_27, ↓tbX7_drop_29, ↓tbX7_drop_32, ↓tbX7_drop_34, ↓tbX7_drop_37, ↓tbX7_drop_40, ↓tbX7_drop_41, ↓tbX7_drop_44, ↓tbX7_drop_45, ↓tbX7_drop_48, ↓tbX7_drop_49, ↓tbX7_drop_51, ↓tbX7_drop_54, ↓tbX7_drop_55, ↓tbX7_drop_58, ↓tbX7_drop_60, ↓tbX7_drop_62, ↓tbX7_drop_65, ↓tbX7_drop_68, ↓tbX7_drop_70, ↓tbX7_drop_73, ↓tbX7_drop_75, ↓tbX7_drop_78, ↓tbX7_drop_80, ↓tbX7_drop_83, ↓tbX7_drop_84, ↓tbX7_drop_87, ↓tbX7_drop_90, ↓tbX7_drop_91, ↓tbX7_drop_94, ↓tbX7_drop_95, ↓tbX7_drop_98, ↓tbX7_drop_100, ↓tbX7_drop_101, ↓tbX7_drop_104, ↓tbX7_drop_105, ↓tbX7_drop_107, ↓tbX7_drop_110, ↓tbX7_drop_112, ↓tbX7_drop_115, ↓tbX7_drop_116, ↓tbX7_drop_117, ↓tbX7_drop_120, ↓tbX7_drop_122, ↓tbX7_drop_125, ↓tbX7_drop_127, ↓tbX7_drop_130, ↓tbX7_drop_132, ↓tbX7_drop_134, ↓tbX7_drop_137, ↓tbX7_drop_138, ↓tbX7_drop_141, ↓tbX7_drop_142, ↓tbX7_drop_144, ↓tbX7_drop_147, ↓tbX7_drop_149, ↓tbX7_drop_152, ↓tbX7_drop_155, ↓tbX7_drop_157, ↓tbX7_drop_160, ↓tbX7_drop_163, hfu, xstep0, xJ1_hit, xJ1_go, xJ2_hit1, xJ2_hit2, xJ2_go, ↓xif_t, ↓xif_f, seval, ↓xca_eq, ↓xre_l, ↓xre_r, xmask_t, xmask_f, xmask_nil, ↓xst_eq, xX_eq, eI_eq, eMc_eq, eMs_eq, eF_eq, eThr_eq, ↓xS1_mk, ↓xSI_mk, ↓xSR_mk, ↓xLI_0, ↓xLI_s, ↓xLR_0, ↓xLR_s, vRef_ref, vRef_null, vRef_rf, cat_int, cat_ref, cat_null, cat_rf, rf_some, rf_none, rf_null, rf_eq, rf_ref, ref_rf, ref_null, ref_ref, xOk_0, xOk_1, xOk_2r, xOk_2n, xOk_2f, vOpt_rf, vOpt_ref, vOpt_null, List.set_cons_zero, List.set_cons_succ, List.take_succ_cons, List.take_zero, List.drop_succ_cons, List.drop_zero, List.reverse_cons, List.reverse_nil, List.nil_append, List.cons_append, List.append_nil, List.length_cons, List.length_nil, List.map_cons, List.map_nil, List.sum_cons, List.sum_nil, Option.toList_some, Option.toList_none, xRecv_mk, true_and, and_true, true_implies, Nat.reduceAdd, Nat.reduceLeDiff, Nat.zero_le, Nat.le_refl, Nat.add_zero, Nat.zero_add, reduceIte, not_true_eq_false, not_false_eq_true, false_implies, and_self, implies_true, eq_self, Nat.reduceEqDiff, List.cons.injEq, xsn_1, xsn_2, false_and, and_false, or_false, false_or, or_true, true_or, xsn_3, xsn_4, cK_setI, cFi_setI, cFr_setI, cLen_setI, cRi_setI, ↓spwX4_isDangerous_n, rL_sI, ↓spwX7_needBoat, spcX7_needBoat, ↓spwX7_needBarge, spcX7_needBarge, ↓spwX7_needIndex, spcX7_needIndex, ↓spwX1_isUnderWay, spcX1_isUnderWay, ↓spwX7_needState, spcX7_needState, ↓spwX7_needTier, spcX7_needTier, ↓spwX4_hasRoom, spcX4_hasRoom, ↓spwX4_placeOf, spcX4_placeOf, ↓spwX4_isDangerous, spcX4_isDangerous, ↓spwX4_behind, spcX4_behind, ↓spwX4_release, spcX4_release, ↓spwX4_append, spcX4_append, ↓spwX6_tell, spcX6_tell, ↓spwX4_size, spcX4_size, h0, hi1, h2, h3, h4, t1, t2, t3, q1, q2, q3, qq, hw0, hg0, g2, k2, b2, b2b, b3, hT, r1, r1b, r3, r4, hR, hR2, m2, p2a, p2b, p2c, p2d, f1, f2, f3, f4, f5, f7, f8, hpl, e1, e3]
            try simp only [xif_e]
            first | exact h | grind
        · have h := hz.1 w1
          refine xgo hG (mb := []) (head := 48) (P := fun _ _ _ _ _ => False) (fun _ _ _ _ _ q => q.elim) (pc := 0) (fun fu hfu => ?_)
          simp only [↓callX7_drop_0, ↓callX7_drop_1, ↓callX7_drop_10, ↓callX7_drop_11, ↓callX7_drop_12, ↓callX7_drop_13, ↓callX7_drop_2, ↓callX7_drop_3, ↓callX7_drop_4, ↓callX7_drop_5, ↓callX7_drop_6, ↓callX7_drop_7, ↓callX7_drop_8, ↓callX7_drop_9, ↓cg_1_0, ↓cg_1_2, ↓cg_2_3, ↓cg_2_5, ↓cg_2_6, ↓cg_8_6, cisa, ↓cp_2_5, ki_0, ki_1, ki_2, ↓vm_aconst_null, ↓vm_aload, ↓vm_aload_n, ↓vm_astore, ↓vm_dup, ↓vm_getfield, ↓vm_goto, ↓vm_iadd, ↓vm_iconst, ↓vm_ifCond_eq, ↓vm_ifCond_ne, ↓vm_if_acmp_ne, ↓vm_iload_n, ↓vm_invokestatic, ↓vm_invokevirtual, ↓vm_ireturn, ↓vm_putfield, ↓xc_1, ↓xc_2, ↓xc_3, ↓xc_4, ↓tbX7_drop_0, ↓tbX7_drop_1, ↓tbX7_drop_2, ↓tbX7_drop_5, ↓tbX7_drop_7, ↓tbX7_drop_8, ↓tbX7_drop_9, ↓tbX7_drop_12, ↓tbX7_drop_14, ↓tbX7_drop_15, ↓tbX7_drop_16, ↓tbX7_drop_19, ↓tbX7_drop_21, ↓tbX7_drop_24, ↓tbX7_drop_27, ↓tbX7_drop_29, ↓tbX7_drop_32, ↓tbX7_drop_34, ↓tbX7_drop_37, ↓tbX7_drop_40, ↓tbX7_drop_41, ↓tbX7_drop_44, ↓tbX7_drop_45, ↓tbX7_drop_48, ↓tbX7_drop_49, ↓tbX7_drop_51, ↓tbX7_drop_54, ↓tbX7_drop_55, ↓tbX7_drop_58, ↓tbX7_drop_60, ↓tbX7_drop_62, ↓tbX7_drop_65, ↓tbX7_drop_68, ↓tbX7_drop_70, ↓tbX7_drop_73, ↓tbX7_drop_75, ↓tbX7_drop_78, ↓tbX7_drop_80, ↓tbX7_drop_83, ↓tbX7_drop_84, ↓tbX7_drop_87, ↓tbX7_drop_90, ↓tbX7_drop_91, ↓tbX7_drop_94, ↓tbX7_drop_95, ↓tbX7_drop_98, ↓tbX7_drop_100, ↓tbX7_drop_101, ↓tbX7_drop_104, ↓tbX7_drop_105, ↓tbX7_drop_107, ↓tbX7_drop_110, ↓tbX7_drop_112, ↓tbX7_drop_115, ↓tbX7_drop_116, ↓tbX7_drop_117, ↓tbX7_drop_120, ↓tbX7_drop_122, ↓tbX7_drop_125, ↓tbX7_drop_127, ↓tbX7_drop_130, ↓tbX7_drop_132, ↓tbX7_drop_134, ↓tbX7_drop_137, ↓tbX7_drop_138, ↓tbX7_drop_141, ↓tbX7_drop_142, ↓tbX7_drop_144, ↓tbX7_drop_147, ↓tbX7_drop_149, ↓tbX7_drop_152, ↓tbX7_drop_155, ↓tbX7_drop_157, ↓tbX7_drop_160, ↓tbX7_drop_163, hfu, xstep0, xJ1_hit, xJ1_go, xJ2_hit1, xJ2_hit2, xJ2_go, ↓xif_t, ↓xif_f, seval, ↓xca_eq, ↓xre_l, ↓xre_r, xmask_t, xmask_f, xmask_nil, ↓xst_eq, xX_eq, eI_eq, eMc_eq, eMs_eq, eF_eq, eThr_eq, ↓xS1_mk, ↓xSI_mk, ↓xSR_mk, ↓xLI_0, ↓xLI_s, ↓xLR_0, ↓xLR_s, vRef_ref, vRef_null, vRef_rf, cat_int, cat_ref, cat_null, cat_rf, rf_some, rf_none, rf_null, rf_eq, rf_ref, ref_rf, ref_null, ref_ref, xOk_0, xOk_1, xOk_2r, xOk_2n, xOk_2f, vOpt_rf, vOpt_ref, vOpt_null, List.set_cons_zero, List.set_cons_succ, List.take_succ_cons, List.take_zero, List.drop_succ_cons, List.drop_zero, List.reverse_cons, List.reverse_nil, List.nil_append, List.cons_append, List.append_nil, List.length_cons, List.length_nil, List.map_cons, List.map_nil, List.sum_cons, List.sum_nil, Option.toList_some, Option.toList_none, xRecv_mk, true_and, and_true, true_implies, Nat.reduceAdd, Nat.reduceLeDiff, Nat.zero_le, Nat.le_refl, Nat.add_zero, Nat.zero_add, reduceIte, not_true_eq_false, not_false_eq_true, false_implies, and_self, implies_true, eq_self, Nat.reduceEqDiff, List.cons.injEq, xsn_1, xsn_2, false_and, and_false, or_false, false_or, or_true, true_or, xsn_3, xsn_4, cK_setI, cFi_setI, cFr_setI, cLen_setI, cRi_setI, ↓spwX4_isDangerous_n, rL_sI, ↓spwX7_needBoat, spcX7_needBoat, ↓spwX7_needBarge, spcX7_needBarge, ↓spwX7_needIndex, spcX7_needIndex, ↓spwX1_isUnderWay, spcX1_isUnderWay, ↓spwX7_needState, spcX7_needState, ↓spwX7_needTier, spcX7_needTier, ↓spwX4_hasRoom, spcX4_hasRoom, ↓spwX4_placeOf, spcX4_placeOf, ↓spwX4_isDangerous, spcX4_isDangerous, ↓spwX4_behind, spcX4_behind, ↓spwX4_release, spcX4_release, ↓spwX4_append, spcX4_append, ↓spwX6_tell, spcX6_tell, ↓spwX4_size, spcX4_size, h0, hi1, h2, h3, h4, q1, q2, q3, hw0, hg0, g2, k2, r1, b2, bi_0]
          try simp only [xif_e]
          repeat' (first | exact h | with_reducible apply And.intro | with_reducible intro _)
          all_goals grind
      · have h := hbad (fun z => q3 z.2.2)
        refine xgo hG (mb := []) (head := 19) (P := fun _ _ _ _ _ => False) (fun _ _ _ _ _ q => q.elim) (pc := 0) (fun fu hfu => ?_)
        simp only [↓callX7_drop_0, ↓callX7_drop_1, ↓callX7_drop_10, ↓callX7_drop_11, ↓callX7_drop_12, ↓callX7_drop_13, ↓callX7_drop_2, ↓callX7_drop_3, ↓callX7_drop_4, ↓callX7_drop_5, ↓callX7_drop_6, ↓callX7_drop_7, ↓callX7_drop_8, ↓callX7_drop_9, ↓cg_1_0, ↓cg_1_2, ↓cg_2_3, ↓cg_2_5, ↓cg_2_6, ↓cg_8_6, cisa, ↓cp_2_5, ki_0, ki_1, ki_2, ↓vm_aconst_null, ↓vm_aload, ↓vm_aload_n, ↓vm_astore, ↓vm_dup, ↓vm_getfield, ↓vm_goto, ↓vm_iadd, ↓vm_iconst, ↓vm_ifCond_eq, ↓vm_ifCond_ne, ↓vm_if_acmp_ne, ↓vm_iload_n, ↓vm_invokestatic, ↓vm_invokevirtual, ↓vm_ireturn, ↓vm_putfield, ↓xc_1, ↓xc_2, ↓xc_3, ↓xc_4, ↓tbX7_drop_0, ↓tbX7_drop_1, ↓tbX7_drop_2, ↓tbX7_drop_5, ↓tbX7_drop_7, ↓tbX7_drop_8, ↓tbX7_drop_9, ↓tbX7_drop_12, ↓tbX7_drop_14, ↓tbX7_drop_15, ↓tbX7_drop_16, ↓tbX7_drop_19, ↓tbX7_drop_21, ↓tbX7_drop_24, ↓tbX7_drop_27, ↓tbX7_drop_29, ↓tbX7_drop_32, ↓tbX7_drop_34, ↓tbX7_drop_37, ↓tbX7_drop_40, ↓tbX7_drop_41, ↓tbX7_drop_44, ↓tbX7_drop_45, ↓tbX7_drop_48, ↓tbX7_drop_49, ↓tbX7_drop_51, ↓tbX7_drop_54, ↓tbX7_drop_55, ↓tbX7_drop_58, ↓tbX7_drop_60, ↓tbX7_drop_62, ↓tbX7_drop_65, ↓tbX7_drop_68, ↓tbX7_drop_70, ↓tbX7_drop_73, ↓tbX7_drop_75, ↓tbX7_drop_78, ↓tbX7_drop_80, ↓tbX7_drop_83, ↓tbX7_drop_84, ↓tbX7_drop_87, ↓tbX7_drop_90, ↓tbX7_drop_91, ↓tbX7_drop_94, ↓tbX7_drop_95, ↓tbX7_drop_98, ↓tbX7_drop_100, ↓tbX7_drop_101, ↓tbX7_drop_104, ↓tbX7_drop_105, ↓tbX7_drop_107, ↓tbX7_drop_110, ↓tbX7_drop_112, ↓tbX7_drop_115, ↓tbX7_drop_116, ↓tbX7_drop_117, ↓tbX7_drop_120, ↓tbX7_drop_122, ↓tbX7_drop_125, ↓tbX7_drop_127, ↓tbX7_drop_130, ↓tbX7_drop_132, ↓tbX7_drop_134, ↓tbX7_drop_137, ↓tbX7_drop_138, ↓tbX7_drop_141, ↓tbX7_drop_142, ↓tbX7_drop_144, ↓tbX7_drop_147, ↓tbX7_drop_149, ↓tbX7_drop_152, ↓tbX7_drop_155, ↓tbX7_drop_157, ↓tbX7_drop_160, ↓tbX7_drop_163, hfu, xstep0, xJ1_hit, xJ1_go, xJ2_hit1, xJ2_hit2, xJ2_go, ↓xif_t, ↓xif_f, seval, ↓xca_eq, ↓xre_l, ↓xre_r, xmask_t, xmask_f, xmask_nil, ↓xst_eq, xX_eq, eI_eq, eMc_eq, eMs_eq, eF_eq, eThr_eq, ↓xS1_mk, ↓xSI_mk, ↓xSR_mk, ↓xLI_0, ↓xLI_s, ↓xLR_0, ↓xLR_s, vRef_ref, vRef_null, vRef_rf, cat_int, cat_ref, cat_null, cat_rf, rf_some, rf_none, rf_null, rf_eq, rf_ref, ref_rf, ref_null, ref_ref, xOk_0, xOk_1, xOk_2r, xOk_2n, xOk_2f, vOpt_rf, vOpt_ref, vOpt_null, List.set_cons_zero, List.set_cons_succ, List.take_succ_cons, List.take_zero, List.drop_succ_cons, List.drop_zero, List.reverse_cons, List.reverse_nil, List.nil_append, List.cons_append, List.append_nil, List.length_cons, List.length_nil, List.map_cons, List.map_nil, List.sum_cons, List.sum_nil, Option.toList_some, Option.toList_none, xRecv_mk, true_and, and_true, true_implies, Nat.reduceAdd, Nat.reduceLeDiff, Nat.zero_le, Nat.le_refl, Nat.add_zero, Nat.zero_add, reduceIte, not_true_eq_false, not_false_eq_true, false_implies, and_self, implies_true, eq_self, Nat.reduceEqDiff, List.cons.injEq, xsn_1, xsn_2, false_and, and_false, or_false, false_or, or_true, true_or, xsn_3, xsn_4, cK_setI, cFi_setI, cFr_setI, cLen_setI, cRi_setI, ↓spwX4_isDangerous_n, rL_sI, ↓spwX7_needBoat, spcX7_needBoat, ↓spwX7_needBarge, spcX7_needBarge, ↓spwX7_needIndex, spcX7_needIndex, ↓spwX1_isUnderWay, spcX1_isUnderWay, ↓spwX7_needState, spcX7_needState, ↓spwX7_needTier, spcX7_needTier, ↓spwX4_hasRoom, spcX4_hasRoom, ↓spwX4_placeOf, spcX4_placeOf, ↓spwX4_isDangerous, spcX4_isDangerous, ↓spwX4_behind, spcX4_behind, ↓spwX4_release, spcX4_release, ↓spwX4_append, spcX4_append, ↓spwX6_tell, spcX6_tell, ↓spwX4_size, spcX4_size, h0, hi1, h2, h3, h4, q1, q2, q3]
        try simp only [xif_e]
        first | exact h | grind
    · have h := hbad (fun z => q2 z.2.1)
      refine xgo hG (mb := []) (head := 14) (P := fun _ _ _ _ _ => False) (fun _ _ _ _ _ q => q.elim) (pc := 0) (fun fu hfu => ?_)
      simp only [↓callX7_drop_0, ↓callX7_drop_1, ↓callX7_drop_10, ↓callX7_drop_11, ↓callX7_drop_12, ↓callX7_drop_13, ↓callX7_drop_2, ↓callX7_drop_3, ↓callX7_drop_4, ↓callX7_drop_5, ↓callX7_drop_6, ↓callX7_drop_7, ↓callX7_drop_8, ↓callX7_drop_9, ↓cg_1_0, ↓cg_1_2, ↓cg_2_3, ↓cg_2_5, ↓cg_2_6, ↓cg_8_6, cisa, ↓cp_2_5, ki_0, ki_1, ki_2, ↓vm_aconst_null, ↓vm_aload, ↓vm_aload_n, ↓vm_astore, ↓vm_dup, ↓vm_getfield, ↓vm_goto, ↓vm_iadd, ↓vm_iconst, ↓vm_ifCond_eq, ↓vm_ifCond_ne, ↓vm_if_acmp_ne, ↓vm_iload_n, ↓vm_invokestatic, ↓vm_invokevirtual, ↓vm_ireturn, ↓vm_putfield, ↓xc_1, ↓xc_2, ↓xc_3, ↓xc_4, ↓tbX7_drop_0, ↓tbX7_drop_1, ↓tbX7_drop_2, ↓tbX7_drop_5, ↓tbX7_drop_7, ↓tbX7_drop_8, ↓tbX7_drop_9, ↓tbX7_drop_12, ↓tbX7_drop_14, ↓tbX7_drop_15, ↓tbX7_drop_16, ↓tbX7_drop_19, ↓tbX7_drop_21, ↓tbX7_drop_24, ↓tbX7_drop_27, ↓tbX7_drop_29, ↓tbX7_drop_32, ↓tbX7_drop_34, ↓tbX7_drop_37, ↓tbX7_drop_40, ↓tbX7_drop_41, ↓tbX7_drop_44, ↓tbX7_drop_45, ↓tbX7_drop_48, ↓tbX7_drop_49, ↓tbX7_drop_51, ↓tbX7_drop_54, ↓tbX7_drop_55, ↓tbX7_drop_58, ↓tbX7_drop_60, ↓tbX7_drop_62, ↓tbX7_drop_65, ↓tbX7_drop_68, ↓tbX7_drop_70, ↓tbX7_drop_73, ↓tbX7_drop_75, ↓tbX7_drop_78, ↓tbX7_drop_80, ↓tbX7_drop_83, ↓tbX7_drop_84, ↓tbX7_drop_87, ↓tbX7_drop_90, ↓tbX7_drop_91, ↓tbX7_drop_94, ↓tbX7_drop_95, ↓tbX7_drop_98, ↓tbX7_drop_100, ↓tbX7_drop_101, ↓tbX7_drop_104, ↓tbX7_drop_105, ↓tbX7_drop_107, ↓tbX7_drop_110, ↓tbX7_drop_112, ↓tbX7_drop_115, ↓tbX7_drop_116, ↓tbX7_drop_117, ↓tbX7_drop_120, ↓tbX7_drop_122, ↓tbX7_drop_125, ↓tbX7_drop_127, ↓tbX7_drop_130, ↓tbX7_drop_132, ↓tbX7_drop_134, ↓tbX7_drop_137, ↓tbX7_drop_138, ↓tbX7_drop_141, ↓tbX7_drop_142, ↓tbX7_drop_144, ↓tbX7_drop_147, ↓tbX7_drop_149, ↓tbX7_drop_152, ↓tbX7_drop_155, ↓tbX7_drop_157, ↓tbX7_drop_160, ↓tbX7_drop_163, hfu, xstep0, xJ1_hit, xJ1_go, xJ2_hit1, xJ2_hit2, xJ2_go, ↓xif_t, ↓xif_f, seval, ↓xca_eq, ↓xre_l, ↓xre_r, xmask_t, xmask_f, xmask_nil, ↓xst_eq, xX_eq, eI_eq, eMc_eq, eMs_eq, eF_eq, eThr_eq, ↓xS1_mk, ↓xSI_mk, ↓xSR_mk, ↓xLI_0, ↓xLI_s, ↓xLR_0, ↓xLR_s, vRef_ref, vRef_null, vRef_rf, cat_int, cat_ref, cat_null, cat_rf, rf_some, rf_none, rf_null, rf_eq, rf_ref, ref_rf, ref_null, ref_ref, xOk_0, xOk_1, xOk_2r, xOk_2n, xOk_2f, vOpt_rf, vOpt_ref, vOpt_null, List.set_cons_zero, List.set_cons_succ, List.take_succ_cons, List.take_zero, List.drop_succ_cons, List.drop_zero, List.reverse_cons, List.reverse_nil, List.nil_append, List.cons_append, List.append_nil, List.length_cons, List.length_nil, List.map_cons, List.map_nil, List.sum_cons, List.sum_nil, Option.toList_some, Option.toList_none, xRecv_mk, true_and, and_true, true_implies, Nat.reduceAdd, Nat.reduceLeDiff, Nat.zero_le, Nat.le_refl, Nat.add_zero, Nat.zero_add, reduceIte, not_true_eq_false, not_false_eq_true, false_implies, and_self, implies_true, eq_self, Nat.reduceEqDiff, List.cons.injEq, xsn_1, xsn_2, false_and, and_false, or_false, false_or, or_true, true_or, xsn_3, xsn_4, cK_setI, cFi_setI, cFr_setI, cLen_setI, cRi_setI, ↓spwX4_isDangerous_n, rL_sI, ↓spwX7_needBoat, spcX7_needBoat, ↓spwX7_needBarge, spcX7_needBarge, ↓spwX7_needIndex, spcX7_needIndex, ↓spwX1_isUnderWay, spcX1_isUnderWay, ↓spwX7_needState, spcX7_needState, ↓spwX7_needTier, spcX7_needTier, ↓spwX4_hasRoom, spcX4_hasRoom, ↓spwX4_placeOf, spcX4_placeOf, ↓spwX4_isDangerous, spcX4_isDangerous, ↓spwX4_behind, spcX4_behind, ↓spwX4_release, spcX4_release, ↓spwX4_append, spcX4_append, ↓spwX6_tell, spcX6_tell, ↓spwX4_size, spcX4_size, h0, hi1, h2, h3, h4, q1, q2]
      try simp only [xif_e]
      first | exact h | grind
  · have h := hbad (fun z => q1 z.1)
    refine xgo hG (mb := []) (head := 5) (P := fun _ _ _ _ _ => False) (fun _ _ _ _ _ q => q.elim) (pc := 0) (fun fu hfu => ?_)
    simp only [↓callX7_drop_0, ↓callX7_drop_1, ↓callX7_drop_10, ↓callX7_drop_11, ↓callX7_drop_12, ↓callX7_drop_13, ↓callX7_drop_2, ↓callX7_drop_3, ↓callX7_drop_4, ↓callX7_drop_5, ↓callX7_drop_6, ↓callX7_drop_7, ↓callX7_drop_8, ↓callX7_drop_9, ↓cg_1_0, ↓cg_1_2, ↓cg_2_3, ↓cg_2_5, ↓cg_2_6, ↓cg_8_6, cisa, ↓cp_2_5, ki_0, ki_1, ki_2, ↓vm_aconst_null, ↓vm_aload, ↓vm_aload_n, ↓vm_astore, ↓vm_dup, ↓vm_getfield, ↓vm_goto, ↓vm_iadd, ↓vm_iconst, ↓vm_ifCond_eq, ↓vm_ifCond_ne, ↓vm_if_acmp_ne, ↓vm_iload_n, ↓vm_invokestatic, ↓vm_invokevirtual, ↓vm_ireturn, ↓vm_putfield, ↓xc_1, ↓xc_2, ↓xc_3, ↓xc_4, ↓tbX7_drop_0, ↓tbX7_drop_1, ↓tbX7_drop_2, ↓tbX7_drop_5, ↓tbX7_drop_7, ↓tbX7_drop_8, ↓tbX7_drop_9, ↓tbX7_drop_12, ↓tbX7_drop_14, ↓tbX7_drop_15, ↓tbX7_drop_16, ↓tbX7_drop_19, ↓tbX7_drop_21, ↓tbX7_drop_24, ↓tbX7_drop_27, ↓tbX7_drop_29, ↓tbX7_drop_32, ↓tbX7_drop_34, ↓tbX7_drop_37, ↓tbX7_drop_40, ↓tbX7_drop_41, ↓tbX7_drop_44, ↓tbX7_drop_45, ↓tbX7_drop_48, ↓tbX7_drop_49, ↓tbX7_drop_51, ↓tbX7_drop_54, ↓tbX7_drop_55, ↓tbX7_drop_58, ↓tbX7_drop_60, ↓tbX7_drop_62, ↓tbX7_drop_65, ↓tbX7_drop_68, ↓tbX7_drop_70, ↓tbX7_drop_73, ↓tbX7_drop_75, ↓tbX7_drop_78, ↓tbX7_drop_80, ↓tbX7_drop_83, ↓tbX7_drop_84, ↓tbX7_drop_87, ↓tbX7_drop_90, ↓tbX7_drop_91, ↓tbX7_drop_94, ↓tbX7_drop_95, ↓tbX7_drop_98, ↓tbX7_drop_100, ↓tbX7_drop_101, ↓tbX7_drop_104, ↓tbX7_drop_105, ↓tbX7_drop_107, ↓tbX7_drop_110, ↓tbX7_drop_112, ↓tbX7_drop_115, ↓tbX7_drop_116, ↓tbX7_drop_117, ↓tbX7_drop_120, ↓tbX7_drop_122, ↓tbX7_drop_125, ↓tbX7_drop_127, ↓tbX7_drop_130, ↓tbX7_drop_132, ↓tbX7_drop_134, ↓tbX7_drop_137, ↓tbX7_drop_138, ↓tbX7_drop_141, ↓tbX7_drop_142, ↓tbX7_drop_144, ↓tbX7_drop_147, ↓tbX7_drop_149, ↓tbX7_drop_152, ↓tbX7_drop_155, ↓tbX7_drop_157, ↓tbX7_drop_160, ↓tbX7_drop_163, hfu, xstep0, xJ1_hit, xJ1_go, xJ2_hit1, xJ2_hit2, xJ2_go, ↓xif_t, ↓xif_f, seval, ↓xca_eq, ↓xre_l, ↓xre_r, xmask_t, xmask_f, xmask_nil, ↓xst_eq, xX_eq, eI_eq, eMc_eq, eMs_eq, eF_eq, eThr_eq, ↓xS1_mk, ↓xSI_mk, ↓xSR_mk, ↓xLI_0, ↓xLI_s, ↓xLR_0, ↓xLR_s, vRef_ref, vRef_null, vRef_rf, cat_int, cat_ref, cat_null, cat_rf, rf_some, rf_none, rf_null, rf_eq, rf_ref, ref_rf, ref_null, ref_ref, xOk_0, xOk_1, xOk_2r, xOk_2n, xOk_2f, vOpt_rf, vOpt_ref, vOpt_null, List.set_cons_zero, List.set_cons_succ, List.take_succ_cons, List.take_zero, List.drop_succ_cons, List.drop_zero, List.reverse_cons, List.reverse_nil, List.nil_append, List.cons_append, List.append_nil, List.length_cons, List.length_nil, List.map_cons, List.map_nil, List.sum_cons, List.sum_nil, Option.toList_some, Option.toList_none, xRecv_mk, true_and, and_true, true_implies, Nat.reduceAdd, Nat.reduceLeDiff, Nat.zero_le, Nat.le_refl, Nat.add_zero, Nat.zero_add, reduceIte, not_true_eq_false, not_false_eq_true, false_implies, and_self, implies_true, eq_self, Nat.reduceEqDiff, List.cons.injEq, xsn_1, xsn_2, false_and, and_false, or_false, false_or, or_true, true_or, xsn_3, xsn_4, cK_setI, cFi_setI, cFr_setI, cLen_setI, cRi_setI, ↓spwX4_isDangerous_n, rL_sI, ↓spwX7_needBoat, spcX7_needBoat, ↓spwX7_needBarge, spcX7_needBarge, ↓spwX7_needIndex, spcX7_needIndex, ↓spwX1_isUnderWay, spcX1_isUnderWay, ↓spwX7_needState, spcX7_needState, ↓spwX7_needTier, spcX7_needTier, ↓spwX4_hasRoom, spcX4_hasRoom, ↓spwX4_placeOf, spcX4_placeOf, ↓spwX4_isDangerous, spcX4_isDangerous, ↓spwX4_behind, spcX4_behind, ↓spwX4_release, spcX4_release, ↓spwX4_append, spcX4_append, ↓spwX6_tell, spcX6_tell, ↓spwX4_size, spcX4_size, h0, hi1, h2, q1]
    try simp only [xif_e]
    first | exact h | grind
