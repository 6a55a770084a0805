/-! The class, under the relation: to send off, to travel. -/
theorem RRd_step {W9 : xWd} {B a : Nat} {d : Nat → Nat → Nat} {S S2 : cS} {M M2 : mS} {np N : Nat} {X : Nat → Prop} (h : RRd W9 B a d S M np N) (hR : R0 W9 d S2 M2) (hi : iAll M2) (hw : ways M2 (nBt M) = ways M (nBt M)) (hch : chg S S2 X) (h9 : ¬ X (d 9 2)) (h11 : ∀ j, ¬ X (d 11 j)) (h12 : ∀ j, ¬ X (d 12 j)) (c22 : M2.1 22 = M.1 22) (c29 : M2.1 29 = M.1 29) (m27 : M2.2 27 = M.2 27) (m28 : M2.2 28 = M.2 28) (m33 : M2.2 33 = M.2 33) (m34 : M2.2 34 = M.2 34) : RRd W9 B a d S2 M2 np N ∧ pU S2 d (np - 1) = pU S d (np - 1) := by
  obtain ⟨hd, ha, -, -, hp, hl, hN, hB⟩ := h
  obtain ⟨hp1, hU1, hq1⟩ := hp.keep hch h9 h11 h12
  have n22 : nBg M2 = nBg M := by unfold nBg; rw [c22]
  have n29 : nBt M2 = nBt M := by unfold nBt; rw [c29]
  refine ⟨⟨hd, ha, hi, hR, hp1, ⟨fun g hg => ?_, fun w hw => ?_⟩, by rw [n29, hw]; exact hN, hB⟩, hU1 _⟩
  · rw [n22] at hg
    rw [hq1, m27, m28]
    exact hl.1 g hg
  · rw [n29] at hw
    rw [hq1, m33, m34]
    exact hl.2 w hw
def cst (cs ss U j : Nat) : Prop := (cs = 0 ∧ ss = 0) ∨ (cs = 2 ∧ ss = 67 ∧ U ≤ j)
theorem cst.le {cs ss U j : Nat} (h : cst cs ss U j) : cs ≤ 2 ∧ ss ≤ 67 := by rcases h with ⟨rfl, rfl⟩ | ⟨rfl, rfl, -⟩ <;> omega
theorem cst.up {cs ss U j : Nat} (h : cst cs ss U j) : cst cs ss U (j + 1) := h.elim Or.inl (fun z => Or.inr ⟨z.1, z.2.1, by omega⟩)
theorem cst.step {cs ss U j : Nat} {C : Nat × Nat} (h : cst cs ss U j) (hC : C = if U = 64 then (2, 67) else (0, 0)) (hj : j < 6) (hU : U ≤ 64) : cs + C.1 ≤ 2 ∧ ss + C.2 ≤ 67 ∧ cst (cs + C.1) (ss + C.2) (if U < 64 then U + 1 else 1) (j + 1) := by
  subst hC
  by_cases c : U = 64
  · rw [if_pos c, if_neg (by omega)]
    rcases h with ⟨rfl, rfl⟩ | ⟨rfl, rfl, h3⟩
    · exact ⟨by omega, by omega, Or.inr ⟨rfl, rfl, by omega⟩⟩
    · omega
  · rw [if_neg c, if_pos (by omega)]
    rcases h with ⟨rfl, rfl⟩ | ⟨rfl, rfl, h3⟩
    · exact ⟨by omega, by omega, Or.inl ⟨rfl, rfl⟩⟩
    · exact ⟨by omega, by omega, Or.inr ⟨rfl, rfl, by omega⟩⟩
def sQ (W9 : xWd) (B a : Nat) (M : mS) (j : Nat) (S : cS) (cs ss : Nat) : Prop := ∃ U, RRu W9 B a S M U ∧ cst cs ss U j
theorem sQ.up {W9 : xWd} {B a : Nat} {M M2 : mS} {j : Nat} {S : cS} {cs ss : Nat} (h : sQ W9 B a M j S cs ss) (e : M2 = M) : sQ W9 B a M2 (j + 1) S cs ss := by
  obtain ⟨U, h1, h2⟩ := h
  rw [e]
  exact ⟨U, h1, h2.up⟩
theorem RRd.U {W9 : xWd} {B a : Nat} {d : Nat → Nat → Nat} {S : cS} {M : mS} {np N : Nat} (h : RRd W9 B a d S M np N) : pU S d (np - 1) ≤ 64 := by
  have := h.2.2.2.2.1.2.1
  exact (h.2.2.2.2.1.2.2 (np - 1) (by omega)).2.2.2.2.1.2
/-- a boat waits -/
theorem RRd_wait {W9 : xWd} {B a : Nat} {d : Nat → Nat → Nat} {S : cS} {M : mS} {np N w j : Nat} (h : RRd W9 B a d S M np N) (hw : w < nBt M) (hj : j < 10) : RRu W9 B a (cAst (cSetI S (d 4 w) 213 (nI j)) (d 10 w) j (cRi S (d 10 w) j + 1)) (mWts M (nI w) (nI j)) (pU S d (np - 1)) := by
  have hi := h.2.2.1
  have hb := hi.1.1.2
  have hd := h.1
  have hm := mWts_v (M := M) (w := w) (j := j) (by omega) hj
  obtain ⟨hi2, hwy⟩ := iAll_wts (c := nI j) hi hw (xin_nI hj (by omega))
  have hR2 := R0_wait hd h.2.2.2.1 hw hb hj
  have hch : chg S (cAst (cSetI S (d 4 w) 213 (nI j)) (d 10 w) j (cRi S (d 10 w) j + 1)) (fun b => b = d 4 w ∨ b = d 10 w) := (chg.rf.sI (Or.inl rfl)).ast (Or.inr rfl)
  have hX : ∀ (k i : Nat), k ≠ 4 → k ≠ 10 → ¬ (d k i = d 4 w ∨ d k i = d 10 w) := fun k i a b z => z.elim (fun y => a (hd _ _ _ _ y).1) (fun y => b (hd _ _ _ _ y).1)
  rw [hm] at hi2 hwy ⊢
  obtain ⟨g1, g2⟩ := RRd_step h hR2 hi2 hwy hch (hX 9 2 (by omega) (by omega)) (fun i => hX 11 i (by omega) (by omega)) (fun i => hX 12 i (by omega) (by omega)) rfl rfl (by rw [mAst_ne (by omega), mAst_ne (by omega)]) (by rw [mAst_ne (by omega), mAst_ne (by omega)]) (by rw [mAst_ne (by omega), mAst_ne (by omega)]) (by rw [mAst_ne (by omega), mAst_ne (by omega)])
  exact ⟨d, np, N, g1, g2⟩
theorem R0_wait_f {W9 : xWd} {d : Nat → Nat → Nat} {S : cS} {M : mS} {w : Nat} (hR : R0 W9 d S M) (hw : w < nBt M) : cK S (d 4 w) = 3 ∧ cIn S (d 4 w) 214 11 ∧ cRf S (d 4 w) 214 = d 10 w ∧ cLen S (d 10 w) = 10 := by
  obtain ⟨b0, -, -, -, -, -, -, -, -, -, -, -, -, -, b214⟩ := hR.2.2.2.2.2.1 w hw
  obtain ⟨w0, w1, -⟩ := hR.2.2.2.2.2.2.2.1 w hw
  have e : cRf S (d 4 w) 214 = d 10 w := by unfold cRf; rw [b214]; rfl
  exact ⟨b0, ⟨by rw [e]; exact b214, by rw [e]; exact w0⟩, e, w1⟩

def tbX7_sendOff : List (Nat × xHint) := [(0, .iconst 0, 0, 0, 0, []), (1, .istore_n 2, 2, 0, 0, []), (2, .iload_n 2, 2, 0, 0, []), (3, .aload_n 0, 0, 0, 0, []), (4, .getfield 25, 8, 4, 2, []), (7, .invokevirtual 108, 0, 1, 0, []), (10, .if_icmp .ge 74, 84, 0, 0, []), (13, .aload_n 0, 0, 0, 0, []), (14, .getfield 25, 8, 4, 2, []), (17, .iload_n 2, 2, 0, 0, []), (18, .invokevirtual 312, 1, 2, 0, []), (21, .checkcast 210, 2, 0, 0, []), (24, .astore_n 3, 3, 0, 0, []), (25, .aload_n 0, 0, 0, 0, []), (26, .aload_n 3, 3, 0, 0, []), (27, .invokevirtual 324, 2, 2, 8, []), (30, .astore 4, 4, 0, 0, []), (32, .aload 4, 4, 0, 0, []), (34, .ifnull 44, 78, 0, 0, []), (37, .aload_n 3, 3, 0, 0, []), (38, .invokevirtual 456, 3, 1, 2, []), (41, .iload_n 1, 1, 0, 0, []), (42, .if_icmp .eq 6, 48, 0, 0, []), (45, .goto 33, 78, 0, 0, []), (48, .aload_n 0, 0, 0, 0, []), (49, .aload_n 3, 3, 0, 0, []), (50, .aload 4, 4, 0, 0, []), (52, .invokevirtual 328, 4, 3, 8, []), (55, .istore 5, 5, 0, 0, []), (57, .iload 5, 5, 0, 0, []), (59, .ifCond .ne 13, 72, 0, 0, []), (62, .aload_n 0, 0, 0, 0, []), (63, .aload_n 3, 3, 0, 0, []), (64, .aload 4, 4, 0, 0, []), (66, .invokevirtual 459, 5, 3, 8, []), (69, .goto 9, 78, 0, 0, []), (72, .aload_n 3, 3, 0, 0, []), (73, .iload 5, 5, 0, 0, []), (75, .invokevirtual 449, 6, 2, 2, []), (78, .iinc 2 1, 2, 0, 0, []), (81, .goto (-79), 2, 0, 0, []), (84, .return_, 0, 0, 0, [])]
def clX7_sendOff : List (Instr × Nat × Nat × Nat) := [(.invokevirtual 108, 0, 1, 0), (.invokevirtual 312, 1, 2, 0), (.invokevirtual 324, 2, 2, 8), (.invokevirtual 456, 3, 1, 2), (.invokevirtual 328, 4, 3, 8), (.invokevirtual 459, 5, 3, 8), (.invokevirtual 449, 6, 2, 2)]
def thX7_sendOff : List (Nat × Nat) := []
theorem ckX7_sendOff : tbX7_sendOff.all (xRow RX7 cX7_sendOff wsX7_sendOff vwCl [8] clX7_sendOff thX7_sendOff 6 (yX7_sendOff.name == "<init>") none) = true := xRow_q 0xb1b1ffa7010284c101b605152d0900a7cb01b604192d2a0d009a051505364801b604192d2a2100a706009f1bc801b62d2c00c60419043a4401b62d2a4ed200c03801b61c1900b42a4a00a26c00b61900b42a1c3d03 85 (by decide +kernel) (by decide +kernel)
theorem usX7_sendOff : xUse wsX7_sendOff vwCl [8] = true := xUse_g rfl (lw_good lwl_X7_sendOff lwl_X70 (by decide +kernel)) xUse_n
theorem tbX7_sendOff_0 {k : Instr → Nat → Nat → Nat → List Nat → Prop} : xse (xFind tbX7_sendOff 0) k = k (.iconst 0) 0 0 0 [] := rfl
theorem tbX7_sendOff_1 {k : Instr → Nat → Nat → Nat → List Nat → Prop} : xse (xFind tbX7_sendOff 1) k = k (.istore_n 2) 2 0 0 [] := rfl
theorem tbX7_sendOff_2 {k : Instr → Nat → Nat → Nat → List Nat → Prop} : xse (xFind tbX7_sendOff 2) k = k (.iload_n 2) 2 0 0 [] := rfl
theorem tbX7_sendOff_3 {k : Instr → Nat → Nat → Nat → List Nat → Prop} : xse (xFind tbX7_sendOff 3) k = k (.aload_n 0) 0 0 0 [] := rfl
theorem tbX7_sendOff_4 {k : Instr → Nat → Nat → Nat → List Nat → Prop} : xse (xFind tbX7_sendOff 4) k = k (.getfield 25) 8 4 2 [] := rfl
theorem tbX7_sendOff_7 {k : Instr → Nat → Nat → Nat → List Nat → Prop} : xse (xFind tbX7_sendOff 7) k = k (.invokevirtual 108) 0 1 0 [] := rfl
theorem tbX7_sendOff_10 {k : Instr → Nat → Nat → Nat → List Nat → Prop} : xse (xFind tbX7_sendOff 10) k = k (.if_icmp .ge 74) 84 0 0 [] := rfl
theorem tbX7_sendOff_13 {k : Instr → Nat → Nat → Nat → List Nat → Prop} : xse (xFind tbX7_sendOff 13) k = k (.aload_n 0) 0 0 0 [] := rfl
theorem tbX7_sendOff_14 {k : Instr → Nat → Nat → Nat → List Nat → Prop} : xse (xFind tbX7_sendOff 14) k = k (.getfield 25) 8 4 2 [] := rfl
theorem tbX7_sendOff_17 {k : Instr → Nat → Nat → Nat → List Nat → Prop} : xse (xFind tbX7_sendOff 17) k = k (.iload_n 2) 2 0 0 [] := rfl
theorem tbX7_sendOff_18 {k : Instr → Nat → Nat → Nat → List Nat → Prop} : xse (xFind tbX7_sendOff 18) k = k (.invokevirtual 312) 1 2 0 [] := rfl
theorem tbX7_sendOff_21 {k : Instr → Nat → Nat → Nat → List Nat → Prop} : xse (xFind tbX7_sendOff 21) k = k (.checkcast 210) 2 0 0 [] := rfl
theorem tbX7_sendOff_24 {k : Instr → Nat → Nat → Nat → List Nat → Prop} : xse (xFind tbX7_sendOff 24) k = k (.astore_n 3) 3 0 0 [] := rfl
theorem tbX7_sendOff_25 {k : Instr → Nat → Nat → Nat → List Nat → Prop} : xse (xFind tbX7_sendOff 25) k = k (.aload_n 0) 0 0 0 [] := rfl
theorem tbX7_sendOff_26 {k : Instr → Nat → Nat → Nat → List Nat → Prop} : xse (xFind tbX7_sendOff 26) k = k (.aload_n 3) 3 0 0 [] := rfl
theorem tbX7_sendOff_27 {k : Instr → Nat → Nat → Nat → List Nat → Prop} : xse (xFind tbX7_sendOff 27) k = k (.invokevirtual 324) 2 2 8 [] := rfl
theorem tbX7_sendOff_30 {k : Instr → Nat → Nat → Nat → List Nat → Prop} : xse (xFind tbX7_sendOff 30) k = k (.astore 4) 4 0 0 [] := rfl
theorem tbX7_sendOff_32 {k : Instr → Nat → Nat → Nat → List Nat → Prop} : xse (xFind tbX7_sendOff 32) k = k (.aload 4) 4 0 0 [] := rfl
theorem tbX7_sendOff_34 {k : Instr → Nat → Nat → Nat → List Nat → Prop} : xse (xFind tbX7_sendOff 34) k = k (.ifnull 44) 78 0 0 [] := rfl
theorem tbX7_sendOff_37 {k : Instr → Nat → Nat → Nat → List Nat → Prop} : xse (xFind tbX7_sendOff 37) k = k (.aload_n 3) 3 0 0 [] := rfl
theorem tbX7_sendOff_38 {k : Instr → Nat → Nat → Nat → List Nat → Prop} : xse (xFind tbX7_sendOff 38) k = k (.invokevirtual 456) 3 1 2 [] := rfl
theorem tbX7_sendOff_41 {k : Instr → Nat → Nat → Nat → List Nat → Prop} : xse (xFind tbX7_sendOff 41) k = k (.iload_n 1) 1 0 0 [] := rfl
theorem tbX7_sendOff_42 {k : Instr → Nat → Nat → Nat → List Nat → Prop} : xse (xFind tbX7_sendOff 42) k = k (.if_icmp .eq 6) 48 0 0 [] := rfl
theorem tbX7_sendOff_45 {k : Instr → Nat → Nat → Nat → List Nat → Prop} : xse (xFind tbX7_sendOff 45) k = k (.goto 33) 78 0 0 [] := rfl
theorem tbX7_sendOff_48 {k : Instr → Nat → Nat → Nat → List Nat → Prop} : xse (xFind tbX7_sendOff 48) k = k (.aload_n 0) 0 0 0 [] := rfl
theorem tbX7_sendOff_49 {k : Instr → Nat → Nat → Nat → List Nat → Prop} : xse (xFind tbX7_sendOff 49) k = k (.aload_n 3) 3 0 0 [] := rfl
theorem tbX7_sendOff_50 {k : Instr → Nat → Nat → Nat → List Nat → Prop} : xse (xFind tbX7_sendOff 50) k = k (.aload 4) 4 0 0 [] := rfl
theorem tbX7_sendOff_52 {k : Instr → Nat → Nat → Nat → List Nat → Prop} : xse (xFind tbX7_sendOff 52) k = k (.invokevirtual 328) 4 3 8 [] := rfl
theorem tbX7_sendOff_55 {k : Instr → Nat → Nat → Nat → List Nat → Prop} : xse (xFind tbX7_sendOff 55) k = k (.istore 5) 5 0 0 [] := rfl
theorem tbX7_sendOff_57 {k : Instr → Nat → Nat → Nat → List Nat → Prop} : xse (xFind tbX7_sendOff 57) k = k (.iload 5) 5 0 0 [] := rfl
theorem tbX7_sendOff_59 {k : Instr → Nat → Nat → Nat → List Nat → Prop} : xse (xFind tbX7_sendOff 59) k = k (.ifCond .ne 13) 72 0 0 [] := rfl
theorem tbX7_sendOff_62 {k : Instr → Nat → Nat → Nat → List Nat → Prop} : xse (xFind tbX7_sendOff 62) k = k (.aload_n 0) 0 0 0 [] := rfl
theorem tbX7_sendOff_63 {k : Instr → Nat → Nat → Nat → List Nat → Prop} : xse (xFind tbX7_sendOff 63) k = k (.aload_n 3) 3 0 0 [] := rfl
theorem tbX7_sendOff_64 {k : Instr → Nat → Nat → Nat → List Nat → Prop} : xse (xFind tbX7_sendOff 64) k = k (.aload 4) 4 0 0 [] := rfl
theorem tbX7_sendOff_66 {k : Instr → Nat → Nat → Nat → List Nat → Prop} : xse (xFind tbX7_sendOff 66) k = k (.invokevirtual 459) 5 3 8 [] := rfl
theorem tbX7_sendOff_69 {k : Instr → Nat → Nat → Nat → List Nat → Prop} : xse (xFind tbX7_sendOff 69) k = k (.goto 9) 78 0 0 [] := rfl
theorem tbX7_sendOff_72 {k : Instr → Nat → Nat → Nat → List Nat → Prop} : xse (xFind tbX7_sendOff 72) k = k (.aload_n 3) 3 0 0 [] := rfl
theorem tbX7_sendOff_73 {k : Instr → Nat → Nat → Nat → List Nat → Prop} : xse (xFind tbX7_sendOff 73) k = k (.iload 5) 5 0 0 [] := rfl
theorem tbX7_sendOff_75 {k : Instr → Nat → Nat → Nat → List Nat → Prop} : xse (xFind tbX7_sendOff 75) k = k (.invokevirtual 449) 6 2 2 [] := rfl
theorem tbX7_sendOff_78 {k : Instr → Nat → Nat → Nat → List Nat → Prop} : xse (xFind tbX7_sendOff 78) k = k (.iinc 2 1) 2 0 0 [] := rfl
theorem tbX7_sendOff_81 {k : Instr → Nat → Nat → Nat → List Nat → Prop} : xse (xFind tbX7_sendOff 81) k = k (.goto (-79)) 2 0 0 [] := rfl
theorem tbX7_sendOff_84 {k : Instr → Nat → Nat → Nat → List Nat → Prop} : xse (xFind tbX7_sendOff 84) k = k (.return_) 0 0 0 [] := rfl

def spX7_sendOff (W9 : xWd) : xSp cS := (fun av S => (2, 67), fun av S K => ∃ (a : Nat) (u : Int32), av = [.ref a, .int u] ∧ ((u = 0 ∨ u = 1) ∧ (∃ (B : Nat) (M : mS), RR W9 B a S M ∧ ∀ S2, RR W9 B a S2 (mSts M u (nBt M)) → K rV S2)))
theorem spcX7_sendOff {av : List Value} {S : cS} {W9 : xWd} : (spX7_sendOff W9).1 av S = (2, 67) := rfl
theorem spwX7_sendOff {S : cS} {W9 : xWd} {K : xRes → cS → Prop} {a : Nat} {u : Int32} : (spX7_sendOff W9).2 [.ref a, .int u] S K = ((u = 0 ∨ u = 1) ∧ (∃ (B : Nat) (M : mS), RR W9 B a S M ∧ ∀ S2, RR W9 B a S2 (mSts M u (nBt M)) → K rV S2)) :=
  propext ⟨fun h => by
    simp only [spX7_sendOff] at h
    obtain ⟨_, _, e, h⟩ := h
    simp only [List.cons.injEq, Value.int.injEq, Value.ref.injEq, rf_eq, and_true, true_and] at e
    obtain ⟨rfl, rfl⟩ := e
    exact h, fun h => ⟨_, _, rfl, h⟩⟩

def callX7_sendOff (W9 : xWd) : Nat → Option (xSp cS) := fun n => match n with | 0 => some (spJx4a65c_size_8abf5 W9) | 1 => some (spJx4a65c_get_915e3 W9) | 2 => some (spX7_nextOf W9) | 3 => some (spX1_isBoundUp W9) | 4 => some (spX7_causeFor W9) | 5 => some (spX7_enter W9) | 6 => some (spX1_waitFor W9) | _ => none

theorem callX7_sendOff_0 {W9 : xWd} {k : xSp cS → Prop} : xcs (callX7_sendOff W9 0) k = k (spJx4a65c_size_8abf5 W9) := rfl

theorem callX7_sendOff_1 {W9 : xWd} {k : xSp cS → Prop} : xcs (callX7_sendOff W9 1) k = k (spJx4a65c_get_915e3 W9) := rfl

theorem callX7_sendOff_2 {W9 : xWd} {k : xSp cS → Prop} : xcs (callX7_sendOff W9 2) k = k (spX7_nextOf W9) := rfl

theorem callX7_sendOff_3 {W9 : xWd} {k : xSp cS → Prop} : xcs (callX7_sendOff W9 3) k = k (spX1_isBoundUp W9) := rfl

theorem callX7_sendOff_4 {W9 : xWd} {k : xSp cS → Prop} : xcs (callX7_sendOff W9 4) k = k (spX7_causeFor W9) := rfl

theorem callX7_sendOff_5 {W9 : xWd} {k : xSp cS → Prop} : xcs (callX7_sendOff W9 5) k = k (spX7_enter W9) := rfl

theorem callX7_sendOff_6 {W9 : xWd} {k : xSp cS → Prop} : xcs (callX7_sendOff W9 6) k = k (spX1_waitFor W9) := rfl

theorem crX7_sendOff (l : Launch) (hl : l.stackTraces = false) (W9 : xWd) : xCallsOK l W9 (cI) (callX7_sendOff W9) clX7_sendOff RX7 wsX7_sendOff 8 183 6 := by
  intro E A p e R s m args below meth c hI hF hL X
  exact List.forall_mem_cons.mpr ⟨⟨_, rfl, xCR_V X (by rw [hI]; exact (semJx4a65c_size_8abf5 l hl W9)) gX7_sendOff_Jx4a65c_size_8abf5 rfl rfl (by decide +kernel) (by rw [hF, hL]; decide)⟩,
    List.forall_mem_cons.mpr ⟨⟨_, rfl, xCR_V X (by rw [hI]; exact (semJx4a65c_get_915e3 l hl W9)) gX7_sendOff_Jx4a65c_get_915e3 rfl rfl (by decide +kernel) (by rw [hF, hL]; decide)⟩,
    List.forall_mem_cons.mpr ⟨⟨_, rfl, xCR_V X (by rw [hI]; exact (semX7_nextOf l hl W9)) gX7_sendOff_X7_nextOf rfl rfl (by decide +kernel) (by rw [hF, hL]; decide)⟩,
    List.forall_mem_cons.mpr ⟨⟨_, rfl, xCR_V X (by rw [hI]; exact (semX1_isBoundUp l hl W9)) gX7_sendOff_X1_isBoundUp rfl rfl (by decide +kernel) (by rw [hF, hL]; decide)⟩,
    List.forall_mem_cons.mpr ⟨⟨_, rfl, xCR_V X (by rw [hI]; exact (semX7_causeFor l hl W9)) gX7_sendOff_X7_causeFor rfl rfl (by decide +kernel) (by rw [hF, hL]; decide)⟩,
    List.forall_mem_cons.mpr ⟨⟨_, rfl, xCR_V X (by rw [hI]; exact (semX7_enter l hl W9)) gX7_sendOff_X7_enter rfl rfl (by decide +kernel) (by rw [hF, hL]; decide)⟩,
    List.forall_mem_cons.mpr ⟨⟨_, rfl, xCR_V X (by rw [hI]; exact (semX1_waitFor l hl W9)) gX7_sendOff_X1_waitFor rfl rfl (by decide +kernel) (by rw [hF, hL]; decide)⟩,
    fun _ h => nomatch h⟩⟩⟩⟩⟩⟩⟩

set_option maxHeartbeats 1200000 in
set_option maxRecDepth 20000 in
theorem semX7_sendOff (l : Launch) (hl : l.stackTraces = false) (W9 : xWd) : xSem l W9 (cI) yX7_sendOff wsX7_sendOff 8 183 (spX7_sendOff W9) := by
  refine xSem_of (call := callX7_sendOff W9) (thrf := fun _ => "") cI_law (by decide +kernel) rfl ckX7_sendOff usX7_sendOff (crX7_sendOff l hl W9) xThrOK_nil ?_ ?_
  · intro av S KF h
    obtain ⟨a, u, rfl, h⟩ := h
    exact ⟨by intro v hv; simp only [List.mem_cons, List.not_mem_nil, or_false] at hv; rcases hv with rfl | rfl <;> first | rfl | exact cat_rf, Nat.le_of_ble_eq_true rfl⟩
  intro av S KF h G hG
  obtain ⟨a, u, rfl, h⟩ := h
  rw [show (spX7_sendOff W9).1 _ S = _ from spcX7_sendOff] at hG
  try dsimp only at hG
  change G 0 [some (.ref a), some (.int u), none, none, none, none] [] S 0 0
  obtain ⟨hu01, B, M, ⟨d0, np0, N0, hRR0⟩, hk⟩ := h
  have hb : nBt M ≤ 6 := hRR0.2.2.1.1.1.2
  have nA : ∀ j, nBt (mSts M u j) = nBt M := fun j => nBt_eq (by rw [mSts_1])
  have loop := xloop hG 2 [true, true, true, false, false, false] (fun j lv st S2 cs ss => lv = [some (.ref a), some (.int u), some (.int (nI j)), none, none, none] ∧ st = [] ∧ sQ W9 B a (mSts M u j) j S2 cs ss) (nBt M) (by
      rintro j hj lv st S2 cs ss ⟨rfl, rfl, hQ⟩ fu hfu
      have hQ2 := hQ
      obtain ⟨U, ⟨d, np, N, hRR, hU⟩, hc⟩ := hQ2
      have hRR2 := hRR
      obtain ⟨hd, rfl, hi, hR, hp, -⟩ := hRR2
      have hj2 : j < nBt (mSts M u j) := by rw [nA]; exact hj
      have hstep : mSts M u (j + 1) = mSt1 (mSts M u j) u j := rfl
      obtain ⟨f1, f2, f3, f4, f5⟩ := R0_L4 hR
      rw [nA] at f4 f5
      obtain ⟨q1, q2⟩ := f5 j hj
      obtain ⟨l1, l2, l3, -⟩ := R0_list hR
      obtain ⟨m1, m2, -⟩ := R0_boats hR
      have hba := R0_bAll hR hi
      have g0 := hR.2.2.2.2.2.2.2.2.1.1
      obtain ⟨hnx1, hnx2⟩ := R0_nx hR hi hj2
      obtain ⟨t1, t2, -⟩ := R0_tow hR hi hj2
      have e0 := ge_nI hj (show nBt M < 1000 by omega)
      have e2 := lt0_nI hj (show nBt M < 1000 by omega)
      obtain ⟨hcs, hss⟩ := hc.le
      generalize hM1 : mSts M u j = M1 at *
      by_cases c1 : M1.2 34 j = -1 ∧ ¬ M1.2 37 j = -1
      · obtain ⟨hin, hnx⟩ := hnx1 c1
        obtain ⟨s, hs7, es, es2⟩ := nx_nat hin (by omega)
        rw [es2] at hnx
        have hup := R0_up hR hi hj2 c1.1
        have s0 := (hR.1 s hs7).1
        by_cases c2 : mUp M1 (nI j) = u
        · have hcs2 := R0_cs hR hi hd hj2 c1.1 c1.2
          rw [es2] at hcs2
          obtain ⟨k, hk10, ek, -⟩ := nx_nat (mBar_in M1 (nI j) (nBt M1)) (by omega)
          rw [ek] at hcs2
          have hst1 : mSts M u (j + 1) = if 0 < mBar M1 (nI j) (nBt M1) then mWts M1 (nI j) (mBar M1 (nI j) (nBt M1)) else mEnt M1 j := by rw [hstep]; unfold mSt1; rw [if_pos ⟨c1.1, c1.2, c2⟩]
          rw [ek] at hst1
          by_cases c3 : k = 0
          · subst c3
            rw [if_neg (by decide)] at hst1
            have e806 : cRf S2 (d 9 0) 806 = d 9 2 := by unfold cRf; rw [hR.2.2.2.2.2.2.2.2.1.2.1.2.2.2.2.2.2]; rfl
            have hC := stC_of hp
            rw [hU] at hC
            have hU64 := hRR.U
            rw [hU] at hU64
            obtain ⟨k1, k2, k3⟩ := hc.step hC (by omega) hU64
            have hz : ((nI 0 : Int32) = 0) = True := eq_true rfl
            simp only [↓callX7_sendOff_0, ↓callX7_sendOff_1, ↓callX7_sendOff_2, ↓callX7_sendOff_3, ↓callX7_sendOff_4, ↓callX7_sendOff_5, ↓callX7_sendOff_6, ↓cg_8_4, cisa, ki_0, ki_1, ↓vm_aload, ↓vm_aload_n, ↓vm_astore, ↓vm_astore_n, ↓vm_checkcast, ↓vm_getfield, ↓vm_goto, ↓vm_iconst, ↓vm_ifCond_ne, ↓vm_if_icmp_eq, ↓vm_if_icmp_ge, ↓vm_ifnull, ↓vm_iinc, ↓vm_iload, ↓vm_iload_n, ↓vm_invokevirtual, ↓vm_istore, ↓vm_istore_n, ↓vm_return_, ↓xc_1, ↓xc_2, ↓xc_3, ↓tbX7_sendOff_0, ↓tbX7_sendOff_1, ↓tbX7_sendOff_2, ↓tbX7_sendOff_3, ↓tbX7_sendOff_4, ↓tbX7_sendOff_7, ↓tbX7_sendOff_10, ↓tbX7_sendOff_13, ↓tbX7_sendOff_14, ↓tbX7_sendOff_17, ↓tbX7_sendOff_18, ↓tbX7_sendOff_21, ↓tbX7_sendOff_24, ↓tbX7_sendOff_25, ↓tbX7_sendOff_26, ↓tbX7_sendOff_27, ↓tbX7_sendOff_30, ↓tbX7_sendOff_32, ↓tbX7_sendOff_34, ↓tbX7_sendOff_37, ↓tbX7_sendOff_38, ↓tbX7_sendOff_41, ↓tbX7_sendOff_42, ↓tbX7_sendOff_45, ↓tbX7_sendOff_48, ↓tbX7_sendOff_49, ↓tbX7_sendOff_50, ↓tbX7_sendOff_52, ↓tbX7_sendOff_55, ↓tbX7_sendOff_57, ↓tbX7_sendOff_59, ↓tbX7_sendOff_62, ↓tbX7_sendOff_63, ↓tbX7_sendOff_64, ↓tbX7_sendOff_66, ↓tbX7_sendOff_69, ↓tbX7_sendOff_72, ↓tbX7_sendOff_73, ↓tbX7_sendOff_75, ↓tbX7_sendOff_78, ↓tbX7_sendOff_81, ↓tbX7_sendOff_84, hfu, xstep0, xJ1_hit, xJ1_go, xJ2_hit1, xJ2_hit2, xJ2_go, ↓xif_t, ↓xif_f, seval, ↓xca_eq, ↓xre_l, ↓xre_r, xmask_t, xmask_f, xmask_nil, ↓xst_eq, xX_eq, eI_eq, eMc_eq, eMs_eq, eF_eq, eThr_eq, ↓xS1_mk, ↓xSI_mk, ↓xSR_mk, ↓xLI_0, ↓xLI_s, ↓xLR_0, ↓xLR_s, vRef_ref, vRef_null, vRef_rf, cat_int, cat_ref, cat_null, cat_rf, rf_some, rf_none, rf_null, rf_eq, rf_ref, ref_rf, ref_null, ref_ref, xOk_0, xOk_1, xOk_2r, xOk_2n, xOk_2f, vOpt_rf, vOpt_ref, vOpt_null, List.set_cons_zero, List.set_cons_succ, List.take_succ_cons, List.take_zero, List.drop_succ_cons, List.drop_zero, List.reverse_cons, List.reverse_nil, List.nil_append, List.cons_append, List.append_nil, List.length_cons, List.length_nil, List.map_cons, List.map_nil, List.sum_cons, List.sum_nil, Option.toList_some, Option.toList_none, xRecv_mk, true_and, and_true, true_implies, Nat.reduceAdd, Nat.reduceLeDiff, Nat.zero_le, Nat.le_refl, Nat.add_zero, Nat.zero_add, reduceIte, not_true_eq_false, not_false_eq_true, false_implies, and_self, implies_true, eq_self, Nat.reduceEqDiff, List.cons.injEq, xsn_1, xsn_2, false_and, and_false, or_false, false_or, or_true, true_or, xsn_3, xsn_4, ↓spwJx4a65c_size_8abf5, spcJx4a65c_size_8abf5, ↓spwJx4a65c_get_915e3, spcJx4a65c_get_915e3, ↓spwX7_nextOf, spcX7_nextOf, ↓spwX1_isBoundUp, spcX1_isBoundUp, ↓spwX7_causeFor, spcX7_causeFor, ↓spwX7_enter, spcX7_enter, ↓spwX1_waitFor, spcX1_waitFor, g0, f1, f2, f3, f4, q1, q2, l1, l2, l3, m1, m2, hba, hnx, hup, c2, hcs2, s0, t2, e0, pos_nI (show j < 1000 by omega), e2, ix_nI (show j < 1000 by omega), hcs, hss, hz, enC, e806, k1, k2]
            try simp only [xif_e]
            refine ⟨B, M1, j, s, d, np, N, hRR, hj2, rfl, c1.1, c1.2, es, hs7, rfl, fun S3 h3 => ?_⟩
            simp only [nI1, true_and]
            exact ⟨_, by rw [hst1]; exact h3, by rw [hU]; exact k3⟩
          · have c4 : 0 < nI k := by rw [show (0 : Int32) = nI 0 from rfl, lt_nI (by omega) (by omega)]; omega
            rw [if_pos c4] at hst1
            have hz : (nI k = 0) = False := by rw [show (0 : Int32) = nI 0 from rfl, eq_nI (by omega) (by omega)]; exact eq_false c3
            obtain ⟨-, w2, w3, w4⟩ := R0_wait_f hR hj2
            have hwt := RRd_wait hRR hj2 hk10
            simp only [↓callX7_sendOff_0, ↓callX7_sendOff_1, ↓callX7_sendOff_2, ↓callX7_sendOff_3, ↓callX7_sendOff_4, ↓callX7_sendOff_5, ↓callX7_sendOff_6, ↓cg_8_4, cisa, ki_0, ki_1, ↓vm_aload, ↓vm_aload_n, ↓vm_astore, ↓vm_astore_n, ↓vm_checkcast, ↓vm_getfield, ↓vm_goto, ↓vm_iconst, ↓vm_ifCond_ne, ↓vm_if_icmp_eq, ↓vm_if_icmp_ge, ↓vm_ifnull, ↓vm_iinc, ↓vm_iload, ↓vm_iload_n, ↓vm_invokevirtual, ↓vm_istore, ↓vm_istore_n, ↓vm_return_, ↓xc_1, ↓xc_2, ↓xc_3, ↓tbX7_sendOff_0, ↓tbX7_sendOff_1, ↓tbX7_sendOff_2, ↓tbX7_sendOff_3, ↓tbX7_sendOff_4, ↓tbX7_sendOff_7, ↓tbX7_sendOff_10, ↓tbX7_sendOff_13, ↓tbX7_sendOff_14, ↓tbX7_sendOff_17, ↓tbX7_sendOff_18, ↓tbX7_sendOff_21, ↓tbX7_sendOff_24, ↓tbX7_sendOff_25, ↓tbX7_sendOff_26, ↓tbX7_sendOff_27, ↓tbX7_sendOff_30, ↓tbX7_sendOff_32, ↓tbX7_sendOff_34, ↓tbX7_sendOff_37, ↓tbX7_sendOff_38, ↓tbX7_sendOff_41, ↓tbX7_sendOff_42, ↓tbX7_sendOff_45, ↓tbX7_sendOff_48, ↓tbX7_sendOff_49, ↓tbX7_sendOff_50, ↓tbX7_sendOff_52, ↓tbX7_sendOff_55, ↓tbX7_sendOff_57, ↓tbX7_sendOff_59, ↓tbX7_sendOff_62, ↓tbX7_sendOff_63, ↓tbX7_sendOff_64, ↓tbX7_sendOff_66, ↓tbX7_sendOff_69, ↓tbX7_sendOff_72, ↓tbX7_sendOff_73, ↓tbX7_sendOff_75, ↓tbX7_sendOff_78, ↓tbX7_sendOff_81, ↓tbX7_sendOff_84, hfu, xstep0, xJ1_hit, xJ1_go, xJ2_hit1, xJ2_hit2, xJ2_go, ↓xif_t, ↓xif_f, seval, ↓xca_eq, ↓xre_l, ↓xre_r, xmask_t, xmask_f, xmask_nil, ↓xst_eq, xX_eq, eI_eq, eMc_eq, eMs_eq, eF_eq, eThr_eq, ↓xS1_mk, ↓xSI_mk, ↓xSR_mk, ↓xLI_0, ↓xLI_s, ↓xLR_0, ↓xLR_s, vRef_ref, vRef_null, vRef_rf, cat_int, cat_ref, cat_null, cat_rf, rf_some, rf_none, rf_null, rf_eq, rf_ref, ref_rf, ref_null, ref_ref, xOk_0, xOk_1, xOk_2r, xOk_2n, xOk_2f, vOpt_rf, vOpt_ref, vOpt_null, List.set_cons_zero, List.set_cons_succ, List.take_succ_cons, List.take_zero, List.drop_succ_cons, List.drop_zero, List.reverse_cons, List.reverse_nil, List.nil_append, List.cons_append, List.append_nil, List.length_cons, List.length_nil, List.map_cons, List.map_nil, List.sum_cons, List.sum_nil, Option.toList_some, Option.toList_none, xRecv_mk, true_and, and_true, true_implies, Nat.reduceAdd, Nat.reduceLeDiff, Nat.zero_le, Nat.le_refl, Nat.add_zero, Nat.zero_add, reduceIte, not_true_eq_false, not_false_eq_true, false_implies, and_self, implies_true, eq_self, Nat.reduceEqDiff, List.cons.injEq, xsn_1, xsn_2, false_and, and_false, or_false, false_or, or_true, true_or, xsn_3, xsn_4, ↓spwJx4a65c_size_8abf5, spcJx4a65c_size_8abf5, ↓spwJx4a65c_get_915e3, spcJx4a65c_get_915e3, ↓spwX7_nextOf, spcX7_nextOf, ↓spwX1_isBoundUp, spcX1_isBoundUp, ↓spwX7_causeFor, spcX7_causeFor, ↓spwX7_enter, spcX7_enter, ↓spwX1_waitFor, spcX1_waitFor, g0, f1, f2, f3, f4, q1, q2, l1, l2, l3, m1, m2, hba, hnx, hup, c2, hcs2, s0, t2, e0, pos_nI (show j < 1000 by omega), e2, ix_nI (show j < 1000 by omega), hcs, hss, hz, w2, w3, w4, xin_nI hk10 (show 10 ≤ 1000 by omega), ix_nI (show k < 1000 by omega), nI1]
            try simp only [xif_e]
            exact ⟨U, by rw [hst1, ← hU]; exact hwt, hc.up⟩
        · have c2b : (u = mUp M1 (nI j)) = False := eq_false (fun z => c2 z.symm)
          simp only [↓callX7_sendOff_0, ↓callX7_sendOff_1, ↓callX7_sendOff_2, ↓callX7_sendOff_3, ↓callX7_sendOff_4, ↓callX7_sendOff_5, ↓callX7_sendOff_6, ↓cg_8_4, cisa, ki_0, ki_1, ↓vm_aload, ↓vm_aload_n, ↓vm_astore, ↓vm_astore_n, ↓vm_checkcast, ↓vm_getfield, ↓vm_goto, ↓vm_iconst, ↓vm_ifCond_ne, ↓vm_if_icmp_eq, ↓vm_if_icmp_ge, ↓vm_ifnull, ↓vm_iinc, ↓vm_iload, ↓vm_iload_n, ↓vm_invokevirtual, ↓vm_istore, ↓vm_istore_n, ↓vm_return_, ↓xc_1, ↓xc_2, ↓xc_3, ↓tbX7_sendOff_0, ↓tbX7_sendOff_1, ↓tbX7_sendOff_2, ↓tbX7_sendOff_3, ↓tbX7_sendOff_4, ↓tbX7_sendOff_7, ↓tbX7_sendOff_10, ↓tbX7_sendOff_13, ↓tbX7_sendOff_14, ↓tbX7_sendOff_17, ↓tbX7_sendOff_18, ↓tbX7_sendOff_21, ↓tbX7_sendOff_24, ↓tbX7_sendOff_25, ↓tbX7_sendOff_26, ↓tbX7_sendOff_27, ↓tbX7_sendOff_30, ↓tbX7_sendOff_32, ↓tbX7_sendOff_34, ↓tbX7_sendOff_37, ↓tbX7_sendOff_38, ↓tbX7_sendOff_41, ↓tbX7_sendOff_42, ↓tbX7_sendOff_45, ↓tbX7_sendOff_48, ↓tbX7_sendOff_49, ↓tbX7_sendOff_50, ↓tbX7_sendOff_52, ↓tbX7_sendOff_55, ↓tbX7_sendOff_57, ↓tbX7_sendOff_59, ↓tbX7_sendOff_62, ↓tbX7_sendOff_63, ↓tbX7_sendOff_64, ↓tbX7_sendOff_66, ↓tbX7_sendOff_69, ↓tbX7_sendOff_72, ↓tbX7_sendOff_73, ↓tbX7_sendOff_75, ↓tbX7_sendOff_78, ↓tbX7_sendOff_81, ↓tbX7_sendOff_84, hfu, xstep0, xJ1_hit, xJ1_go, xJ2_hit1, xJ2_hit2, xJ2_go, ↓xif_t, ↓xif_f, seval, ↓xca_eq, ↓xre_l, ↓xre_r, xmask_t, xmask_f, xmask_nil, ↓xst_eq, xX_eq, eI_eq, eMc_eq, eMs_eq, eF_eq, eThr_eq, ↓xS1_mk, ↓xSI_mk, ↓xSR_mk, ↓xLI_0, ↓xLI_s, ↓xLR_0, ↓xLR_s, vRef_ref, vRef_null, vRef_rf, cat_int, cat_ref, cat_null, cat_rf, rf_some, rf_none, rf_null, rf_eq, rf_ref, ref_rf, ref_null, ref_ref, xOk_0, xOk_1, xOk_2r, xOk_2n, xOk_2f, vOpt_rf, vOpt_ref, vOpt_null, List.set_cons_zero, List.set_cons_succ, List.take_succ_cons, List.take_zero, List.drop_succ_cons, List.drop_zero, List.reverse_cons, List.reverse_nil, List.nil_append, List.cons_append, List.append_nil, List.length_cons, List.length_nil, List.map_cons, List.map_nil, List.sum_cons, List.sum_nil, Option.toList_some, Option.toList_none, xRecv_mk, true_and, and_true, true_implies, Nat.reduceAdd, Nat.reduceLeDiff, Nat.zero_le, Nat.le_refl, Nat.add_zero, Nat.zero_add, reduceIte, not_true_eq_false, not_false_eq_true, false_implies, and_self, implies_true, eq_self, Nat.reduceEqDiff, List.cons.injEq, xsn_1, xsn_2, false_and, and_false, or_false, false_or, or_true, true_or, xsn_3, xsn_4, ↓spwJx4a65c_size_8abf5, spcJx4a65c_size_8abf5, ↓spwJx4a65c_get_915e3, spcJx4a65c_get_915e3, ↓spwX7_nextOf, spcX7_nextOf, ↓spwX1_isBoundUp, spcX1_isBoundUp, ↓spwX7_causeFor, spcX7_causeFor, ↓spwX7_enter, spcX7_enter, ↓spwX1_waitFor, spcX1_waitFor, g0, f1, f2, f3, f4, q1, q2, l1, l2, l3, hnx, hup, c2, c2b, e0, pos_nI (show j < 1000 by omega), e2, ix_nI (show j < 1000 by omega), hcs, hss, nI1]
          try simp only [xif_e]
          exact hQ.up (by rw [hstep]; unfold mSt1; rw [if_neg (fun z => c2 z.2.2)])
      · have hnx := hnx2 c1
        simp only [↓callX7_sendOff_0, ↓callX7_sendOff_1, ↓callX7_sendOff_2, ↓callX7_sendOff_3, ↓callX7_sendOff_4, ↓callX7_sendOff_5, ↓callX7_sendOff_6, ↓cg_8_4, cisa, ki_0, ki_1, ↓vm_aload, ↓vm_aload_n, ↓vm_astore, ↓vm_astore_n, ↓vm_checkcast, ↓vm_getfield, ↓vm_goto, ↓vm_iconst, ↓vm_ifCond_ne, ↓vm_if_icmp_eq, ↓vm_if_icmp_ge, ↓vm_ifnull, ↓vm_iinc, ↓vm_iload, ↓vm_iload_n, ↓vm_invokevirtual, ↓vm_istore, ↓vm_istore_n, ↓vm_return_, ↓xc_1, ↓xc_2, ↓xc_3, ↓tbX7_sendOff_0, ↓tbX7_sendOff_1, ↓tbX7_sendOff_2, ↓tbX7_sendOff_3, ↓tbX7_sendOff_4, ↓tbX7_sendOff_7, ↓tbX7_sendOff_10, ↓tbX7_sendOff_13, ↓tbX7_sendOff_14, ↓tbX7_sendOff_17, ↓tbX7_sendOff_18, ↓tbX7_sendOff_21, ↓tbX7_sendOff_24, ↓tbX7_sendOff_25, ↓tbX7_sendOff_26, ↓tbX7_sendOff_27, ↓tbX7_sendOff_30, ↓tbX7_sendOff_32, ↓tbX7_sendOff_34, ↓tbX7_sendOff_37, ↓tbX7_sendOff_38, ↓tbX7_sendOff_41, ↓tbX7_sendOff_42, ↓tbX7_sendOff_45, ↓tbX7_sendOff_48, ↓tbX7_sendOff_49, ↓tbX7_sendOff_50, ↓tbX7_sendOff_52, ↓tbX7_sendOff_55, ↓tbX7_sendOff_57, ↓tbX7_sendOff_59, ↓tbX7_sendOff_62, ↓tbX7_sendOff_63, ↓tbX7_sendOff_64, ↓tbX7_sendOff_66, ↓tbX7_sendOff_69, ↓tbX7_sendOff_72, ↓tbX7_sendOff_73, ↓tbX7_sendOff_75, ↓tbX7_sendOff_78, ↓tbX7_sendOff_81, ↓tbX7_sendOff_84, hfu, xstep0, xJ1_hit, xJ1_go, xJ2_hit1, xJ2_hit2, xJ2_go, ↓xif_t, ↓xif_f, seval, ↓xca_eq, ↓xre_l, ↓xre_r, xmask_t, xmask_f, xmask_nil, ↓xst_eq, xX_eq, eI_eq, eMc_eq, eMs_eq, eF_eq, eThr_eq, ↓xS1_mk, ↓xSI_mk, ↓xSR_mk, ↓xLI_0, ↓xLI_s, ↓xLR_0, ↓xLR_s, vRef_ref, vRef_null, vRef_rf, cat_int, cat_ref, cat_null, cat_rf, rf_some, rf_none, rf_null, rf_eq, rf_ref, ref_rf, ref_null, ref_ref, xOk_0, xOk_1, xOk_2r, xOk_2n, xOk_2f, vOpt_rf, vOpt_ref, vOpt_null, List.set_cons_zero, List.set_cons_succ, List.take_succ_cons, List.take_zero, List.drop_succ_cons, List.drop_zero, List.reverse_cons, List.reverse_nil, List.nil_append, List.cons_append, List.append_nil, List.length_cons, List.length_nil, List.map_cons, List.map_nil, List.sum_cons, List.sum_nil, Option.toList_some, Option.toList_none, xRecv_mk, true_and, and_true, true_implies, Nat.reduceAdd, Nat.reduceLeDiff, Nat.zero_le, Nat.le_refl, Nat.add_zero, Nat.zero_add, reduceIte, not_true_eq_false, not_false_eq_true, false_implies, and_self, implies_true, eq_self, Nat.reduceEqDiff, List.cons.injEq, xsn_1, xsn_2, false_and, and_false, or_false, false_or, or_true, true_or, xsn_3, xsn_4, ↓spwJx4a65c_size_8abf5, spcJx4a65c_size_8abf5, ↓spwJx4a65c_get_915e3, spcJx4a65c_get_915e3, ↓spwX7_nextOf, spcX7_nextOf, ↓spwX1_isBoundUp, spcX1_isBoundUp, ↓spwX7_causeFor, spcX7_causeFor, ↓spwX7_enter, spcX7_enter, ↓spwX1_waitFor, spcX1_waitFor, g0, f1, f2, f3, f4, q1, q2, l1, l2, l3, hnx, e0, pos_nI (show j < 1000 by omega), e2, ix_nI (show j < 1000 by omega), hcs, hss, nI1]
        try simp only [xif_e]
        exact hQ.up (by rw [hstep]; unfold mSt1; rw [if_neg (fun z => c1 ⟨z.1, z.2.1⟩)])) (by
      rintro lv st S2 cs ss ⟨rfl, rfl, ⟨U, ⟨d, np, N, hRR, hU⟩, hc⟩⟩ fu hfu
      obtain ⟨hcs, hss⟩ := hc.le
      have hk2 := hk S2 ⟨d, np, N, hRR⟩
      obtain ⟨hd, rfl, hi, hR, -⟩ := hRR
      obtain ⟨f1, f2, f3, f4, -⟩ := R0_L4 hR
      rw [nA] at f4
      have g0 := hR.2.2.2.2.2.2.2.2.1.1
      simp only [↓callX7_sendOff_0, ↓callX7_sendOff_1, ↓callX7_sendOff_2, ↓callX7_sendOff_3, ↓callX7_sendOff_4, ↓callX7_sendOff_5, ↓callX7_sendOff_6, ↓cg_8_4, cisa, ki_0, ki_1, ↓vm_aload, ↓vm_aload_n, ↓vm_astore, ↓vm_astore_n, ↓vm_checkcast, ↓vm_getfield, ↓vm_goto, ↓vm_iconst, ↓vm_ifCond_ne, ↓vm_if_icmp_eq, ↓vm_if_icmp_ge, ↓vm_ifnull, ↓vm_iinc, ↓vm_iload, ↓vm_iload_n, ↓vm_invokevirtual, ↓vm_istore, ↓vm_istore_n, ↓vm_return_, ↓xc_1, ↓xc_2, ↓xc_3, ↓tbX7_sendOff_0, ↓tbX7_sendOff_1, ↓tbX7_sendOff_2, ↓tbX7_sendOff_3, ↓tbX7_sendOff_4, ↓tbX7_sendOff_7, ↓tbX7_sendOff_10, ↓tbX7_sendOff_13, ↓tbX7_sendOff_14, ↓tbX7_sendOff_17, ↓tbX7_sendOff_18, ↓tbX7_sendOff_21, ↓tbX7_sendOff_24, ↓tbX7_sendOff_25, ↓tbX7_sendOff_26, ↓tbX7_sendOff_27, ↓tbX7_sendOff_30, ↓tbX7_sendOff_32, ↓tbX7_sendOff_34, ↓tbX7_sendOff_37, ↓tbX7_sendOff_38, ↓tbX7_sendOff_41, ↓tbX7_sendOff_42, ↓tbX7_sendOff_45, ↓tbX7_sendOff_48, ↓tbX7_sendOff_49, ↓tbX7_sendOff_50, ↓tbX7_sendOff_52, ↓tbX7_sendOff_55, ↓tbX7_sendOff_57, ↓tbX7_sendOff_59, ↓tbX7_sendOff_62, ↓tbX7_sendOff_63, ↓tbX7_sendOff_64, ↓tbX7_sendOff_66, ↓tbX7_sendOff_69, ↓tbX7_sendOff_72, ↓tbX7_sendOff_73, ↓tbX7_sendOff_75, ↓tbX7_sendOff_78, ↓tbX7_sendOff_81, ↓tbX7_sendOff_84, hfu, xstep0, xJ1_hit, xJ1_go, xJ2_hit1, xJ2_hit2, xJ2_go, ↓xif_t, ↓xif_f, seval, ↓xca_eq, ↓xre_l, ↓xre_r, xmask_t, xmask_f, xmask_nil, ↓xst_eq, xX_eq, eI_eq, eMc_eq, eMs_eq, eF_eq, eThr_eq, ↓xS1_mk, ↓xSI_mk, ↓xSR_mk, ↓xLI_0, ↓xLI_s, ↓xLR_0, ↓xLR_s, vRef_ref, vRef_null, vRef_rf, cat_int, cat_ref, cat_null, cat_rf, rf_some, rf_none, rf_null, rf_eq, rf_ref, ref_rf, ref_null, ref_ref, xOk_0, xOk_1, xOk_2r, xOk_2n, xOk_2f, vOpt_rf, vOpt_ref, vOpt_null, List.set_cons_zero, List.set_cons_succ, List.take_succ_cons, List.take_zero, List.drop_succ_cons, List.drop_zero, List.reverse_cons, List.reverse_nil, List.nil_append, List.cons_append, List.append_nil, List.length_cons, List.length_nil, List.map_cons, List.map_nil, List.sum_cons, List.sum_nil, Option.toList_some, Option.toList_none, xRecv_mk, true_and, and_true, true_implies, Nat.reduceAdd, Nat.reduceLeDiff, Nat.zero_le, Nat.le_refl, Nat.add_zero, Nat.zero_add, reduceIte, not_true_eq_false, not_false_eq_true, false_implies, and_self, implies_true, eq_self, Nat.reduceEqDiff, List.cons.injEq, xsn_1, xsn_2, false_and, and_false, or_false, false_or, or_true, true_or, xsn_3, xsn_4, ↓spwJx4a65c_size_8abf5, spcJx4a65c_size_8abf5, ↓spwJx4a65c_get_915e3, spcJx4a65c_get_915e3, ↓spwX7_nextOf, spcX7_nextOf, ↓spwX1_isBoundUp, spcX1_isBoundUp, ↓spwX7_causeFor, spcX7_causeFor, ↓spwX7_enter, spcX7_enter, ↓spwX1_waitFor, spcX1_waitFor, g0, f1, f2, f3, f4, le_nI_self, hcs, hss]
      try simp only [xif_e]
      exact hk2)
  refine xgo hG (mb := [true, true, true, false, false, false]) (loop 0 (Nat.zero_le _)) (pc := 0) (fun fu hfu => ?_)
  simp only [↓callX7_sendOff_0, ↓callX7_sendOff_1, ↓callX7_sendOff_2, ↓callX7_sendOff_3, ↓callX7_sendOff_4, ↓callX7_sendOff_5, ↓callX7_sendOff_6, ↓cg_8_4, cisa, ki_0, ki_1, ↓vm_aload, ↓vm_aload_n, ↓vm_astore, ↓vm_astore_n, ↓vm_checkcast, ↓vm_getfield, ↓vm_goto, ↓vm_iconst, ↓vm_ifCond_ne, ↓vm_if_icmp_eq, ↓vm_if_icmp_ge, ↓vm_ifnull, ↓vm_iinc, ↓vm_iload, ↓vm_iload_n, ↓vm_invokevirtual, ↓vm_istore, ↓vm_istore_n, ↓vm_return_, ↓xc_1, ↓xc_2, ↓xc_3, ↓tbX7_sendOff_0, ↓tbX7_sendOff_1, ↓tbX7_sendOff_2, ↓tbX7_sendOff_3, ↓tbX7_sendOff_4, ↓tbX7_sendOff_7, ↓tbX7_sendOff_10, ↓tbX7_sendOff_13, ↓tbX7_sendOff_14, ↓tbX7_sendOff_17, ↓tbX7_sendOff_18, ↓tbX7_sendOff_21, ↓tbX7_sendOff_24, ↓tbX7_sendOff_25, ↓tbX7_sendOff_26, ↓tbX7_sendOff_27, ↓tbX7_sendOff_30, ↓tbX7_sendOff_32, ↓tbX7_sendOff_34, ↓tbX7_sendOff_37, ↓tbX7_sendOff_38, ↓tbX7_sendOff_41, ↓tbX7_sendOff_42, ↓tbX7_sendOff_45, ↓tbX7_sendOff_48, ↓tbX7_sendOff_49, ↓tbX7_sendOff_50, ↓tbX7_sendOff_52, ↓tbX7_sendOff_55, ↓tbX7_sendOff_57, ↓tbX7_sendOff_59, ↓tbX7_sendOff_62, ↓tbX7_sendOff_63, ↓tbX7_sendOff_64, ↓tbX7_sendOff_66, ↓tbX7_sendOff_69, ↓tbX7_sendOff_72, ↓tbX7_sendOff_73, ↓tbX7_sendOff_75, ↓tbX7_sendOff_78, ↓tbX7_sendOff_81, ↓tbX7_sendOff_84, hfu, xstep0, xJ1_hit, xJ1_go, xJ2_hit1, xJ2_hit2, xJ2_go, ↓xif_t, ↓xif_f, seval, ↓xca_eq, ↓xre_l, ↓xre_r, xmask_t, xmask_f, xmask_nil, ↓xst_eq, xX_eq, eI_eq, eMc_eq, eMs_eq, eF_eq, eThr_eq, ↓xS1_mk, ↓xSI_mk, ↓xSR_mk, ↓xLI_0, ↓xLI_s, ↓xLR_0, ↓xLR_s, vRef_ref, vRef_null, vRef_rf, cat_int, cat_ref, cat_null, cat_rf, rf_some, rf_none, rf_null, rf_eq, rf_ref, ref_rf, ref_null, ref_ref, xOk_0, xOk_1, xOk_2r, xOk_2n, xOk_2f, vOpt_rf, vOpt_ref, vOpt_null, List.set_cons_zero, List.set_cons_succ, List.take_succ_cons, List.take_zero, List.drop_succ_cons, List.drop_zero, List.reverse_cons, List.reverse_nil, List.nil_append, List.cons_append, List.append_nil, List.length_cons, List.length_nil, List.map_cons, List.map_nil, List.sum_cons, List.sum_nil, Option.toList_some, Option.toList_none, xRecv_mk, true_and, and_true, true_implies, Nat.reduceAdd, Nat.reduceLeDiff, Nat.zero_le, Nat.le_refl, Nat.add_zero, Nat.zero_add, reduceIte, not_true_eq_false, not_false_eq_true, false_implies, and_self, implies_true, eq_self, Nat.reduceEqDiff, List.cons.injEq, xsn_1, xsn_2, false_and, and_false, or_false, false_or, or_true, true_or, xsn_3, xsn_4, ↓spwJx4a65c_size_8abf5, spcJx4a65c_size_8abf5, ↓spwJx4a65c_get_915e3, spcJx4a65c_get_915e3, ↓spwX7_nextOf, spcX7_nextOf, ↓spwX1_isBoundUp, spcX1_isBoundUp, ↓spwX7_causeFor, spcX7_causeFor, ↓spwX7_enter, spcX7_enter, ↓spwX1_waitFor, spcX1_waitFor]
  try simp only [xif_e]
  exact ⟨rfl, _, ⟨d0, np0, N0, hRR0, rfl⟩, Or.inl ⟨rfl, rfl⟩⟩

theorem hrs_at {x : Int32} (h1 : 1 ≤ x) (h2 : x ≤ 100) : ∃ h, h < 100 ∧ x - 1 = nI h := by
  obtain ⟨a, a1, a2, rfl⟩ := in_1n (a := 1) (b := 100) h1 h2 (by omega) (by omega)
  obtain ⟨c, rfl⟩ : ∃ c, a = c + 1 := ⟨a - 1, by omega⟩
  exact ⟨c, by omega, by rw [← nI1, Int32.add_sub_cancel]⟩

def tbX7_travel : List (Nat × xHint) := [(0, .iconst 0, 0, 0, 0, []), (1, .istore_n 1, 1, 0, 0, []), (2, .iload_n 1, 1, 0, 0, []), (3, .aload_n 0, 0, 0, 0, []), (4, .getfield 25, 8, 4, 2, []), (7, .invokevirtual 108, 0, 1, 0, []), (10, .if_icmp .ge 113, 123, 0, 0, []), (13, .aload_n 0, 0, 0, 0, []), (14, .getfield 25, 8, 4, 2, []), (17, .iload_n 1, 1, 0, 0, []), (18, .invokevirtual 312, 1, 2, 0, []), (21, .checkcast 210, 2, 0, 0, []), (24, .astore_n 2, 2, 0, 0, []), (25, .aload_n 2, 2, 0, 0, []), (26, .getfield 332, 2, 7, 0, []), (29, .ifCond .lt 88, 117, 0, 0, []), (32, .aload_n 2, 2, 0, 0, []), (33, .getfield 332, 2, 7, 0, []), (36, .aload_n 0, 0, 0, 0, []), (37, .getfield 10, 8, 0, 2, []), (40, .invokevirtual 108, 0, 1, 0, []), (43, .if_icmp .lt 6, 49, 0, 0, []), (46, .goto 71, 117, 0, 0, []), (49, .aload_n 0, 0, 0, 0, []), (50, .getfield 10, 8, 0, 2, []), (53, .aload_n 2, 2, 0, 0, []), (54, .getfield 332, 2, 7, 0, []), (57, .invokevirtual 312, 1, 2, 0, []), (60, .checkcast 39, 6, 0, 0, []), (63, .astore_n 3, 3, 0, 0, []), (64, .aload_n 3, 3, 0, 0, []), (65, .getfield 442, 6, 4, 1, []), (68, .ifCond .ne 27, 95, 0, 0, []), (71, .aload_n 0, 0, 0, 0, []), (72, .aload_n 3, 3, 0, 0, []), (73, .invokevirtual 445, 2, 2, 8, []), (76, .aload_n 2, 2, 0, 0, []), (77, .getfield 232, 2, 3, 2, []), (80, .invokevirtual 338, 3, 1, 5, []), (83, .if_icmp .ge 12, 95, 0, 0, []), (86, .aload_n 2, 2, 0, 0, []), (87, .bipush 9, 0, 0, 0, []), (89, .invokevirtual 449, 4, 2, 2, []), (92, .goto 25, 117, 0, 0, []), (95, .aload_n 2, 2, 0, 0, []), (96, .dup, 0, 0, 0, []), (97, .getfield 301, 2, 9, 0, []), (100, .iconst 1, 0, 0, 0, []), (101, .isub, 0, 0, 0, []), (102, .putfield 301, 2, 9, 0, []), (105, .aload_n 2, 2, 0, 0, []), (106, .getfield 301, 2, 9, 0, []), (109, .ifCond .gt 8, 117, 0, 0, []), (112, .aload_n 0, 0, 0, 0, []), (113, .aload_n 2, 2, 0, 0, []), (114, .invokevirtual 452, 5, 2, 8, []), (117, .iinc 1 1, 1, 0, 0, []), (120, .goto (-118), 2, 0, 0, []), (123, .return_, 0, 0, 0, [])]
def clX7_travel : List (Instr × Nat × Nat × Nat) := [(.invokevirtual 108, 0, 1, 0), (.invokevirtual 312, 1, 2, 0), (.invokevirtual 445, 2, 2, 8), (.invokevirtual 338, 3, 1, 5), (.invokevirtual 449, 4, 2, 2), (.invokevirtual 452, 5, 2, 8)]
def thX7_travel : List (Nat × Nat) := []
theorem ckX7_travel : tbX7_travel.all (xRow RX7 cX7_travel wsX7_travel vwCl [2, 6, 8] clX7_travel thX7_travel 4 (yX7_travel.name == "<init>") none) = true := xRow_q 0xb18affa7010184c401b62c2a08009d2d01b42c2d01b564042d01b4592c1900a7c101b609102c0c00a25201b6e800b42cbd01b62d2a1b009aba01b42d4e2700c03801b64c01b42c0a00b42a4700a70600a16c00b60a00b42a4c01b42c58009b4c01b42c4dd200c03801b61b1900b42a7100a26c00b61900b42a1b3c03 124 (by decide +kernel) (by decide +kernel)
theorem usX7_travel : xUse wsX7_travel vwCl [2, 6, 8] = true := xUse_g rfl (lw_good lwl_X7_travel lwl_X10 (by decide +kernel)) (xUse_g rfl (lw_good lwl_X7_travel lwl_X50 (by decide +kernel)) (xUse_g rfl (lw_good lwl_X7_travel lwl_X70 (by decide +kernel)) xUse_n))
theorem tbX7_travel_0 {k : Instr → Nat → Nat → Nat → List Nat → Prop} : xse (xFind tbX7_travel 0) k = k (.iconst 0) 0 0 0 [] := rfl
theorem tbX7_travel_1 {k : Instr → Nat → Nat → Nat → List Nat → Prop} : xse (xFind tbX7_travel 1) k = k (.istore_n 1) 1 0 0 [] := rfl
theorem tbX7_travel_2 {k : Instr → Nat → Nat → Nat → List Nat → Prop} : xse (xFind tbX7_travel 2) k = k (.iload_n 1) 1 0 0 [] := rfl
theorem tbX7_travel_3 {k : Instr → Nat → Nat → Nat → List Nat → Prop} : xse (xFind tbX7_travel 3) k = k (.aload_n 0) 0 0 0 [] := rfl
theorem tbX7_travel_4 {k : Instr → Nat → Nat → Nat → List Nat → Prop} : xse (xFind tbX7_travel 4) k = k (.getfield 25) 8 4 2 [] := rfl
theorem tbX7_travel_7 {k : Instr → Nat → Nat → Nat → List Nat → Prop} : xse (xFind tbX7_travel 7) k = k (.invokevirtual 108) 0 1 0 [] := rfl
theorem tbX7_travel_10 {k : Instr → Nat → Nat → Nat → List Nat → Prop} : xse (xFind tbX7_travel 10) k = k (.if_icmp .ge 113) 123 0 0 [] := rfl
theorem tbX7_travel_13 {k : Instr → Nat → Nat → Nat → List Nat → Prop} : xse (xFind tbX7_travel 13) k = k (.aload_n 0) 0 0 0 [] := rfl
theorem tbX7_travel_14 {k : Instr → Nat → Nat → Nat → List Nat → Prop} : xse (xFind tbX7_travel 14) k = k (.getfield 25) 8 4 2 [] := rfl
theorem tbX7_travel_17 {k : Instr → Nat → Nat → Nat → List Nat → Prop} : xse (xFind tbX7_travel 17) k = k (.iload_n 1) 1 0 0 [] := rfl
theorem tbX7_travel_18 {k : Instr → Nat → Nat → Nat → List Nat → Prop} : xse (xFind tbX7_travel 18) k = k (.invokevirtual 312) 1 2 0 [] := rfl
theorem tbX7_travel_21 {k : Instr → Nat → Nat → Nat → List Nat → Prop} : xse (xFind tbX7_travel 21) k = k (.checkcast 210) 2 0 0 [] := rfl
theorem tbX7_travel_24 {k : Instr → Nat → Nat → Nat → List Nat → Prop} : xse (xFind tbX7_travel 24) k = k (.astore_n 2) 2 0 0 [] := rfl
theorem tbX7_travel_25 {k : Instr → Nat → Nat → Nat → List Nat → Prop} : xse (xFind tbX7_travel 25) k = k (.aload_n 2) 2 0 0 [] := rfl
theorem tbX7_travel_26 {k : Instr → Nat → Nat → Nat → List Nat → Prop} : xse (xFind tbX7_travel 26) k = k (.getfield 332) 2 7 0 [] := rfl
theorem tbX7_travel_29 {k : Instr → Nat → Nat → Nat → List Nat → Prop} : xse (xFind tbX7_travel 29) k = k (.ifCond .lt 88) 117 0 0 [] := rfl
theorem tbX7_travel_32 {k : Instr → Nat → Nat → Nat → List Nat → Prop} : xse (xFind tbX7_travel 32) k = k (.aload_n 2) 2 0 0 [] := rfl
theorem tbX7_travel_33 {k : Instr → Nat → Nat → Nat → List Nat → Prop} : xse (xFind tbX7_travel 33) k = k (.getfield 332) 2 7 0 [] := rfl
theorem tbX7_travel_36 {k : Instr → Nat → Nat → Nat → List Nat → Prop} : xse (xFind tbX7_travel 36) k = k (.aload_n 0) 0 0 0 [] := rfl
theorem tbX7_travel_37 {k : Instr → Nat → Nat → Nat → List Nat → Prop} : xse (xFind tbX7_travel 37) k = k (.getfield 10) 8 0 2 [] := rfl
theorem tbX7_travel_40 {k : Instr → Nat → Nat → Nat → List Nat → Prop} : xse (xFind tbX7_travel 40) k = k (.invokevirtual 108) 0 1 0 [] := rfl
theorem tbX7_travel_43 {k : Instr → Nat → Nat → Nat → List Nat → Prop} : xse (xFind tbX7_travel 43) k = k (.if_icmp .lt 6) 49 0 0 [] := rfl
theorem tbX7_travel_46 {k : Instr → Nat → Nat → Nat → List Nat → Prop} : xse (xFind tbX7_travel 46) k = k (.goto 71) 117 0 0 [] := rfl
theorem tbX7_travel_49 {k : Instr → Nat → Nat → Nat → List Nat → Prop} : xse (xFind tbX7_travel 49) k = k (.aload_n 0) 0 0 0 [] := rfl
theorem tbX7_travel_50 {k : Instr → Nat → Nat → Nat → List Nat → Prop} : xse (xFind tbX7_travel 50) k = k (.getfield 10) 8 0 2 [] := rfl
theorem tbX7_travel_53 {k : Instr → Nat → Nat → Nat → List Nat → Prop} : xse (xFind tbX7_travel 53) k = k (.aload_n 2) 2 0 0 [] := rfl
theorem tbX7_travel_54 {k : Instr → Nat → Nat → Nat → List Nat → Prop} : xse (xFind tbX7_travel 54) k = k (.getfield 332) 2 7 0 [] := rfl
theorem tbX7_travel_57 {k : Instr → Nat → Nat → Nat → List Nat → Prop} : xse (xFind tbX7_travel 57) k = k (.invokevirtual 312) 1 2 0 [] := rfl
theorem tbX7_travel_60 {k : Instr → Nat → Nat → Nat → List Nat → Prop} : xse (xFind tbX7_travel 60) k = k (.checkcast 39) 6 0 0 [] := rfl
theorem tbX7_travel_63 {k : Instr → Nat → Nat → Nat → List Nat → Prop} : xse (xFind tbX7_travel 63) k = k (.astore_n 3) 3 0 0 [] := rfl
theorem tbX7_travel_64 {k : Instr → Nat → Nat → Nat → List Nat → Prop} : xse (xFind tbX7_travel 64) k = k (.aload_n 3) 3 0 0 [] := rfl
theorem tbX7_travel_65 {k : Instr → Nat → Nat → Nat → List Nat → Prop} : xse (xFind tbX7_travel 65) k = k (.getfield 442) 6 4 1 [] := rfl
theorem tbX7_travel_68 {k : Instr → Nat → Nat → Nat → List Nat → Prop} : xse (xFind tbX7_travel 68) k = k (.ifCond .ne 27) 95 0 0 [] := rfl
theorem tbX7_travel_71 {k : Instr → Nat → Nat → Nat → List Nat → Prop} : xse (xFind tbX7_travel 71) k = k (.aload_n 0) 0 0 0 [] := rfl
theorem tbX7_travel_72 {k : Instr → Nat → Nat → Nat → List Nat → Prop} : xse (xFind tbX7_travel 72) k = k (.aload_n 3) 3 0 0 [] := rfl
theorem tbX7_travel_73 {k : Instr → Nat → Nat → Nat → List Nat → Prop} : xse (xFind tbX7_travel 73) k = k (.invokevirtual 445) 2 2 8 [] := rfl
theorem tbX7_travel_76 {k : Instr → Nat → Nat → Nat → List Nat → Prop} : xse (xFind tbX7_travel 76) k = k (.aload_n 2) 2 0 0 [] := rfl
theorem tbX7_travel_77 {k : Instr → Nat → Nat → Nat → List Nat → Prop} : xse (xFind tbX7_travel 77) k = k (.getfield 232) 2 3 2 [] := rfl
theorem tbX7_travel_80 {k : Instr → Nat → Nat → Nat → List Nat → Prop} : xse (xFind tbX7_travel 80) k = k (.invokevirtual 338) 3 1 5 [] := rfl
theorem tbX7_travel_83 {k : Instr → Nat → Nat → Nat → List Nat → Prop} : xse (xFind tbX7_travel 83) k = k (.if_icmp .ge 12) 95 0 0 [] := rfl
theorem tbX7_travel_86 {k : Instr → Nat → Nat → Nat → List Nat → Prop} : xse (xFind tbX7_travel 86) k = k (.aload_n 2) 2 0 0 [] := rfl
theorem tbX7_travel_87 {k : Instr → Nat → Nat → Nat → List Nat → Prop} : xse (xFind tbX7_travel 87) k = k (.bipush 9) 0 0 0 [] := rfl
theorem tbX7_travel_89 {k : Instr → Nat → Nat → Nat → List Nat → Prop} : xse (xFind tbX7_travel 89) k = k (.invokevirtual 449) 4 2 2 [] := rfl
theorem tbX7_travel_92 {k : Instr → Nat → Nat → Nat → List Nat → Prop} : xse (xFind tbX7_travel 92) k = k (.goto 25) 117 0 0 [] := rfl
theorem tbX7_travel_95 {k : Instr → Nat → Nat → Nat → List Nat → Prop} : xse (xFind tbX7_travel 95) k = k (.aload_n 2) 2 0 0 [] := rfl
theorem tbX7_travel_96 {k : Instr → Nat → Nat → Nat → List Nat → Prop} : xse (xFind tbX7_travel 96) k = k (.dup) 0 0 0 [] := rfl
theorem tbX7_travel_97 {k : Instr → Nat → Nat → Nat → List Nat → Prop} : xse (xFind tbX7_travel 97) k = k (.getfield 301) 2 9 0 [] := rfl
theorem tbX7_travel_100 {k : Instr → Nat → Nat → Nat → List Nat → Prop} : xse (xFind tbX7_travel 100) k = k (.iconst 1) 0 0 0 [] := rfl
theorem tbX7_travel_101 {k : Instr → Nat → Nat → Nat → List Nat → Prop} : xse (xFind tbX7_travel 101) k = k (.isub) 0 0 0 [] := rfl
theorem tbX7_travel_102 {k : Instr → Nat → Nat → Nat → List Nat → Prop} : xse (xFind tbX7_travel 102) k = k (.putfield 301) 2 9 0 [] := rfl
theorem tbX7_travel_105 {k : Instr → Nat → Nat → Nat → List Nat → Prop} : xse (xFind tbX7_travel 105) k = k (.aload_n 2) 2 0 0 [] := rfl
theorem tbX7_travel_106 {k : Instr → Nat → Nat → Nat → List Nat → Prop} : xse (xFind tbX7_travel 106) k = k (.getfield 301) 2 9 0 [] := rfl
theorem tbX7_travel_109 {k : Instr → Nat → Nat → Nat → List Nat → Prop} : xse (xFind tbX7_travel 109) k = k (.ifCond .gt 8) 117 0 0 [] := rfl
theorem tbX7_travel_112 {k : Instr → Nat → Nat → Nat → List Nat → Prop} : xse (xFind tbX7_travel 112) k = k (.aload_n 0) 0 0 0 [] := rfl
theorem tbX7_travel_113 {k : Instr → Nat → Nat → Nat → List Nat → Prop} : xse (xFind tbX7_travel 113) k = k (.aload_n 2) 2 0 0 [] := rfl
theorem tbX7_travel_114 {k : Instr → Nat → Nat → Nat → List Nat → Prop} : xse (xFind tbX7_travel 114) k = k (.invokevirtual 452) 5 2 8 [] := rfl
theorem tbX7_travel_117 {k : Instr → Nat → Nat → Nat → List Nat → Prop} : xse (xFind tbX7_travel 117) k = k (.iinc 1 1) 1 0 0 [] := rfl
theorem tbX7_travel_120 {k : Instr → Nat → Nat → Nat → List Nat → Prop} : xse (xFind tbX7_travel 120) k = k (.goto (-118)) 2 0 0 [] := rfl
theorem tbX7_travel_123 {k : Instr → Nat → Nat → Nat → List Nat → Prop} : xse (xFind tbX7_travel 123) k = k (.return_) 0 0 0 [] := rfl

def spX7_travel (W9 : xWd) : xSp cS := (fun av S => (2, 67), fun av S K => ∃ (a : Nat), av = [.ref a] ∧ (∃ (B : Nat) (M : mS), RR W9 B a S M ∧ ∀ S2, RR W9 B a S2 (mH2 M (nBt M)) → K rV S2))
theorem spcX7_travel {av : List Value} {S : cS} {W9 : xWd} : (spX7_travel W9).1 av S = (2, 67) := rfl
theorem spwX7_travel {S : cS} {W9 : xWd} {K : xRes → cS → Prop} {a : Nat} : (spX7_travel W9).2 [.ref a] S K = (∃ (B : Nat) (M : mS), RR W9 B a S M ∧ ∀ S2, RR W9 B a S2 (mH2 M (nBt M)) → K rV S2) :=
  propext ⟨fun h => by
    simp only [spX7_travel] at h
    obtain ⟨_, e, h⟩ := h
    simp only [List.cons.injEq, Value.int.injEq, Value.ref.injEq, rf_eq, and_true, true_and] at e
    obtain rfl := e
    exact h, fun h => ⟨_, rfl, h⟩⟩

def callX7_travel (W9 : xWd) : Nat → Option (xSp cS) := fun n => match n with | 0 => some (spJx4a65c_size_8abf5 W9) | 1 => some (spJx4a65c_get_915e3 W9) | 2 => some (spX7_waterOf W9) | 3 => some (spX4_draught W9) | 4 => some (spX1_waitFor W9) | 5 => some (spX7_arrive W9) | _ => none

theorem callX7_travel_0 {W9 : xWd} {k : xSp cS → Prop} : xcs (callX7_travel W9 0) k = k (spJx4a65c_size_8abf5 W9) := rfl

theorem callX7_travel_1 {W9 : xWd} {k : xSp cS → Prop} : xcs (callX7_travel W9 1) k = k (spJx4a65c_get_915e3 W9) := rfl

theorem callX7_travel_2 {W9 : xWd} {k : xSp cS → Prop} : xcs (callX7_travel W9 2) k = k (spX7_waterOf W9) := rfl

theorem callX7_travel_3 {W9 : xWd} {k : xSp cS → Prop} : xcs (callX7_travel W9 3) k = k (spX4_draught W9) := rfl

theorem callX7_travel_4 {W9 : xWd} {k : xSp cS → Prop} : xcs (callX7_travel W9 4) k = k (spX1_waitFor W9) := rfl

theorem callX7_travel_5 {W9 : xWd} {k : xSp cS → Prop} : xcs (callX7_travel W9 5) k = k (spX7_arrive W9) := rfl

theorem crX7_travel (l : Launch) (hl : l.stackTraces = false) (W9 : xWd) : xCallsOK l W9 (cI) (callX7_travel W9) clX7_travel RX7 wsX7_travel 4 87 4 := by
  intro E A p e R s m args below meth c hI hF hL X
  exact List.forall_mem_cons.mpr ⟨⟨_, rfl, xCR_V X (by rw [hI]; exact (semJx4a65c_size_8abf5 l hl W9)) gX7_travel_Jx4a65c_size_8abf5 rfl rfl (by decide +kernel) (by rw [hF, hL]; decide)⟩,
    List.forall_mem_cons.mpr ⟨⟨_, rfl, xCR_V X (by rw [hI]; exact (semJx4a65c_get_915e3 l hl W9)) gX7_travel_Jx4a65c_get_915e3 rfl rfl (by decide +kernel) (by rw [hF, hL]; decide)⟩,
    List.forall_mem_cons.mpr ⟨⟨_, rfl, xCR_V X (by rw [hI]; exact (semX7_waterOf l hl W9)) gX7_travel_X7_waterOf rfl rfl (by decide +kernel) (by rw [hF, hL]; decide)⟩,
    List.forall_mem_cons.mpr ⟨⟨_, rfl, xCR_V X (by rw [hI]; exact (semX4_draught l hl W9)) gX7_travel_X4_draught rfl rfl (by decide +kernel) (by rw [hF, hL]; decide)⟩,
    List.forall_mem_cons.mpr ⟨⟨_, rfl, xCR_V X (by rw [hI]; exact (semX1_waitFor l hl W9)) gX7_travel_X1_waitFor rfl rfl (by decide +kernel) (by rw [hF, hL]; decide)⟩,
    List.forall_mem_cons.mpr ⟨⟨_, rfl, xCR_V X (by rw [hI]; exact (semX7_arrive l hl W9)) gX7_travel_X7_arrive rfl rfl (by decide +kernel) (by rw [hF, hL]; decide)⟩,
    fun _ h => nomatch h⟩⟩⟩⟩⟩⟩

set_option maxHeartbeats 1200000 in
set_option maxRecDepth 20000 in
theorem semX7_travel (l : Launch) (hl : l.stackTraces = false) (W9 : xWd) : xSem l W9 (cI) yX7_travel wsX7_travel 4 87 (spX7_travel W9) := by
  refine xSem_of (call := callX7_travel W9) (thrf := fun _ => "") cI_law (by decide +kernel) rfl ckX7_travel usX7_travel (crX7_travel l hl W9) xThrOK_nil ?_ ?_
  · intro av S KF h
    obtain ⟨a, rfl, h⟩ := h
    exact ⟨by intro v hv; simp only [List.mem_cons, List.not_mem_nil, or_false] at hv; rcases hv with rfl <;> first | rfl | exact cat_rf, Nat.le_of_ble_eq_true rfl⟩
  intro av S KF h G hG
  obtain ⟨a, rfl, h⟩ := h
  rw [show (spX7_travel W9).1 _ S = _ from spcX7_travel] at hG
  try dsimp only at hG
  change G 0 [some (.ref a), none, none, none] [] S 0 0
  obtain ⟨B, M, ⟨d0, np0, N0, hRR0⟩, hk⟩ := h
  have hb : nBt M ≤ 6 := hRR0.2.2.1.1.1.2
  have nA : ∀ j, nBt (mH2 M j) = nBt M := fun j => nBt_eq (by rw [mH2_1])
  have loop := xloop hG 2 [true, true, false, false] (fun j lv st S2 cs ss => lv = [some (.ref a), some (.int (nI j)), none, none] ∧ st = [] ∧ sQ W9 B a (mH2 M j) j S2 cs ss) (nBt M) (by
      rintro j hj lv st S2 cs ss ⟨rfl, rfl, hQ⟩ fu hfu
      have hQ2 := hQ
      obtain ⟨U, ⟨d, np, N, hRR, hU⟩, hc⟩ := hQ2
      have hRR2 := hRR
      obtain ⟨hd, rfl, hi, hR, hp, hl, hN, hB8⟩ := hRR2
      have hj2 : j < nBt (mH2 M j) := by rw [nA]; exact hj
      have hstep : mH2 M (j + 1) = if (mH2 M j).2 34 j = -1 then mH2 M j else mMov (mH2 M j) j := rfl
      obtain ⟨f1, f2, f3, f4, f5⟩ := R0_L4 hR
      rw [nA] at f4 f5
      obtain ⟨q1, q2⟩ := f5 j hj
      have g0 := hR.2.2.2.2.2.2.2.2.1.1
      have g8 := hR.2.2.2.2.2.2.2.2.1.2.2.2.1
      have b207 := (R0_bfld hR hj2).1
      have e0 := ge_nI hj (show nBt M < 1000 by omega)
      have e2 := lt0_nI hj (show nBt M < 1000 by omega)
      obtain ⟨hcs, hss⟩ := hc.le
      generalize hM1 : mH2 M j = M1 at *
      by_cases c1 : M1.2 34 j = -1
      · rw [c1] at b207
        have hz : ((-1 : Int32) < 0) = True := eq_true (by decide)
        simp only [↓callX7_travel_0, ↓callX7_travel_1, ↓callX7_travel_2, ↓callX7_travel_3, ↓callX7_travel_4, ↓callX7_travel_5, ↓cg_2_3, ↓cg_2_7, ↓cg_2_9, ↓cg_6_4, ↓cg_8_0, ↓cg_8_4, cisa, ↓cp_2_9, kb_9, kc_9, ki_0, ki_1, ↓vm_aload_n, ↓vm_astore_n, ↓vm_bipush, ↓vm_checkcast, ↓vm_dup, ↓vm_getfield, ↓vm_goto, ↓vm_iconst, ↓vm_ifCond_gt, ↓vm_ifCond_lt, ↓vm_ifCond_ne, ↓vm_if_icmp_ge, ↓vm_if_icmp_lt, ↓vm_iinc, ↓vm_iload_n, ↓vm_invokevirtual, ↓vm_istore_n, ↓vm_isub, ↓vm_putfield, ↓vm_return_, ↓xc_1, ↓xc_2, ↓tbX7_travel_0, ↓tbX7_travel_1, ↓tbX7_travel_2, ↓tbX7_travel_3, ↓tbX7_travel_4, ↓tbX7_travel_7, ↓tbX7_travel_10, ↓tbX7_travel_13, ↓tbX7_travel_14, ↓tbX7_travel_17, ↓tbX7_travel_18, ↓tbX7_travel_21, ↓tbX7_travel_24, ↓tbX7_travel_25, ↓tbX7_travel_26, ↓tbX7_travel_29, ↓tbX7_travel_32, ↓tbX7_travel_33, ↓tbX7_travel_36, ↓tbX7_travel_37, ↓tbX7_travel_40, ↓tbX7_travel_43, ↓tbX7_travel_46, ↓tbX7_travel_49, ↓tbX7_travel_50, ↓tbX7_travel_53, ↓tbX7_travel_54, ↓tbX7_travel_57, ↓tbX7_travel_60, ↓tbX7_travel_63, ↓tbX7_travel_64, ↓tbX7_travel_65, ↓tbX7_travel_68, ↓tbX7_travel_71, ↓tbX7_travel_72, ↓tbX7_travel_73, ↓tbX7_travel_76, ↓tbX7_travel_77, ↓tbX7_travel_80, ↓tbX7_travel_83, ↓tbX7_travel_86, ↓tbX7_travel_87, ↓tbX7_travel_89, ↓tbX7_travel_92, ↓tbX7_travel_95, ↓tbX7_travel_96, ↓tbX7_travel_97, ↓tbX7_travel_100, ↓tbX7_travel_101, ↓tbX7_travel_102, ↓tbX7_travel_105, ↓tbX7_travel_106, ↓tbX7_travel_109, ↓tbX7_travel_112, ↓tbX7_travel_113, ↓tbX7_travel_114, ↓tbX7_travel_117, ↓tbX7_travel_120, ↓tbX7_travel_123, hfu, xstep0, xJ1_hit, xJ1_go, xJ2_hit1, xJ2_hit2, xJ2_go, ↓xif_t, ↓xif_f, seval, ↓xca_eq, ↓xre_l, ↓xre_r, xmask_t, xmask_f, xmask_nil, ↓xst_eq, xX_eq, eI_eq, eMc_eq, eMs_eq, eF_eq, eThr_eq, ↓xS1_mk, ↓xSI_mk, ↓xSR_mk, ↓xLI_0, ↓xLI_s, ↓xLR_0, ↓xLR_s, vRef_ref, vRef_null, vRef_rf, cat_int, cat_ref, cat_null, cat_rf, rf_some, rf_none, rf_null, rf_eq, rf_ref, ref_rf, ref_null, ref_ref, xOk_0, xOk_1, xOk_2r, xOk_2n, xOk_2f, vOpt_rf, vOpt_ref, vOpt_null, List.set_cons_zero, List.set_cons_succ, List.take_succ_cons, List.take_zero, List.drop_succ_cons, List.drop_zero, List.reverse_cons, List.reverse_nil, List.nil_append, List.cons_append, List.append_nil, List.length_cons, List.length_nil, List.map_cons, List.map_nil, List.sum_cons, List.sum_nil, Option.toList_some, Option.toList_none, xRecv_mk, true_and, and_true, true_implies, Nat.reduceAdd, Nat.reduceLeDiff, Nat.zero_le, Nat.le_refl, Nat.add_zero, Nat.zero_add, reduceIte, not_true_eq_false, not_false_eq_true, false_implies, and_self, implies_true, eq_self, Nat.reduceEqDiff, List.cons.injEq, xsn_1, xsn_2, false_and, and_false, or_false, false_or, or_true, true_or, xsn_3, xsn_4, cK_setI, cFr_setI, ↓spwJx4a65c_size_8abf5, spcJx4a65c_size_8abf5, ↓spwJx4a65c_get_915e3, spcJx4a65c_get_915e3, ↓spwX7_waterOf, spcX7_waterOf, ↓spwX4_draught, spcX4_draught, ↓spwX1_waitFor, spcX1_waitFor, ↓spwX7_arrive, spcX7_arrive, g0, f1, f2, f3, f4, q1, q2, b207, hz, e0, pos_nI (show j < 1000 by omega), e2, ix_nI (show j < 1000 by omega), hcs, hss, nI1]
        try simp only [xif_e]
        exact hQ.up (by rw [hstep, if_pos c1])
      · rw [if_neg c1] at hstep
        obtain ⟨bb1, bb2, bb3⟩ := hi.2.2.2.2.2.2.1 j hj2
        obtain ⟨v1, v2, v3⟩ := bb3.resolve_left (fun z => c1 z.1)
        obtain ⟨s, hs7, es, es2⟩ := nx_nat v1 (by omega)
        rw [es] at b207
        obtain ⟨k1, k2, k3, k4, k5⟩ := R0_L0 hR
        obtain ⟨r1, r2⟩ := k5 s hs7
        obtain ⟨-, -, s601, -, -, s604, -⟩ := hR.1 s hs7
        obtain ⟨b0, -, -, -, b203, -, -, -, -, -, b209, -⟩ := hR.2.2.2.2.2.1 j hj2
        rw [if_neg c1] at b209
        obtain ⟨t1, t2, t3, t4, -⟩ := R0_tow hR hi hj2
        have t0 := (hR.2.2.1 j hj2).1
        have tok : rOk S2 (d 5 j) := by have := t2.2.2; rw [t1] at this; exact this
        have tdr := (R0_wt hR hi hj2).2
        have z1 : (nI s < 0) = False := by rw [show (0 : Int32) = nI 0 from rfl, lt_nI (by omega) (by omega)]; exact eq_false (by omega)
        have z2 : (nI s < nI 7) = True := by rw [lt_nI (by omega) (by omega)]; exact eq_true hs7
        have hmov : mMov M1 j = if M1.2 5 s = 0 ∧ M1.2 6 s + M1.1 2 < mDr M1 (nI j) then mWts M1 (nI j) 9 else if M1.2 36 j - 1 = 0 then mCome (mAst M1 36 j (M1.2 36 j - 1)) j else mAst M1 36 j (M1.2 36 j - 1) := by unfold mMov; rw [es2]
        obtain ⟨h, hh, eh⟩ := hrs_at v2 v3
        have hR3 := R0_left hd hR hj2 c1
        rw [b209] at hR3
        have hX : ∀ (k i : Nat), k ≠ 4 → ¬ (d k i = d 4 j) := fun k i a z => a (hd _ _ _ _ z).1
        have hch : ∀ y, chg S2 (cSetI S2 (d 4 j) 209 y) (fun b => b = d 4 j) := fun y => chg.rf.sI rfl
        have r209 : ∀ y, cFi (cSetI S2 (d 4 j) 209 y) (d 4 j) 209 = y := fun y => by rw [cFi_setI, if_pos ⟨rfl, rfl⟩]
        have e806 : ∀ y, cRf (cSetI S2 (d 4 j) 209 y) (d 9 0) 806 = d 9 2 := fun y => by
          show cRf S2 (d 9 0) 806 = d 9 2
          unfold cRf
          rw [hR.2.2.2.2.2.2.2.2.1.2.1.2.2.2.2.2.2]
          rfl
        -- the hour is taken off; the boat arrives, or not
        have hwt : M1.2 5 s = 0 → M1.2 6 s + M1.1 2 < mDr M1 (nI j) → sQ W9 B (d 9 0) (mH2 M (j + 1)) (j + 1) (cAst (cSetI S2 (d 4 j) 213 9) (d 10 j) 9 (cRi S2 (d 10 j) 9 + 1)) cs ss := fun x1 x2 => by
          refine ⟨U, ?_, hc.up⟩
          rw [hstep, hmov, if_pos ⟨x1, x2⟩, ← hU]
          exact RRd_wait hRR hj2 (j := 9) (by omega)
        have hgo : ¬ (M1.2 5 s = 0 ∧ M1.2 6 s + M1.1 2 < mDr M1 (nI j)) → ¬ h = 0 → sQ W9 B (d 9 0) (mH2 M (j + 1)) (j + 1) (cSetI S2 (d 4 j) 209 (M1.2 36 j - 1)) cs ss := fun x1 x2 => by
          have x3 : ¬ M1.2 36 j - 1 = 0 := by rw [eh, show (0 : Int32) = nI 0 from rfl, eq_nI (by omega) (by omega)]; exact x2
          refine ⟨U, ?_, hc.up⟩
          rw [hstep, hmov, if_neg x1, if_neg x3]
          obtain ⟨y1, y2⟩ := iAll_left hi hj2 c1 x3
          obtain ⟨y3, y4⟩ := RRd_step hRR hR3 y1 y2 (hch _) (hX 9 2 (by omega)) (fun i => hX 11 i (by omega)) (fun i => hX 12 i (by omega)) rfl rfl (mAst_ne (by omega)) (mAst_ne (by omega)) (mAst_ne (by omega)) (mAst_ne (by omega))
          exact ⟨d, np, N, y3, by rw [y4]; exact hU⟩
        have hArr : rArr W9 B (d 9 0) d (cSetI S2 (d 4 j) 209 (M1.2 36 j - 1)) M1 (M1.2 36 j - 1) j np N ∧ pU (cSetI S2 (d 4 j) 209 (M1.2 36 j - 1)) d (np - 1) = U := by
          obtain ⟨hp1, hU1, hq1⟩ := hp.keep (hch (M1.2 36 j - 1)) (hX 9 2 (by omega)) (fun i => hX 11 i (by omega)) (fun i => hX 12 i (by omega))
          exact ⟨⟨hd, rfl, hi, hR3, hp1, ⟨fun g hg => by rw [hq1]; exact hl.1 g hg, fun w hw => by rw [hq1]; exact hl.2 w hw⟩, hN, hB8⟩, by rw [hU1]; exact hU⟩
        have hC := stC_of hArr.1.2.2.2.2.1
        rw [hArr.2] at hC
        have hU64 := hRR.U
        rw [hU] at hU64
        obtain ⟨kk1, kk2, kk3⟩ := hc.step hC (by omega) hU64
        have hend : ¬ (M1.2 5 s = 0 ∧ M1.2 6 s + M1.1 2 < mDr M1 (nI j)) → h = 0 → ∀ S3, RRu W9 B (d 9 0) S3 (mCome (mAst M1 36 j (M1.2 36 j - 1)) j) (if pU (cSetI S2 (d 4 j) 209 (M1.2 36 j - 1)) d (np - 1) < 64 then pU (cSetI S2 (d 4 j) 209 (M1.2 36 j - 1)) d (np - 1) + 1 else 1) → sQ W9 B (d 9 0) (mH2 M (j + 1)) (j + 1) S3 (cs + (stC (cSetI S2 (d 4 j) 209 (M1.2 36 j - 1)) (d 9 2)).1) (ss + (stC (cSetI S2 (d 4 j) 209 (M1.2 36 j - 1)) (d 9 2)).2) := fun x1 x2 S3 x3 => by
          refine ⟨_, ?_, kk3⟩
          rw [hstep, hmov, if_neg x1, if_pos (by rw [eh, x2]; rfl), ← hArr.2]
          exact x3
        obtain ⟨-, w2, w3, w4⟩ := R0_wait_f hR hj2
        have z7 : (9 : Int32).toNatClampNeg = 9 := by decide
        have z8 := in_9
        by_cases c5 : M1.2 5 s = 0
        · have c5b : (M1.2 5 s = 0) = True := eq_true c5
          by_cases c6 : M1.2 6 s + M1.1 2 < mDr M1 (nI j)
          · have c6b : (mDr M1 (nI j) ≤ M1.2 6 s + M1.1 2) = False := eq_false (Int32.not_le.mpr c6)
            simp only [↓callX7_travel_0, ↓callX7_travel_1, ↓callX7_travel_2, ↓callX7_travel_3, ↓callX7_travel_4, ↓callX7_travel_5, ↓cg_2_3, ↓cg_2_7, ↓cg_2_9, ↓cg_6_4, ↓cg_8_0, ↓cg_8_4, cisa, ↓cp_2_9, kb_9, kc_9, ki_0, ki_1, ↓vm_aload_n, ↓vm_astore_n, ↓vm_bipush, ↓vm_checkcast, ↓vm_dup, ↓vm_getfield, ↓vm_goto, ↓vm_iconst, ↓vm_ifCond_gt, ↓vm_ifCond_lt, ↓vm_ifCond_ne, ↓vm_if_icmp_ge, ↓vm_if_icmp_lt, ↓vm_iinc, ↓vm_iload_n, ↓vm_invokevirtual, ↓vm_istore_n, ↓vm_isub, ↓vm_putfield, ↓vm_return_, ↓xc_1, ↓xc_2, ↓tbX7_travel_0, ↓tbX7_travel_1, ↓tbX7_travel_2, ↓tbX7_travel_3, ↓tbX7_travel_4, ↓tbX7_travel_7, ↓tbX7_travel_10, ↓tbX7_travel_13, ↓tbX7_travel_14, ↓tbX7_travel_17, ↓tbX7_travel_18, ↓tbX7_travel_21, ↓tbX7_travel_24, ↓tbX7_travel_25, ↓tbX7_travel_26, ↓tbX7_travel_29, ↓tbX7_travel_32, ↓tbX7_travel_33, ↓tbX7_travel_36, ↓tbX7_travel_37, ↓tbX7_travel_40, ↓tbX7_travel_43, ↓tbX7_travel_46, ↓tbX7_travel_49, ↓tbX7_travel_50, ↓tbX7_travel_53, ↓tbX7_travel_54, ↓tbX7_travel_57, ↓tbX7_travel_60, ↓tbX7_travel_63, ↓tbX7_travel_64, ↓tbX7_travel_65, ↓tbX7_travel_68, ↓tbX7_travel_71, ↓tbX7_travel_72, ↓tbX7_travel_73, ↓tbX7_travel_76, ↓tbX7_travel_77, ↓tbX7_travel_80, ↓tbX7_travel_83, ↓tbX7_travel_86, ↓tbX7_travel_87, ↓tbX7_travel_89, ↓tbX7_travel_92, ↓tbX7_travel_95, ↓tbX7_travel_96, ↓tbX7_travel_97, ↓tbX7_travel_100, ↓tbX7_travel_101, ↓tbX7_travel_102, ↓tbX7_travel_105, ↓tbX7_travel_106, ↓tbX7_travel_109, ↓tbX7_travel_112, ↓tbX7_travel_113, ↓tbX7_travel_114, ↓tbX7_travel_117, ↓tbX7_travel_120, ↓tbX7_travel_123, hfu, xstep0, xJ1_hit, xJ1_go, xJ2_hit1, xJ2_hit2, xJ2_go, ↓xif_t, ↓xif_f, seval, ↓xca_eq, ↓xre_l, ↓xre_r, xmask_t, xmask_f, xmask_nil, ↓xst_eq, xX_eq, eI_eq, eMc_eq, eMs_eq, eF_eq, eThr_eq, ↓xS1_mk, ↓xSI_mk, ↓xSR_mk, ↓xLI_0, ↓xLI_s, ↓xLR_0, ↓xLR_s, vRef_ref, vRef_null, vRef_rf, cat_int, cat_ref, cat_null, cat_rf, rf_some, rf_none, rf_null, rf_eq, rf_ref, ref_rf, ref_null, ref_ref, xOk_0, xOk_1, xOk_2r, xOk_2n, xOk_2f, vOpt_rf, vOpt_ref, vOpt_null, List.set_cons_zero, List.set_cons_succ, List.take_succ_cons, List.take_zero, List.drop_succ_cons, List.drop_zero, List.reverse_cons, List.reverse_nil, List.nil_append, List.cons_append, List.append_nil, List.length_cons, List.length_nil, List.map_cons, List.map_nil, List.sum_cons, List.sum_nil, Option.toList_some, Option.toList_none, xRecv_mk, true_and, and_true, true_implies, Nat.reduceAdd, Nat.reduceLeDiff, Nat.zero_le, Nat.le_refl, Nat.add_zero, Nat.zero_add, reduceIte, not_true_eq_false, not_false_eq_true, false_implies, and_self, implies_true, eq_self, Nat.reduceEqDiff, List.cons.injEq, xsn_1, xsn_2, false_and, and_false, or_false, false_or, or_true, true_or, xsn_3, xsn_4, cK_setI, cFr_setI, ↓spwJx4a65c_size_8abf5, spcJx4a65c_size_8abf5, ↓spwJx4a65c_get_915e3, spcJx4a65c_get_915e3, ↓spwX7_waterOf, spcX7_waterOf, ↓spwX4_draught, spcX4_draught, ↓spwX1_waitFor, spcX1_waitFor, ↓spwX7_arrive, spcX7_arrive, g0, g8, f1, f2, f3, f4, q1, q2, b207, b0, b203, t0, tok, tdr, k1, k2, k3, k4, r1, r2, s601, s604, z1, z2, z7, z8, w2, w3, w4, c5b, c6b, e0, pos_nI (show j < 1000 by omega), e2, ix_nI (show j < 1000 by omega), pos_nI (show s < 1000 by omega), ix_nI (show s < 1000 by omega), hcs, hss, nI1]
            try simp only [xif_e]
            exact hwt c5 c6
          · have c6b : (mDr M1 (nI j) ≤ M1.2 6 s + M1.1 2) = True := eq_true (Int32.not_lt.mp c6)
            have hno : ¬ (M1.2 5 s = 0 ∧ M1.2 6 s + M1.1 2 < mDr M1 (nI j)) := fun z => c6 z.2
            by_cases c7 : h = 0
            · have z9 : (0 < M1.2 36 j - 1) = False := by rw [eh, c7]; exact eq_false (by decide)
              simp only [↓callX7_travel_0, ↓callX7_travel_1, ↓callX7_travel_2, ↓callX7_travel_3, ↓callX7_travel_4, ↓callX7_travel_5, ↓cg_2_3, ↓cg_2_7, ↓cg_2_9, ↓cg_6_4, ↓cg_8_0, ↓cg_8_4, cisa, ↓cp_2_9, kb_9, kc_9, ki_0, ki_1, ↓vm_aload_n, ↓vm_astore_n, ↓vm_bipush, ↓vm_checkcast, ↓vm_dup, ↓vm_getfield, ↓vm_goto, ↓vm_iconst, ↓vm_ifCond_gt, ↓vm_ifCond_lt, ↓vm_ifCond_ne, ↓vm_if_icmp_ge, ↓vm_if_icmp_lt, ↓vm_iinc, ↓vm_iload_n, ↓vm_invokevirtual, ↓vm_istore_n, ↓vm_isub, ↓vm_putfield, ↓vm_return_, ↓xc_1, ↓xc_2, ↓tbX7_travel_0, ↓tbX7_travel_1, ↓tbX7_travel_2, ↓tbX7_travel_3, ↓tbX7_travel_4, ↓tbX7_travel_7, ↓tbX7_travel_10, ↓tbX7_travel_13, ↓tbX7_travel_14, ↓tbX7_travel_17, ↓tbX7_travel_18, ↓tbX7_travel_21, ↓tbX7_travel_24, ↓tbX7_travel_25, ↓tbX7_travel_26, ↓tbX7_travel_29, ↓tbX7_travel_32, ↓tbX7_travel_33, ↓tbX7_travel_36, ↓tbX7_travel_37, ↓tbX7_travel_40, ↓tbX7_travel_43, ↓tbX7_travel_46, ↓tbX7_travel_49, ↓tbX7_travel_50, ↓tbX7_travel_53, ↓tbX7_travel_54, ↓tbX7_travel_57, ↓tbX7_travel_60, ↓tbX7_travel_63, ↓tbX7_travel_64, ↓tbX7_travel_65, ↓tbX7_travel_68, ↓tbX7_travel_71, ↓tbX7_travel_72, ↓tbX7_travel_73, ↓tbX7_travel_76, ↓tbX7_travel_77, ↓tbX7_travel_80, ↓tbX7_travel_83, ↓tbX7_travel_86, ↓tbX7_travel_87, ↓tbX7_travel_89, ↓tbX7_travel_92, ↓tbX7_travel_95, ↓tbX7_travel_96, ↓tbX7_travel_97, ↓tbX7_travel_100, ↓tbX7_travel_101, ↓tbX7_travel_102, ↓tbX7_travel_105, ↓tbX7_travel_106, ↓tbX7_travel_109, ↓tbX7_travel_112, ↓tbX7_travel_113, ↓tbX7_travel_114, ↓tbX7_travel_117, ↓tbX7_travel_120, ↓tbX7_travel_123, hfu, xstep0, xJ1_hit, xJ1_go, xJ2_hit1, xJ2_hit2, xJ2_go, ↓xif_t, ↓xif_f, seval, ↓xca_eq, ↓xre_l, ↓xre_r, xmask_t, xmask_f, xmask_nil, ↓xst_eq, xX_eq, eI_eq, eMc_eq, eMs_eq, eF_eq, eThr_eq, ↓xS1_mk, ↓xSI_mk, ↓xSR_mk, ↓xLI_0, ↓xLI_s, ↓xLR_0, ↓xLR_s, vRef_ref, vRef_null, vRef_rf, cat_int, cat_ref, cat_null, cat_rf, rf_some, rf_none, rf_null, rf_eq, rf_ref, ref_rf, ref_null, ref_ref, xOk_0, xOk_1, xOk_2r, xOk_2n, xOk_2f, vOpt_rf, vOpt_ref, vOpt_null, List.set_cons_zero, List.set_cons_succ, List.take_succ_cons, List.take_zero, List.drop_succ_cons, List.drop_zero, List.reverse_cons, List.reverse_nil, List.nil_append, List.cons_append, List.append_nil, List.length_cons, List.length_nil, List.map_cons, List.map_nil, List.sum_cons, List.sum_nil, Option.toList_some, Option.toList_none, xRecv_mk, true_and, and_true, true_implies, Nat.reduceAdd, Nat.reduceLeDiff, Nat.zero_le, Nat.le_refl, Nat.add_zero, Nat.zero_add, reduceIte, not_true_eq_false, not_false_eq_true, false_implies, and_self, implies_true, eq_self, Nat.reduceEqDiff, List.cons.injEq, xsn_1, xsn_2, false_and, and_false, or_false, false_or, or_true, true_or, xsn_3, xsn_4, cK_setI, cFr_setI, ↓spwJx4a65c_size_8abf5, spcJx4a65c_size_8abf5, ↓spwJx4a65c_get_915e3, spcJx4a65c_get_915e3, ↓spwX7_waterOf, spcX7_waterOf, ↓spwX4_draught, spcX4_draught, ↓spwX1_waitFor, spcX1_waitFor, ↓spwX7_arrive, spcX7_arrive, g0, g8, f1, f2, f3, f4, q1, q2, b207, b209, b0, b203, t0, tok, tdr, k1, k2, k3, k4, r1, r2, s601, s604, z1, z2, c5b, c6b, z9, r209, e806, enC, e0, pos_nI (show j < 1000 by omega), e2, ix_nI (show j < 1000 by omega), pos_nI (show s < 1000 by omega), ix_nI (show s < 1000 by omega), hcs, hss, kk1, kk2]
              try simp only [xif_e]
              exact ⟨B, M1, M1.2 36 j - 1, j, d, np, N, hArr.1, hj2, rfl, c1, fun S3 h3 => by simp only [nI1, true_and]; exact hend hno c7 S3 h3⟩
            · have z9 : (0 < M1.2 36 j - 1) = True := by rw [eh, show (0 : Int32) = nI 0 from rfl, lt_nI (by omega) (by omega)]; exact eq_true (by omega)
              simp only [↓callX7_travel_0, ↓callX7_travel_1, ↓callX7_travel_2, ↓callX7_travel_3, ↓callX7_travel_4, ↓callX7_travel_5, ↓cg_2_3, ↓cg_2_7, ↓cg_2_9, ↓cg_6_4, ↓cg_8_0, ↓cg_8_4, cisa, ↓cp_2_9, kb_9, kc_9, ki_0, ki_1, ↓vm_aload_n, ↓vm_astore_n, ↓vm_bipush, ↓vm_checkcast, ↓vm_dup, ↓vm_getfield, ↓vm_goto, ↓vm_iconst, ↓vm_ifCond_gt, ↓vm_ifCond_lt, ↓vm_ifCond_ne, ↓vm_if_icmp_ge, ↓vm_if_icmp_lt, ↓vm_iinc, ↓vm_iload_n, ↓vm_invokevirtual, ↓vm_istore_n, ↓vm_isub, ↓vm_putfield, ↓vm_return_, ↓xc_1, ↓xc_2, ↓tbX7_travel_0, ↓tbX7_travel_1, ↓tbX7_travel_2, ↓tbX7_travel_3, ↓tbX7_travel_4, ↓tbX7_travel_7, ↓tbX7_travel_10, ↓tbX7_travel_13, ↓tbX7_travel_14, ↓tbX7_travel_17, ↓tbX7_travel_18, ↓tbX7_travel_21, ↓tbX7_travel_24, ↓tbX7_travel_25, ↓tbX7_travel_26, ↓tbX7_travel_29, ↓tbX7_travel_32, ↓tbX7_travel_33, ↓tbX7_travel_36, ↓tbX7_travel_37, ↓tbX7_travel_40, ↓tbX7_travel_43, ↓tbX7_travel_46, ↓tbX7_travel_49, ↓tbX7_travel_50, ↓tbX7_travel_53, ↓tbX7_travel_54, ↓tbX7_travel_57, ↓tbX7_travel_60, ↓tbX7_travel_63, ↓tbX7_travel_64, ↓tbX7_travel_65, ↓tbX7_travel_68, ↓tbX7_travel_71, ↓tbX7_travel_72, ↓tbX7_travel_73, ↓tbX7_travel_76, ↓tbX7_travel_77, ↓tbX7_travel_80, ↓tbX7_travel_83, ↓tbX7_travel_86, ↓tbX7_travel_87, ↓tbX7_travel_89, ↓tbX7_travel_92, ↓tbX7_travel_95, ↓tbX7_travel_96, ↓tbX7_travel_97, ↓tbX7_travel_100, ↓tbX7_travel_101, ↓tbX7_travel_102, ↓tbX7_travel_105, ↓tbX7_travel_106, ↓tbX7_travel_109, ↓tbX7_travel_112, ↓tbX7_travel_113, ↓tbX7_travel_114, ↓tbX7_travel_117, ↓tbX7_travel_120, ↓tbX7_travel_123, hfu, xstep0, xJ1_hit, xJ1_go, xJ2_hit1, xJ2_hit2, xJ2_go, ↓xif_t, ↓xif_f, seval, ↓xca_eq, ↓xre_l, ↓xre_r, xmask_t, xmask_f, xmask_nil, ↓xst_eq, xX_eq, eI_eq, eMc_eq, eMs_eq, eF_eq, eThr_eq, ↓xS1_mk, ↓xSI_mk, ↓xSR_mk, ↓xLI_0, ↓xLI_s, ↓xLR_0, ↓xLR_s, vRef_ref, vRef_null, vRef_rf, cat_int, cat_ref, cat_null, cat_rf, rf_some, rf_none, rf_null, rf_eq, rf_ref, ref_rf, ref_null, ref_ref, xOk_0, xOk_1, xOk_2r, xOk_2n, xOk_2f, vOpt_rf, vOpt_ref, vOpt_null, List.set_cons_zero, List.set_cons_succ, List.take_succ_cons, List.take_zero, List.drop_succ_cons, List.drop_zero, List.reverse_cons, List.reverse_nil, List.nil_append, List.cons_append, List.append_nil, List.length_cons, List.length_nil, List.map_cons, List.map_nil, List.sum_cons, List.sum_nil, Option.toList_some, Option.toList_none, xRecv_mk, true_and, and_true, true_implies, Nat.reduceAdd, Nat.reduceLeDiff, Nat.zero_le, Nat.le_refl, Nat.add_zero, Nat.zero_add, reduceIte, not_true_eq_false, not_false_eq_true, false_implies, and_self, implies_true, eq_self, Nat.reduceEqDiff, List.cons.injEq, xsn_1, xsn_2, false_and, and_false, or_false, false_or, or_true, true_or, xsn_3, xsn_4, cK_setI, cFr_setI, ↓spwJx4a65c_size_8abf5, spcJx4a65c_size_8abf5, ↓spwJx4a65c_get_915e3, spcJx4a65c_get_915e3, ↓spwX7_waterOf, spcX7_waterOf, ↓spwX4_draught, spcX4_draught, ↓spwX1_waitFor, spcX1_waitFor, ↓spwX7_arrive, spcX7_arrive, g0, g8, f1, f2, f3, f4, q1, q2, b207, b209, b0, b203, t0, tok, tdr, k1, k2, k3, k4, r1, r2, s601, s604, z1, z2, c5b, c6b, z9, r209, e0, pos_nI (show j < 1000 by omega), e2, ix_nI (show j < 1000 by omega), pos_nI (show s < 1000 by omega), ix_nI (show s < 1000 by omega), hcs, hss, nI1]
              try simp only [xif_e]
              exact hgo hno c7
        · have c5b : (M1.2 5 s = 0) = False := eq_false c5
          have hno : ¬ (M1.2 5 s = 0 ∧ M1.2 6 s + M1.1 2 < mDr M1 (nI j)) := fun z => c5 z.1
          by_cases c7 : h = 0
          · have z9 : (0 < M1.2 36 j - 1) = False := by rw [eh, c7]; exact eq_false (by decide)
            simp only [↓callX7_travel_0, ↓callX7_travel_1, ↓callX7_travel_2, ↓callX7_travel_3, ↓callX7_travel_4, ↓callX7_travel_5, ↓cg_2_3, ↓cg_2_7, ↓cg_2_9, ↓cg_6_4, ↓cg_8_0, ↓cg_8_4, cisa, ↓cp_2_9, kb_9, kc_9, ki_0, ki_1, ↓vm_aload_n, ↓vm_astore_n, ↓vm_bipush, ↓vm_checkcast, ↓vm_dup, ↓vm_getfield, ↓vm_goto, ↓vm_iconst, ↓vm_ifCond_gt, ↓vm_ifCond_lt, ↓vm_ifCond_ne, ↓vm_if_icmp_ge, ↓vm_if_icmp_lt, ↓vm_iinc, ↓vm_iload_n, ↓vm_invokevirtual, ↓vm_istore_n, ↓vm_isub, ↓vm_putfield, ↓vm_return_, ↓xc_1, ↓xc_2, ↓tbX7_travel_0, ↓tbX7_travel_1, ↓tbX7_travel_2, ↓tbX7_travel_3, ↓tbX7_travel_4, ↓tbX7_travel_7, ↓tbX7_travel_10, ↓tbX7_travel_13, ↓tbX7_travel_14, ↓tbX7_travel_17, ↓tbX7_travel_18, ↓tbX7_travel_21, ↓tbX7_travel_24, ↓tbX7_travel_25, ↓tbX7_travel_26, ↓tbX7_travel_29, ↓tbX7_travel_32, ↓tbX7_travel_33, ↓tbX7_travel_36, ↓tbX7_travel_37, ↓tbX7_travel_40, ↓tbX7_travel_43, ↓tbX7_travel_46, ↓tbX7_travel_49, ↓tbX7_travel_50, ↓tbX7_travel_53, ↓tbX7_travel_54, ↓tbX7_travel_57, ↓tbX7_travel_60, ↓tbX7_travel_63, ↓tbX7_travel_64, ↓tbX7_travel_65, ↓tbX7_travel_68, ↓tbX7_travel_71, ↓tbX7_travel_72, ↓tbX7_travel_73, ↓tbX7_travel_76, ↓tbX7_travel_77, ↓tbX7_travel_80, ↓tbX7_travel_83, ↓tbX7_travel_86, ↓tbX7_travel_87, ↓tbX7_travel_89, ↓tbX7_travel_92, ↓tbX7_travel_95, ↓tbX7_travel_96, ↓tbX7_travel_97, ↓tbX7_travel_100, ↓tbX7_travel_101, ↓tbX7_travel_102, ↓tbX7_travel_105, ↓tbX7_travel_106, ↓tbX7_travel_109, ↓tbX7_travel_112, ↓tbX7_travel_113, ↓tbX7_travel_114, ↓tbX7_travel_117, ↓tbX7_travel_120, ↓tbX7_travel_123, hfu, xstep0, xJ1_hit, xJ1_go, xJ2_hit1, xJ2_hit2, xJ2_go, ↓xif_t, ↓xif_f, seval, ↓xca_eq, ↓xre_l, ↓xre_r, xmask_t, xmask_f, xmask_nil, ↓xst_eq, xX_eq, eI_eq, eMc_eq, eMs_eq, eF_eq, eThr_eq, ↓xS1_mk, ↓xSI_mk, ↓xSR_mk, ↓xLI_0, ↓xLI_s, ↓xLR_0, ↓xLR_s, vRef_ref, vRef_null, vRef_rf, cat_int, cat_ref, cat_null, cat_rf, rf_some, rf_none, rf_null, rf_eq, rf_ref, ref_rf, ref_null, ref_ref, xOk_0, xOk_1, xOk_2r, xOk_2n, xOk_2f, vOpt_rf, vOpt_ref, vOpt_null, List.set_cons_zero, List.set_cons_succ, List.take_succ_cons, List.take_zero, List.drop_succ_cons, List.drop_zero, List.reverse_cons, List.reverse_nil, List.nil_append, List.cons_append, List.append_nil, List.length_cons, List.length_nil, List.map_cons, List.map_nil, List.sum_cons, List.sum_nil, Option.toList_some, Option.toList_none, xRecv_mk, true_and, and_true, true_implies, Nat.reduceAdd, Nat.reduceLeDiff, Nat.zero_le, Nat.le_refl, Nat.add_zero, Nat.zero_add, reduceIte, not_true_eq_false, not_false_eq_true, false_implies, and_self, implies_true, eq_self, Nat.reduceEqDiff, List.cons.injEq, xsn_1, xsn_2, false_and, and_false, or_false, false_or, or_true, true_or, xsn_3, xsn_4, cK_setI, cFr_setI, ↓spwJx4a65c_size_8abf5, spcJx4a65c_size_8abf5, ↓spwJx4a65c_get_915e3, spcJx4a65c_get_915e3, ↓spwX7_waterOf, spcX7_waterOf, ↓spwX4_draught, spcX4_draught, ↓spwX1_waitFor, spcX1_waitFor, ↓spwX7_arrive, spcX7_arrive, g0, g8, f1, f2, f3, f4, q1, q2, b207, b209, b0, b203, t0, tok, tdr, k1, k2, k3, k4, r1, r2, s601, s604, z1, z2, c5b, z9, r209, e806, enC, e0, pos_nI (show j < 1000 by omega), e2, ix_nI (show j < 1000 by omega), pos_nI (show s < 1000 by omega), ix_nI (show s < 1000 by omega), hcs, hss, kk1, kk2]
            try simp only [xif_e]
            exact ⟨B, M1, M1.2 36 j - 1, j, d, np, N, hArr.1, hj2, rfl, c1, fun S3 h3 => by simp only [nI1, true_and]; exact hend hno c7 S3 h3⟩
          · have z9 : (0 < M1.2 36 j - 1) = True := by rw [eh, show (0 : Int32) = nI 0 from rfl, lt_nI (by omega) (by omega)]; exact eq_true (by omega)
            simp only [↓callX7_travel_0, ↓callX7_travel_1, ↓callX7_travel_2, ↓callX7_travel_3, ↓callX7_travel_4, ↓callX7_travel_5, ↓cg_2_3, ↓cg_2_7, ↓cg_2_9, ↓cg_6_4, ↓cg_8_0, ↓cg_8_4, cisa, ↓cp_2_9, kb_9, kc_9, ki_0, ki_1, ↓vm_aload_n, ↓vm_astore_n, ↓vm_bipush, ↓vm_checkcast, ↓vm_dup, ↓vm_getfield, ↓vm_goto, ↓vm_iconst, ↓vm_ifCond_gt, ↓vm_ifCond_lt, ↓vm_ifCond_ne, ↓vm_if_icmp_ge, ↓vm_if_icmp_lt, ↓vm_iinc, ↓vm_iload_n, ↓vm_invokevirtual, ↓vm_istore_n, ↓vm_isub, ↓vm_putfield, ↓vm_return_, ↓xc_1, ↓xc_2, ↓tbX7_travel_0, ↓tbX7_travel_1, ↓tbX7_travel_2, ↓tbX7_travel_3, ↓tbX7_travel_4, ↓tbX7_travel_7, ↓tbX7_travel_10, ↓tbX7_travel_13, ↓tbX7_travel_14, ↓tbX7_travel_17, ↓tbX7_travel_18, ↓tbX7_travel_21, ↓tbX7_travel_24, ↓tbX7_travel_25, ↓tbX7_travel_26, ↓tbX7_travel_29, ↓tbX7_travel_32, ↓tbX7_travel_33, ↓tbX7_travel_36, ↓tbX7_travel_37, ↓tbX7_travel_40, ↓tbX7_travel_43, ↓tbX7_travel_46, ↓tbX7_travel_49, ↓tbX7_travel_50, ↓tbX7_travel_53, ↓tbX7_travel_54, ↓tbX7_travel_57, ↓tbX7_travel_60, ↓tbX7_travel_63, ↓tbX7_travel_64, ↓tbX7_travel_65, ↓tbX7_travel_68, ↓tbX7_travel_71, ↓tbX7_travel_72, ↓tbX7_travel_73, ↓tbX7_travel_76, ↓tbX7_travel_77, ↓tbX7_travel_80, ↓tbX7_travel_83, ↓tbX7_travel_86, ↓tbX7_travel_87, ↓tbX7_travel_89, ↓tbX7_travel_92, ↓tbX7_travel_95, ↓tbX7_travel_96, ↓tbX7_travel_97, ↓tbX7_travel_100, ↓tbX7_travel_101, ↓tbX7_travel_102, ↓tbX7_travel_105, ↓tbX7_travel_106, ↓tbX7_travel_109, ↓tbX7_travel_112, ↓tbX7_travel_113, ↓tbX7_travel_114, ↓tbX7_travel_117, ↓tbX7_travel_120, ↓tbX7_travel_123, hfu, xstep0, xJ1_hit, xJ1_go, xJ2_hit1, xJ2_hit2, xJ2_go, ↓xif_t, ↓xif_f, seval, ↓xca_eq, ↓xre_l, ↓xre_r, xmask_t, xmask_f, xmask_nil, ↓xst_eq, xX_eq, eI_eq, eMc_eq, eMs_eq, eF_eq, eThr_eq, ↓xS1_mk, ↓xSI_mk, ↓xSR_mk, ↓xLI_0, ↓xLI_s, ↓xLR_0, ↓xLR_s, vRef_ref, vRef_null, vRef_rf, cat_int, cat_ref, cat_null, cat_rf, rf_some, rf_none, rf_null, rf_eq, rf_ref, ref_rf, ref_null, ref_ref, xOk_0, xOk_1, xOk_2r, xOk_2n, xOk_2f, vOpt_rf, vOpt_ref, vOpt_null, List.set_cons_zero, List.set_cons_succ, List.take_succ_cons, List.take_zero, List.drop_succ_cons, List.drop_zero, List.reverse_cons, List.reverse_nil, List.nil_append, List.cons_append, List.append_nil, List.length_cons, List.length_nil, List.map_cons, List.map_nil, List.sum_cons, List.sum_nil, Option.toList_some, Option.toList_none, xRecv_mk, true_and, and_true, true_implies, Nat.reduceAdd, Nat.reduceLeDiff, Nat.zero_le, Nat.le_refl, Nat.add_zero, Nat.zero_add, reduceIte, not_true_eq_false, not_false_eq_true, false_implies, and_self, implies_true, eq_self, Nat.reduceEqDiff, List.cons.injEq, xsn_1, xsn_2, false_and, and_false, or_false, false_or, or_true, true_or, xsn_3, xsn_4, cK_setI, cFr_setI, ↓spwJx4a65c_size_8abf5, spcJx4a65c_size_8abf5, ↓spwJx4a65c_get_915e3, spcJx4a65c_get_915e3, ↓spwX7_waterOf, spcX7_waterOf, ↓spwX4_draught, spcX4_draught, ↓spwX1_waitFor, spcX1_waitFor, ↓spwX7_arrive, spcX7_arrive, g0, g8, f1, f2, f3, f4, q1, q2, b207, b209, b0, b203, t0, tok, tdr, k1, k2, k3, k4, r1, r2, s601, s604, z1, z2, c5b, z9, r209, e0, pos_nI (show j < 1000 by omega), e2, ix_nI (show j < 1000 by omega), pos_nI (show s < 1000 by omega), ix_nI (show s < 1000 by omega), hcs, hss, nI1]
            try simp only [xif_e]
            exact hgo hno c7) (by
      rintro lv st S2 cs ss ⟨rfl, rfl, ⟨U, ⟨d, np, N, hRR, hU⟩, hc⟩⟩ fu hfu
      obtain ⟨hcs, hss⟩ := hc.le
      have hk2 := hk S2 ⟨d, np, N, hRR⟩
      obtain ⟨hd, rfl, hi, hR, -⟩ := hRR
      obtain ⟨f1, f2, f3, f4, -⟩ := R0_L4 hR
      rw [nA] at f4
      have g0 := hR.2.2.2.2.2.2.2.2.1.1
      simp only [↓callX7_travel_0, ↓callX7_travel_1, ↓callX7_travel_2, ↓callX7_travel_3, ↓callX7_travel_4, ↓callX7_travel_5, ↓cg_2_3, ↓cg_2_7, ↓cg_2_9, ↓cg_6_4, ↓cg_8_0, ↓cg_8_4, cisa, ↓cp_2_9, kb_9, kc_9, ki_0, ki_1, ↓vm_aload_n, ↓vm_astore_n, ↓vm_bipush, ↓vm_checkcast, ↓vm_dup, ↓vm_getfield, ↓vm_goto, ↓vm_iconst, ↓vm_ifCond_gt, ↓vm_ifCond_lt, ↓vm_ifCond_ne, ↓vm_if_icmp_ge, ↓vm_if_icmp_lt, ↓vm_iinc, ↓vm_iload_n, ↓vm_invokevirtual, ↓vm_istore_n, ↓vm_isub, ↓vm_putfield, ↓vm_return_, ↓xc_1, ↓xc_2, ↓tbX7_travel_0, ↓tbX7_travel_1, ↓tbX7_travel_2, ↓tbX7_travel_3, ↓tbX7_travel_4, ↓tbX7_travel_7, ↓tbX7_travel_10, ↓tbX7_travel_13, ↓tbX7_travel_14, ↓tbX7_travel_17, ↓tbX7_travel_18, ↓tbX7_travel_21, ↓tbX7_travel_24, ↓tbX7_travel_25, ↓tbX7_travel_26, ↓tbX7_travel_29, ↓tbX7_travel_32, ↓tbX7_travel_33, ↓tbX7_travel_36, ↓tbX7_travel_37, ↓tbX7_travel_40, ↓tbX7_travel_43, ↓tbX7_travel_46, ↓tbX7_travel_49, ↓tbX7_travel_50, ↓tbX7_travel_53, ↓tbX7_travel_54, ↓tbX7_travel_57, ↓tbX7_travel_60, ↓tbX7_travel_63, ↓tbX7_travel_64, ↓tbX7_travel_65, ↓tbX7_travel_68, ↓tbX7_travel_71, ↓tbX7_travel_72, ↓tbX7_travel_73, ↓tbX7_travel_76, ↓tbX7_travel_77, ↓tbX7_travel_80, ↓tbX7_travel_83, ↓tbX7_travel_86, ↓tbX7_travel_87, ↓tbX7_travel_89, ↓tbX7_travel_92, ↓tbX7_travel_95, ↓tbX7_travel_96, ↓tbX7_travel_97, ↓tbX7_travel_100, ↓tbX7_travel_101, ↓tbX7_travel_102, ↓tbX7_travel_105, ↓tbX7_travel_106, ↓tbX7_travel_109, ↓tbX7_travel_112, ↓tbX7_travel_113, ↓tbX7_travel_114, ↓tbX7_travel_117, ↓tbX7_travel_120, ↓tbX7_travel_123, hfu, xstep0, xJ1_hit, xJ1_go, xJ2_hit1, xJ2_hit2, xJ2_go, ↓xif_t, ↓xif_f, seval, ↓xca_eq, ↓xre_l, ↓xre_r, xmask_t, xmask_f, xmask_nil, ↓xst_eq, xX_eq, eI_eq, eMc_eq, eMs_eq, eF_eq, eThr_eq, ↓xS1_mk, ↓xSI_mk, ↓xSR_mk, ↓xLI_0, ↓xLI_s, ↓xLR_0, ↓xLR_s, vRef_ref, vRef_null, vRef_rf, cat_int, cat_ref, cat_null, cat_rf, rf_some, rf_none, rf_null, rf_eq, rf_ref, ref_rf, ref_null, ref_ref, xOk_0, xOk_1, xOk_2r, xOk_2n, xOk_2f, vOpt_rf, vOpt_ref, vOpt_null, List.set_cons_zero, List.set_cons_succ, List.take_succ_cons, List.take_zero, List.drop_succ_cons, List.drop_zero, List.reverse_cons, List.reverse_nil, List.nil_append, List.cons_append, List.append_nil, List.length_cons, List.length_nil, List.map_cons, List.map_nil, List.sum_cons, List.sum_nil, Option.toList_some, Option.toList_none, xRecv_mk, true_and, and_true, true_implies, Nat.reduceAdd, Nat.reduceLeDiff, Nat.zero_le, Nat.le_refl, Nat.add_zero, Nat.zero_add, reduceIte, not_true_eq_false, not_false_eq_true, false_implies, and_self, implies_true, eq_self, Nat.reduceEqDiff, List.cons.injEq, xsn_1, xsn_2, false_and, and_false, or_false, false_or, or_true, true_or, xsn_3, xsn_4, cK_setI, cFr_setI, ↓spwJx4a65c_size_8abf5, spcJx4a65c_size_8abf5, ↓spwJx4a65c_get_915e3, spcJx4a65c_get_915e3, ↓spwX7_waterOf, spcX7_waterOf, ↓spwX4_draught, spcX4_draught, ↓spwX1_waitFor, spcX1_waitFor, ↓spwX7_arrive, spcX7_arrive, g0, f1, f2, f3, f4, le_nI_self, hcs, hss]
      try simp only [xif_e]
      exact hk2)
  refine xgo hG (mb := [true, true, false, false]) (loop 0 (Nat.zero_le _)) (pc := 0) (fun fu hfu => ?_)
  simp only [↓callX7_travel_0, ↓callX7_travel_1, ↓callX7_travel_2, ↓callX7_travel_3, ↓callX7_travel_4, ↓callX7_travel_5, ↓cg_2_3, ↓cg_2_7, ↓cg_2_9, ↓cg_6_4, ↓cg_8_0, ↓cg_8_4, cisa, ↓cp_2_9, kb_9, kc_9, ki_0, ki_1, ↓vm_aload_n, ↓vm_astore_n, ↓vm_bipush, ↓vm_checkcast, ↓vm_dup, ↓vm_getfield, ↓vm_goto, ↓vm_iconst, ↓vm_ifCond_gt, ↓vm_ifCond_lt, ↓vm_ifCond_ne, ↓vm_if_icmp_ge, ↓vm_if_icmp_lt, ↓vm_iinc, ↓vm_iload_n, ↓vm_invokevirtual, ↓vm_istore_n, ↓vm_isub, ↓vm_putfield, ↓vm_return_, ↓xc_1, ↓xc_2, ↓tbX7_travel_0, ↓tbX7_travel_1, ↓tbX7_travel_2, ↓tbX7_travel_3, ↓tbX7_travel_4, ↓tbX7_travel_7, ↓tbX7_travel_10, ↓tbX7_travel_13, ↓tbX7_travel_14, ↓tbX7_travel_17, ↓tbX7_travel_18, ↓tbX7_travel_21, ↓tbX7_travel_24, ↓tbX7_travel_25, ↓tbX7_travel_26, ↓tbX7_travel_29, ↓tbX7_travel_32, ↓tbX7_travel_33, ↓tbX7_travel_36, ↓tbX7_travel_37, ↓tbX7_travel_40, ↓tbX7_travel_43, ↓tbX7_travel_46, ↓tbX7_travel_49, ↓tbX7_travel_50, ↓tbX7_travel_53, ↓tbX7_travel_54, ↓tbX7_travel_57, ↓tbX7_travel_60, ↓tbX7_travel_63, ↓tbX7_travel_64, ↓tbX7_travel_65, ↓tbX7_travel_68, ↓tbX7_travel_71, ↓tbX7_travel_72, ↓tbX7_travel_73, ↓tbX7_travel_76, ↓tbX7_travel_77, ↓tbX7_travel_80, ↓tbX7_travel_83, ↓tbX7_travel_86, ↓tbX7_travel_87, ↓tbX7_travel_89, ↓tbX7_travel_92, ↓tbX7_travel_95, ↓tbX7_travel_96, ↓tbX7_travel_97, ↓tbX7_travel_100, ↓tbX7_travel_101, ↓tbX7_travel_102, ↓tbX7_travel_105, ↓tbX7_travel_106, ↓tbX7_travel_109, ↓tbX7_travel_112, ↓tbX7_travel_113, ↓tbX7_travel_114, ↓tbX7_travel_117, ↓tbX7_travel_120, ↓tbX7_travel_123, hfu, xstep0, xJ1_hit, xJ1_go, xJ2_hit1, xJ2_hit2, xJ2_go, ↓xif_t, ↓xif_f, seval, ↓xca_eq, ↓xre_l, ↓xre_r, xmask_t, xmask_f, xmask_nil, ↓xst_eq, xX_eq, eI_eq, eMc_eq, eMs_eq, eF_eq, eThr_eq, ↓xS1_mk, ↓xSI_mk, ↓xSR_mk, ↓xLI_0, ↓xLI_s, ↓xLR_0, ↓xLR_s, vRef_ref, vRef_null, vRef_rf, cat_int, cat_ref, cat_null, cat_rf, rf_some, rf_none, rf_null, rf_eq, rf_ref, ref_rf, ref_null, ref_ref, xOk_0, xOk_1, xOk_2r, xOk_2n, xOk_2f, vOpt_rf, vOpt_ref, vOpt_null, List.set_cons_zero, List.set_cons_succ, List.take_succ_cons, List.take_zero, List.drop_succ_cons, List.drop_zero, List.reverse_cons, List.reverse_nil, List.nil_append, List.cons_append, List.append_nil, List.length_cons, List.length_nil, List.map_cons, List.map_nil, List.sum_cons, List.sum_nil, Option.toList_some, Option.toList_none, xRecv_mk, true_and, and_true, true_implies, Nat.reduceAdd, Nat.reduceLeDiff, Nat.zero_le, Nat.le_refl, Nat.add_zero, Nat.zero_add, reduceIte, not_true_eq_false, not_false_eq_true, false_implies, and_self, implies_true, eq_self, Nat.reduceEqDiff, List.cons.injEq, xsn_1, xsn_2, false_and, and_false, or_false, false_or, or_true, true_or, xsn_3, xsn_4, cK_setI, cFr_setI, ↓spwJx4a65c_size_8abf5, spcJx4a65c_size_8abf5, ↓spwJx4a65c_get_915e3, spcJx4a65c_get_915e3, ↓spwX7_waterOf, spcX7_waterOf, ↓spwX4_draught, spcX4_draught, ↓spwX1_waitFor, spcX1_waitFor, ↓spwX7_arrive, spcX7_arrive]
  try simp only [xif_e]
  exact ⟨rfl, _, ⟨d0, np0, N0, hRR0, rfl⟩, Or.inl ⟨rfl, rfl⟩⟩
