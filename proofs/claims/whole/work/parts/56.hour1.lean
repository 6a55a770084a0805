/-! The class, under the relation: to enter a section. -/

theorem ways_same2 {M M2 : mS} (c : M2.1 29 = M.1 29) (m : ∀ k, k = 33 ∨ k = 34 ∨ k = 35 ∨ k = 37 → M2.2 k = M.2 k) : ways M2 (nBt M2) = ways M (nBt M) := by
  rw [show nBt M2 = nBt M by unfold nBt; rw [c]]
  exact ways_same _ (fun v _ => way_of (by rw [m 34 (by omega)]) (by rw [m 37 (by omega)]) (by rw [m 33 (by omega)]) (by rw [m 35 (by omega)]))
/-- after a boat set out, what is told -/
theorem RR_ent {W9 : xWd} {B : Nat} {d : Nat → Nat → Nat} {S S2 : cS} {M : mS} {np N w j : Nat} (h : RRd W9 B (d 9 0) d S M np N) (hw : w < nBt M) (hs : M.2 34 w = -1) (hg : ¬ M.2 37 w = -1) (ej : mNext M (nI w) = nI j) (hj : j < 7) :
    (∀ a, a = d 9 2 → stL (cOut S (d 4 w) (d 0 j) (nI j) (mUp M (nI w)) (mHrs M (nI j) (nI w) (mUp M (nI w)))) a N (d 11 (np - 1)) (pU S d (np - 1))) ∧ stC (cOut S (d 4 w) (d 0 j) (nI j) (mUp M (nI w)) (mHrs M (nI j) (nI w) (mUp M (nI w)))) (d 9 2) = stC S (d 9 2) ∧
    (tlR (cOut S (d 4 w) (d 0 j) (nI j) (mUp M (nI w)) (mHrs M (nI j) (nI w) (mUp M (nI w)))) (d 9 2) N (d 11 (np - 1)) (pU S d (np - 1)) (cNote 3 (nI w) (nI j)) S2 → RRu W9 B (d 9 0) S2 (mEnt M w) (if pU S d (np - 1) < 64 then pU S d (np - 1) + 1 else 1)) := by
  obtain ⟨hd, -, hi, hR, hp, hl, hN, hB8⟩ := h
  have hR1 := R0_out hd hR hi hw hs hj ej
  obtain ⟨hi1, hwy⟩ := iAll_ent hi hw hs hg
  have nbs : ∀ x y, d 4 x ≠ d 0 y := fun x y => hd.ne (by omega)
  have hch : chg S (cOut S (d 4 w) (d 0 j) (nI j) (mUp M (nI w)) (mHrs M (nI j) (nI w) (mUp M (nI w)))) (fun b => b = d 4 w ∨ b = d 0 j) := ((((((chg.rf.sI (Or.inl rfl)).sI (Or.inl rfl)).sI (Or.inl rfl)).sI (Or.inl rfl)).sI (Or.inl rfl)).sI (Or.inr rfl)).sI (Or.inr rfl)
  have hX : ∀ (k i : Nat), k ≠ 4 → k ≠ 0 → ¬ (d k i = d 4 w ∨ d k i = d 0 j) := fun k i a b z => z.elim (fun y => a (hd _ _ _ _ y).1) (fun y => b (hd _ _ _ _ y).1)
  obtain ⟨hp1, hU1, hq1⟩ := hp.keep hch (hX 9 2 (by omega) (by omega)) (fun i => hX 11 i (by omega) (by omega)) (fun i => hX 12 i (by omega) (by omega))
  have hpos := ways_at (M := M) (M2 := mEnt M w) (w := w) (nBt M) hw (fun v hv hne => way_of (by rw [mEnt_v.1, if_neg hne]) (by rw [mEnt_k (by omega)]) (by rw [mEnt_k (by omega)]) (by rw [mEnt_v.2.1, if_neg hne]))
  generalize hS1 : cOut S (d 4 w) (d 0 j) (nI j) (mUp M (nI w)) (mHrs M (nI j) (nI w) (mUp M (nI w))) = S1 at *
  have hst := rPg_L hp1 (show N < 8192 by omega)
  rw [hU1] at hst
  refine ⟨fun a ha => by rw [ha]; exact hst, by rw [stC_of hp1, stC_of hp, hU1], fun hT => ?_⟩
  have hT2 : tlR S1 (d 9 2) N (d 11 (np - 1)) (pU S1 d (np - 1)) (cNote 3 (nI w) (nI j)) S2 := by rw [hU1]; exact hT
  obtain ⟨d2, np2, g1, g2, g3, g4, g5, g6, g7⟩ := R0_tell hd hR1 hi1 hp1 (by omega) hT2
  have n29 : nBt (mEnt M w) = nBt M := nBt_eq (by rw [mEnt_1])
  refine ⟨d2, np2, N + 1, ⟨g1, g2 9 0 (us9 (by omega)), hi1, g4, g5, ?_, by rw [n29]; omega, hB8⟩, by rw [g7, hU1]⟩
  refine rLat_boat (e := 3) (w := w) (p := j) hi hl (fun f g x => ?_) (Or.inr rfl) hw (by omega) (by rw [mEnt_1]) (by rw [mEnt_1]) (mEnt_k (by omega)) (mEnt_k (by omega)) (fun x hx => ⟨by rw [mEnt_v.1, if_neg hx], by rw [mEnt_k (by omega)]⟩) ?_
  · rw [g6, hq1]
    rfl
  · rw [mEnt_v.1, if_pos rfl, ej, if_neg (nI_m1 (by omega))]
    rfl

/-! the five lists, as the bytecode reads them -/
section LL
variable {W9 : xWd} {d : Nat → Nat → Nat} {S : cS} {M : mS}
theorem R0_L0 (hR : R0 W9 d S M) : cFr S (d 9 0) 800 = some (d 6 0) ∧ cK S (d 6 0) = 1 ∧ lOk S (d 6 0) ∧ cFi S (d 6 0) 2 = nI (7) ∧ ∀ k, k < 7 → lNth S (d 6 0) k = some (d 0 k) ∧ cK S (d 0 k) = 7 := by
  obtain ⟨hS, -, -, -, -, -, -, -, hT, -, ⟨⟨l, -⟩, -⟩⟩ := hR
  exact ⟨hT.2.1.1, l.1.1, l.1.ok, by rw [l.1.2.1, l.2.1], fun k hk => ⟨l.2.2 k hk, (hS k hk).1⟩⟩
theorem R0_L1 (hR : R0 W9 d S M) : cFr S (d 9 0) 801 = some (d 6 1) ∧ cK S (d 6 1) = 1 ∧ lOk S (d 6 1) ∧ cFi S (d 6 1) 2 = nI (16) ∧ ∀ k, k < 16 → lNth S (d 6 1) k = some (d 1 k) ∧ cK S (d 1 k) = 6 := by
  obtain ⟨-, hS, -, -, -, -, -, -, hT, -, ⟨⟨-, l, -⟩, -⟩⟩ := hR
  exact ⟨hT.2.1.2.1, l.1.1, l.1.ok, by rw [l.1.2.1, l.2.1], fun k hk => ⟨l.2.2 k hk, (hS k hk).1⟩⟩
theorem R0_L2 (hR : R0 W9 d S M) : cFr S (d 9 0) 802 = some (d 6 2) ∧ cK S (d 6 2) = 1 ∧ lOk S (d 6 2) ∧ cFi S (d 6 2) 2 = nI (nBg M) ∧ ∀ k, k < nBg M → lNth S (d 6 2) k = some (d 2 k) ∧ cK S (d 2 k) = 2 := by
  obtain ⟨-, -, -, hS, -, -, -, -, hT, -, ⟨⟨-, -, l, -⟩, -⟩⟩ := hR
  exact ⟨hT.2.1.2.2.1, l.1.1, l.1.ok, by rw [l.1.2.1, l.2.1], fun k hk => ⟨l.2.2 k hk, (hS k hk).1⟩⟩
theorem R0_L3 (hR : R0 W9 d S M) : cFr S (d 9 0) 803 = some (d 6 3) ∧ cK S (d 6 3) = 1 ∧ lOk S (d 6 3) ∧ cFi S (d 6 3) 2 = nI (nCo M) ∧ ∀ k, k < nCo M → lNth S (d 6 3) k = some (d 3 k) ∧ cK S (d 3 k) = 4 := by
  obtain ⟨-, -, -, -, hS, -, -, -, hT, -, ⟨⟨-, -, -, l, -⟩, -⟩⟩ := hR
  exact ⟨hT.2.1.2.2.2.1, l.1.1, l.1.ok, by rw [l.1.2.1, l.2.1], fun k hk => ⟨l.2.2 k hk, (hS k hk).1⟩⟩
theorem R0_L4 (hR : R0 W9 d S M) : cFr S (d 9 0) 804 = some (d 6 4) ∧ cK S (d 6 4) = 1 ∧ lOk S (d 6 4) ∧ cFi S (d 6 4) 2 = nI (nBt M) ∧ ∀ k, k < nBt M → lNth S (d 6 4) k = some (d 4 k) ∧ cK S (d 4 k) = 3 := by
  obtain ⟨-, -, -, -, -, hS, -, -, hT, -, ⟨⟨-, -, -, -, l⟩, -⟩⟩ := hR
  exact ⟨hT.2.1.2.2.2.2.1, l.1.1, l.1.ok, by rw [l.1.2.1, l.2.1], fun k hk => ⟨l.2.2 k hk, (hS k hk).1⟩⟩
end LL

def tbX7_enter : List (Nat × xHint) := [(0, .aload_n 1, 1, 0, 0, []), (1, .invokevirtual 456, 0, 1, 2, []), (4, .istore_n 3, 3, 0, 0, []), (5, .aload_n 1, 1, 0, 0, []), (6, .aload_n 2, 2, 0, 0, []), (7, .getfield 463, 6, 0, 0, []), (10, .iload_n 3, 3, 0, 0, []), (11, .aload_n 2, 2, 0, 0, []), (12, .aload_n 1, 1, 0, 0, []), (13, .getfield 232, 2, 3, 2, []), (16, .invokevirtual 101, 1, 1, 5, []), (19, .iload_n 3, 3, 0, 0, []), (20, .invokevirtual 320, 2, 3, 6, []), (23, .invokevirtual 464, 3, 4, 2, []), (26, .aload_n 2, 2, 0, 0, []), (27, .iload_n 3, 3, 0, 0, []), (28, .invokevirtual 468, 4, 2, 6, []), (31, .aload_n 0, 0, 0, 0, []), (32, .getfield 35, 8, 6, 2, []), (35, .iconst 3, 0, 0, 0, []), (36, .aload_n 1, 1, 0, 0, []), (37, .getfield 218, 2, 0, 0, []), (40, .aload_n 2, 2, 0, 0, []), (41, .getfield 463, 6, 0, 0, []), (44, .invokevirtual 125, 5, 4, 7, []), (47, .return_, 0, 0, 0, [])]
def clX7_enter : List (Instr × Nat × Nat × Nat) := [(.invokevirtual 456, 0, 1, 2), (.invokevirtual 101, 1, 1, 5), (.invokevirtual 320, 2, 3, 6), (.invokevirtual 464, 3, 4, 2), (.invokevirtual 468, 4, 2, 6), (.invokevirtual 125, 5, 4, 7)]
def thX7_enter : List (Nat × Nat) := []
theorem ckX7_enter : tbX7_enter.all (xRow RX7 cX7_enter wsX7_enter vwCl [2, 6, 8] clX7_enter thX7_enter 4 (yX7_enter.name == "<init>") none) = true := xRow_q 0xb17d00b6cf01b42cda00b42b062300b42ad401b61d2cd001b64001b61d6500b6e800b42b2c1dcf01b42c2b3ec801b62b 48 (by decide +kernel) (by decide +kernel)
theorem usX7_enter : xUse wsX7_enter vwCl [2, 6, 8] = true := xUse_g rfl (lw_good lwl_X7_enter lwl_X10 (by decide +kernel)) (xUse_g rfl (lw_good lwl_X7_enter lwl_X50 (by decide +kernel)) (xUse_g rfl (lw_good lwl_X7_enter lwl_X70 (by decide +kernel)) xUse_n))
theorem tbX7_enter_0 {k : Instr → Nat → Nat → Nat → List Nat → Prop} : xse (xFind tbX7_enter 0) k = k (.aload_n 1) 1 0 0 [] := rfl
theorem tbX7_enter_1 {k : Instr → Nat → Nat → Nat → List Nat → Prop} : xse (xFind tbX7_enter 1) k = k (.invokevirtual 456) 0 1 2 [] := rfl
theorem tbX7_enter_4 {k : Instr → Nat → Nat → Nat → List Nat → Prop} : xse (xFind tbX7_enter 4) k = k (.istore_n 3) 3 0 0 [] := rfl
theorem tbX7_enter_5 {k : Instr → Nat → Nat → Nat → List Nat → Prop} : xse (xFind tbX7_enter 5) k = k (.aload_n 1) 1 0 0 [] := rfl
theorem tbX7_enter_6 {k : Instr → Nat → Nat → Nat → List Nat → Prop} : xse (xFind tbX7_enter 6) k = k (.aload_n 2) 2 0 0 [] := rfl
theorem tbX7_enter_7 {k : Instr → Nat → Nat → Nat → List Nat → Prop} : xse (xFind tbX7_enter 7) k = k (.getfield 463) 6 0 0 [] := rfl
theorem tbX7_enter_10 {k : Instr → Nat → Nat → Nat → List Nat → Prop} : xse (xFind tbX7_enter 10) k = k (.iload_n 3) 3 0 0 [] := rfl
theorem tbX7_enter_11 {k : Instr → Nat → Nat → Nat → List Nat → Prop} : xse (xFind tbX7_enter 11) k = k (.aload_n 2) 2 0 0 [] := rfl
theorem tbX7_enter_12 {k : Instr → Nat → Nat → Nat → List Nat → Prop} : xse (xFind tbX7_enter 12) k = k (.aload_n 1) 1 0 0 [] := rfl
theorem tbX7_enter_13 {k : Instr → Nat → Nat → Nat → List Nat → Prop} : xse (xFind tbX7_enter 13) k = k (.getfield 232) 2 3 2 [] := rfl
theorem tbX7_enter_16 {k : Instr → Nat → Nat → Nat → List Nat → Prop} : xse (xFind tbX7_enter 16) k = k (.invokevirtual 101) 1 1 5 [] := rfl
theorem tbX7_enter_19 {k : Instr → Nat → Nat → Nat → List Nat → Prop} : xse (xFind tbX7_enter 19) k = k (.iload_n 3) 3 0 0 [] := rfl
theorem tbX7_enter_20 {k : Instr → Nat → Nat → Nat → List Nat → Prop} : xse (xFind tbX7_enter 20) k = k (.invokevirtual 320) 2 3 6 [] := rfl
theorem tbX7_enter_23 {k : Instr → Nat → Nat → Nat → List Nat → Prop} : xse (xFind tbX7_enter 23) k = k (.invokevirtual 464) 3 4 2 [] := rfl
theorem tbX7_enter_26 {k : Instr → Nat → Nat → Nat → List Nat → Prop} : xse (xFind tbX7_enter 26) k = k (.aload_n 2) 2 0 0 [] := rfl
theorem tbX7_enter_27 {k : Instr → Nat → Nat → Nat → List Nat → Prop} : xse (xFind tbX7_enter 27) k = k (.iload_n 3) 3 0 0 [] := rfl
theorem tbX7_enter_28 {k : Instr → Nat → Nat → Nat → List Nat → Prop} : xse (xFind tbX7_enter 28) k = k (.invokevirtual 468) 4 2 6 [] := rfl
theorem tbX7_enter_31 {k : Instr → Nat → Nat → Nat → List Nat → Prop} : xse (xFind tbX7_enter 31) k = k (.aload_n 0) 0 0 0 [] := rfl
theorem tbX7_enter_32 {k : Instr → Nat → Nat → Nat → List Nat → Prop} : xse (xFind tbX7_enter 32) k = k (.getfield 35) 8 6 2 [] := rfl
theorem tbX7_enter_35 {k : Instr → Nat → Nat → Nat → List Nat → Prop} : xse (xFind tbX7_enter 35) k = k (.iconst 3) 0 0 0 [] := rfl
theorem tbX7_enter_36 {k : Instr → Nat → Nat → Nat → List Nat → Prop} : xse (xFind tbX7_enter 36) k = k (.aload_n 1) 1 0 0 [] := rfl
theorem tbX7_enter_37 {k : Instr → Nat → Nat → Nat → List Nat → Prop} : xse (xFind tbX7_enter 37) k = k (.getfield 218) 2 0 0 [] := rfl
theorem tbX7_enter_40 {k : Instr → Nat → Nat → Nat → List Nat → Prop} : xse (xFind tbX7_enter 40) k = k (.aload_n 2) 2 0 0 [] := rfl
theorem tbX7_enter_41 {k : Instr → Nat → Nat → Nat → List Nat → Prop} : xse (xFind tbX7_enter 41) k = k (.getfield 463) 6 0 0 [] := rfl
theorem tbX7_enter_44 {k : Instr → Nat → Nat → Nat → List Nat → Prop} : xse (xFind tbX7_enter 44) k = k (.invokevirtual 125) 5 4 7 [] := rfl
theorem tbX7_enter_47 {k : Instr → Nat → Nat → Nat → List Nat → Prop} : xse (xFind tbX7_enter 47) k = k (.return_) 0 0 0 [] := rfl

def spX7_enter (W9 : xWd) : xSp cS := (fun av S => enC av S, fun av S K => ∃ (a : Nat) (b : Nat) (s : Nat), av = [.ref a, .ref b, .ref s] ∧ (∃ (B : Nat) (M : mS) (w j : Nat) (d : Nat → Nat → Nat) (np N : Nat), RRd W9 B a d S M np N ∧ w < nBt M ∧ b = d 4 w ∧ M.2 34 w = -1 ∧ ¬ M.2 37 w = -1 ∧ mNext M (nI w) = nI j ∧ j < 7 ∧ s = d 0 j ∧ ∀ S2, RRu W9 B a S2 (mEnt M w) (if pU S d (np - 1) < 64 then pU S d (np - 1) + 1 else 1) → K rV S2))
theorem spcX7_enter {av : List Value} {S : cS} {W9 : xWd} : (spX7_enter W9).1 av S = enC av S := rfl
theorem spwX7_enter {S : cS} {W9 : xWd} {K : xRes → cS → Prop} {a : Nat} {b : Nat} {s : Nat} : (spX7_enter W9).2 [.ref a, .ref b, .ref s] S K = (∃ (B : Nat) (M : mS) (w j : Nat) (d : Nat → Nat → Nat) (np N : Nat), RRd W9 B a d S M np N ∧ w < nBt M ∧ b = d 4 w ∧ M.2 34 w = -1 ∧ ¬ M.2 37 w = -1 ∧ mNext M (nI w) = nI j ∧ j < 7 ∧ s = d 0 j ∧ ∀ S2, RRu W9 B a S2 (mEnt M w) (if pU S d (np - 1) < 64 then pU S d (np - 1) + 1 else 1) → K rV S2) :=
  propext ⟨fun h => by
    simp only [spX7_enter] at h
    obtain ⟨_, _, _, e, h⟩ := h
    simp only [List.cons.injEq, Value.int.injEq, Value.ref.injEq, rf_eq, and_true, true_and] at e
    obtain ⟨rfl, rfl, rfl⟩ := e
    exact h, fun h => ⟨_, _, _, rfl, h⟩⟩

def callX7_enter (W9 : xWd) : Nat → Option (xSp cS) := fun n => match n with | 0 => some (spX1_isBoundUp W9) | 1 => some (spX4_size W9) | 2 => some (spX5_hoursFor W9) | 3 => some (spX1_setOut W9) | 4 => some (spX5_countEntry W9) | 5 => some (spX6_tellB W9) | _ => none

theorem callX7_enter_0 {W9 : xWd} {k : xSp cS → Prop} : xcs (callX7_enter W9 0) k = k (spX1_isBoundUp W9) := rfl

theorem callX7_enter_1 {W9 : xWd} {k : xSp cS → Prop} : xcs (callX7_enter W9 1) k = k (spX4_size W9) := rfl

theorem callX7_enter_2 {W9 : xWd} {k : xSp cS → Prop} : xcs (callX7_enter W9 2) k = k (spX5_hoursFor W9) := rfl

theorem callX7_enter_3 {W9 : xWd} {k : xSp cS → Prop} : xcs (callX7_enter W9 3) k = k (spX1_setOut W9) := rfl

theorem callX7_enter_4 {W9 : xWd} {k : xSp cS → Prop} : xcs (callX7_enter W9 4) k = k (spX5_countEntry W9) := rfl

theorem callX7_enter_5 {W9 : xWd} {k : xSp cS → Prop} : xcs (callX7_enter W9 5) k = k (spX6_tellB W9) := rfl

theorem crX7_enter (l : Launch) (hl : l.stackTraces = false) (W9 : xWd) : xCallsOK l W9 (cI) (callX7_enter W9) clX7_enter RX7 wsX7_enter 3 64 4 := by
  intro E A p e R s m args below meth c hI hF hL X
  exact List.forall_mem_cons.mpr ⟨⟨_, rfl, xCR_V X (by rw [hI]; exact (semX1_isBoundUp l hl W9)) gX7_enter_X1_isBoundUp rfl rfl (by decide +kernel) (by rw [hF, hL]; decide)⟩,
    List.forall_mem_cons.mpr ⟨⟨_, rfl, xCR_V X (by rw [hI]; exact (semX4_size l hl W9)) gX7_enter_X4_size rfl rfl (by decide +kernel) (by rw [hF, hL]; decide)⟩,
    List.forall_mem_cons.mpr ⟨⟨_, rfl, xCR_V X (by rw [hI]; exact (semX5_hoursFor l hl W9)) gX7_enter_X5_hoursFor rfl rfl (by decide +kernel) (by rw [hF, hL]; decide)⟩,
    List.forall_mem_cons.mpr ⟨⟨_, rfl, xCR_V X (by rw [hI]; exact (semX1_setOut l hl W9)) gX7_enter_X1_setOut rfl rfl (by decide +kernel) (by rw [hF, hL]; decide)⟩,
    List.forall_mem_cons.mpr ⟨⟨_, rfl, xCR_V X (by rw [hI]; exact (semX5_countEntry l hl W9)) gX7_enter_X5_countEntry rfl rfl (by decide +kernel) (by rw [hF, hL]; decide)⟩,
    List.forall_mem_cons.mpr ⟨⟨_, rfl, xCR_V X (by rw [hI]; exact (semX6_tellB l hl W9)) gX7_enter_X6_tell rfl rfl (by decide +kernel) (by rw [hF, hL]; decide)⟩,
    fun _ h => nomatch h⟩⟩⟩⟩⟩⟩

set_option maxHeartbeats 1200000 in
set_option maxRecDepth 20000 in
theorem semX7_enter (l : Launch) (hl : l.stackTraces = false) (W9 : xWd) : xSem l W9 (cI) yX7_enter wsX7_enter 3 64 (spX7_enter W9) := by
  refine xSem_of (call := callX7_enter W9) (thrf := fun _ => "") cI_law (by decide +kernel) rfl ckX7_enter usX7_enter (crX7_enter l hl W9) xThrOK_nil ?_ ?_
  · intro av S KF h
    obtain ⟨a, b, s, rfl, h⟩ := h
    exact ⟨by intro v hv; simp only [List.mem_cons, List.not_mem_nil, or_false] at hv; rcases hv with rfl | rfl | rfl <;> first | rfl | exact cat_rf, Nat.le_of_ble_eq_true rfl⟩
  intro av S KF h G hG
  obtain ⟨a, b, s, rfl, h⟩ := h
  rw [show (spX7_enter W9).1 _ S = _ from spcX7_enter] at hG
  try dsimp only at hG
  change G 0 [some (.ref a), some (.ref b), some (.ref s), none] [] S 0 0
  obtain ⟨B, M, w, j, d, np, N, hRR, hw, rfl, hs, hg, ej, hj, rfl, hk⟩ := h
  have hRR2 := hRR
  obtain ⟨hd, rfl, hi, hR, hp, hl, hN, hB8⟩ := hRR2
  have hx := fun S2 => RR_ent (S2 := S2) hRR hw hs hg ej hj
  have hb := hi.1.1.2
  have hup := R0_up hR hi hw hs
  have hhr := R0_hr hR hi hw hj (mUp M (nI w))
  obtain ⟨e1, -, e2, e3, -⟩ := R0_tow hR hi hw
  obtain ⟨b0, b200, -, -, b203, -⟩ := hR.2.2.2.2.2.1 w hw
  obtain ⟨t0, -, -, -, -, -, t505⟩ := hR.2.2.1 w hw
  obtain ⟨s0, s600, -⟩ := hR.1 j hj
  obtain ⟨a0, ⟨-, -, -, -, -, -, a806⟩, -⟩ := hR.2.2.2.2.2.2.2.2.1
  have p0 := hp.1.1
  have tI : cIn S (d 5 w) 505 1 := by
    have := (rLst.isCap hR.2.2.2.2.2.2.2.2.2.2 (Or.inr (Or.inr ⟨rfl, hw⟩))).1
    exact ⟨by show cFr S (d 5 w) 505 = some (rL S (d 5 w)); rw [e2]; exact t505, by show cK S (rL S (d 5 w)) = 1; rw [e2]; exact this⟩
  have tS : cFi S (cRf S (d 5 w) 505) 2 = nI (rN S (d 5 w)) := by
    have h1 := (rLst.isCap hR.2.2.2.2.2.2.2.2.2.2 (Or.inr (Or.inr ⟨rfl, hw⟩))).2.1
    show cFi S (rL S (d 5 w)) 2 = _
    unfold rN
    rw [e2, h1]
  have hu01 : mUp M (nI w) = 0 ∨ mUp M (nI w) = 1 := bi_01 _
  have nbs : (d 4 w = d 0 j) = False := eq_false (hd.ne (by omega))
  have e806 : cRf S (d 9 0) 806 = d 9 2 := by unfold cRf; rw [a806]; rfl
  change xClosed _ _ _ (stC S (cRf S (d 9 0) 806)).1 (stC S (cRf S (d 9 0) 806)).2 _ _ G at hG
  rw [e806] at hG
  generalize hC : stC S (d 9 2) = C at hG hx
  unfold cHr at hhr
  generalize hu : mUp M (nI w) = u at *
  refine xgo0 hG (fun fu hfu => ?_)
  clear hG
  simp only [↓callX7_enter_0, ↓callX7_enter_1, ↓callX7_enter_2, ↓callX7_enter_3, ↓callX7_enter_4, ↓callX7_enter_5, ↓cg_2_0, ↓cg_2_3, ↓cg_6_0, ↓cg_8_6, cisa, ki_3, ↓vm_aload_n, ↓vm_getfield, ↓vm_iconst, ↓vm_iload_n, ↓vm_invokevirtual, ↓vm_istore_n, ↓vm_return_, ↓xc_1, ↓xc_2, ↓xc_3, ↓xc_4, ↓tbX7_enter_0, ↓tbX7_enter_1, ↓tbX7_enter_4, ↓tbX7_enter_5, ↓tbX7_enter_6, ↓tbX7_enter_7, ↓tbX7_enter_10, ↓tbX7_enter_11, ↓tbX7_enter_12, ↓tbX7_enter_13, ↓tbX7_enter_16, ↓tbX7_enter_19, ↓tbX7_enter_20, ↓tbX7_enter_23, ↓tbX7_enter_26, ↓tbX7_enter_27, ↓tbX7_enter_28, ↓tbX7_enter_31, ↓tbX7_enter_32, ↓tbX7_enter_35, ↓tbX7_enter_36, ↓tbX7_enter_37, ↓tbX7_enter_40, ↓tbX7_enter_41, ↓tbX7_enter_44, ↓tbX7_enter_47, hfu, xstep0, xJ1_hit, xJ1_go, xJ2_hit1, xJ2_hit2, xJ2_go, ↓xif_t, ↓xif_f, seval, ↓xca_eq, ↓xre_l, ↓xre_r, xmask_t, xmask_f, xmask_nil, ↓xst_eq, xX_eq, eI_eq, eMc_eq, eMs_eq, eF_eq, eThr_eq, ↓xS1_mk, ↓xSI_mk, ↓xSR_mk, ↓xLI_0, ↓xLI_s, ↓xLR_0, ↓xLR_s, vRef_ref, vRef_null, vRef_rf, cat_int, cat_ref, cat_null, cat_rf, rf_some, rf_none, rf_null, rf_eq, rf_ref, ref_rf, ref_null, ref_ref, xOk_0, xOk_1, xOk_2r, xOk_2n, xOk_2f, vOpt_rf, vOpt_ref, vOpt_null, List.set_cons_zero, List.set_cons_succ, List.take_succ_cons, List.take_zero, List.drop_succ_cons, List.drop_zero, List.reverse_cons, List.reverse_nil, List.nil_append, List.cons_append, List.append_nil, List.length_cons, List.length_nil, List.map_cons, List.map_nil, List.sum_cons, List.sum_nil, Option.toList_some, Option.toList_none, xRecv_mk, true_and, and_true, true_implies, Nat.reduceAdd, Nat.reduceLeDiff, Nat.zero_le, Nat.le_refl, Nat.add_zero, Nat.zero_add, reduceIte, not_true_eq_false, not_false_eq_true, false_implies, and_self, implies_true, eq_self, Nat.reduceEqDiff, List.cons.injEq, xsn_1, xsn_2, false_and, and_false, or_false, false_or, or_true, true_or, xsn_3, xsn_4, cK_setI, cFi_setI, cFr_setI, cLen_setI, cRi_setI, ↓spwX1_isBoundUp, spcX1_isBoundUp, ↓spwX4_size, spcX4_size, ↓spwX5_hoursFor, spcX5_hoursFor, ↓spwX1_setOut, spcX1_setOut, ↓spwX5_countEntry, spcX5_countEntry, ↓spwX6_tellB, spcX6_tellB, b0, b200, b203, t0, s0, s600, a0, a806, p0, tI, tS, hup, hu01, hhr, nbs, tlC]
  try simp only [xif_e]
  obtain ⟨x1, x2, -⟩ := hx S
  exact ⟨Nat.le_of_eq (congrArg Prod.fst x2), Nat.le_of_eq (congrArg Prod.snd x2), N, _, _, x1 _ rfl, fun S2 hT => ⟨Nat.le_of_eq (congrArg Prod.fst x2), Nat.le_of_eq (congrArg Prod.snd x2), hk S2 ((hx S2).2.2 hT)⟩⟩

/-! to arrive -/
theorem mAst_comm {M : mS} {k i k2 i2 : Nat} {x y : Int32} (h : k ≠ k2) : mAst (mAst M k i x) k2 i2 y = mAst (mAst M k2 i2 y) k i x := by
  refine Prod.ext rfl (funext fun b => funext fun n => ?_)
  show (if b = k2 ∧ n = i2 then y else if b = k ∧ n = i then x else M.2 b n) = (if b = k ∧ n = i then x else if b = k2 ∧ n = i2 then y else M.2 b n)
  by_cases c : b = k2 ∧ n = i2
  · rw [if_pos c, if_neg (fun z => h (by omega)), if_pos c]
  · rw [if_neg c, if_neg c]
theorem mAgr_36 {M : mS} {w i : Nat} {x : Int32} : ∀ n, mAgr (mAst M 36 i x) w n = mAst (mAgr M w n) 36 i x
  | 0 => rfl
  | n + 1 => by
    show mAst (mAst (mAgr (mAst M 36 i x) w n) 45 (6 * w + n) 0) 45 (6 * n + w) 0 = mAst (mAst (mAst (mAgr M w n) 45 (6 * w + n) 0) 45 (6 * n + w) 0) 36 i x
    rw [mAgr_36 n, mAst_comm (k := 36) (by omega), mAst_comm (k := 36) (by omega)]
theorem mCome_36 {M : mS} {w : Nat} {x : Int32} : mCome (mAst M 36 w x) w = mAst (mCome M w) 36 w x := by
  have e : mCm1 (mAst M 36 w x) w = mAst (mCm1 M w) 36 w x := by
    unfold mCm1 mPtA
    rw [mAst_ne (k := 36) (j := 35) (by omega), mAst_ne (k := 36) (j := 34) (by omega), mAst_ne (k := 36) (j := 37) (by omega), mAst_comm (k := 36) (by omega), mAst_comm (k := 36) (by omega), mAst_comm (k := 36) (by omega), mAst_comm (k := 36) (by omega)]
    rfl
  unfold mCome
  rw [e, mAgr_36]
  rfl
theorem iAll_36 {M : mS} (h : iAll M) {w : Nat} {x : Int32} (hs : M.2 34 w = -1) : iAll (mAst M 36 w x) := by
  refine iAll_hr h (fun _ _ => rfl) (fun k a1 a2 a3 a4 a5 a6 a7 _ _ _ _ _ _ => mAst_ne a7) (fun s hs2 => ?_) (fun v hv => ?_) (iAgr_of h.2.2.2.2.2.2.2.1 rfl (mAst_ne (by omega))) (fun v hv hn => ⟨by rw [mAst_ne (by omega)], by rw [mAst_ne (by omega)], ⟨by rw [mAst_ne (by omega)], by rw [mAst_ne (by omega)]⟩, fun _ _ => by rw [mAst_ne (by omega)]⟩)
  · rw [mAst_ne (by omega)]
    exact (h.2.1 s hs2).2.2
  · obtain ⟨b1, b2, b3⟩ := h.2.2.2.2.2.2.1 v hv
    rw [mAst_ne (k := 36) (j := 37) (by omega), mAst_ne (k := 36) (j := 35) (by omega), mAst_ne (k := 36) (j := 34) (by omega), mAst_ne (k := 36) (j := 33) (by omega), mAst_eq]
    refine ⟨b1, b2, ?_⟩
    by_cases c : v = w
    · subst c
      exact Or.inl (b3.resolve_right (fun z => vin_m1 (hs ▸ z.1)))
    · rw [if_neg c]
      exact b3
def rArr (W9 : xWd) (B a : Nat) (d : Nat → Nat → Nat) (S : cS) (M : mS) (x : Int32) (w np N : Nat) : Prop := dInj d ∧ d 9 0 = a ∧ iAll M ∧ R0 W9 d S (mAst M 36 w x) ∧ rPg d S np N ∧ rLat d S M np ∧ N + ways M (nBt M) ≤ B ∧ B ≤ 8000
def boatX (d : Nat → Nat → Nat) (b : Nat) : Prop := ∃ v, b = d 4 v
/-- a boat stands, and that is told -/
theorem RR_arr {W9 : xWd} {B : Nat} {d : Nat → Nat → Nat} {S S1 S2 : cS} {M : mS} {x : Int32} {np N w p : Nat} (h : rArr W9 B (d 9 0) d S M x w np N) (hw : w < nBt M) (hs : ¬ M.2 34 w = -1) (ep : mPtA M w = nI p) (hp8 : p < 8) (hR1 : R0 W9 d S1 (mCome (mAst M 36 w x) w)) (hch : chg S S1 (boatX d)) :
    stL S1 (d 9 2) N (d 11 (np - 1)) (pU S d (np - 1)) ∧ stC S1 (d 9 2) = stC S (d 9 2) ∧ cFi S1 (d 4 w) 206 = nI p ∧
    (tlR S1 (d 9 2) N (d 11 (np - 1)) (pU S d (np - 1)) (cNote 2 (nI w) (nI p)) S2 → RRu W9 B (d 9 0) S2 (mCome (mAst M 36 w x) w) (if pU S d (np - 1) < 64 then pU S d (np - 1) + 1 else 1)) := by
  obtain ⟨hd, -, hi, hR, hp, hl, hN, hB8⟩ := h
  obtain ⟨hi0, hwy⟩ := iAll_come hi hw hs
  have v34 : ∀ v, (mCome (mAst M 36 w x) w).2 34 v = if v = w then -1 else M.2 34 v := fun v => by rw [mCome_v.1, mAst_ne (by omega)]
  have v33 : ∀ v, (mCome (mAst M 36 w x) w).2 33 v = if v = w then mPtA M w else M.2 33 v := fun v => by rw [mCome_v.2.1, mAst_ne (by omega)]; unfold mPtA; rw [mAst_ne (by omega), mAst_ne (by omega)]
  have hi1 : iAll (mCome (mAst M 36 w x) w) := by
    rw [mCome_36]
    exact iAll_36 hi0 (by rw [mCome_v.1, if_pos rfl])
  have n29 : nBt (mCome (mAst M 36 w x) w) = nBt M := nBt_eq (by unfold mCome; rw [mAgr_1]; rfl)
  have n29b : nBt (mCome M w) = nBt M := nBt_eq (by unfold mCome; rw [mAgr_1]; rfl)
  have hwy2 : ways (mCome (mAst M 36 w x) w) (nBt M) = ways (mCome M w) (nBt M) := by
    rw [mCome_36]
    exact ways_same _ (fun v _ => way_of (by rw [mAst_ne (by omega)]) (by rw [mAst_ne (by omega)]) (by rw [mAst_ne (by omega)]) (by rw [mAst_ne (by omega)]))
  have hX : ∀ (k i : Nat), k ≠ 4 → ¬ boatX d (d k i) := fun k i a z => by
    obtain ⟨v, y⟩ := z
    exact a (hd _ _ _ _ y).1
  obtain ⟨hp1, hU1, hq1⟩ := hp.keep hch (hX 9 2 (by omega)) (fun i => hX 11 i (by omega)) (fun i => hX 12 i (by omega))
  have hst := rPg_L hp1 (show N < 8192 by omega)
  rw [hU1] at hst
  have f206 := ((R0_bfld hR1 (show w < nBt (mCome (mAst M 36 w x) w) by rw [n29]; exact hw)).2.2.1 (by rw [v34, if_pos rfl])).1
  rw [v33, if_pos rfl, ep] at f206
  refine ⟨hst, by rw [stC_of hp1, stC_of hp, hU1], f206, fun hT => ?_⟩
  have hT2 : tlR S1 (d 9 2) N (d 11 (np - 1)) (pU S1 d (np - 1)) (cNote 2 (nI w) (nI p)) S2 := by rw [hU1]; exact hT
  obtain ⟨d2, np2, g1, g2, g3, g4, g5, g6, g7⟩ := R0_tell hd hR1 hi1 hp1 (by omega) hT2
  refine ⟨d2, np2, N + 1, ⟨g1, g2 9 0 (us9 (by omega)), hi1, g4, g5, ?_, by rw [n29, hwy2]; omega, hB8⟩, by rw [g7, hU1]⟩
  refine rLat_boat (e := 2) (w := w) (p := p) hi hl (fun f g y => ?_) (Or.inl rfl) hw hp8 (by unfold mCome; rw [mAgr_1]; rfl) (by unfold mCome; rw [mAgr_1]; rfl) (by rw [mCome_k (by omega), mAst_ne (by omega)]) (by rw [mCome_k (by omega), mAst_ne (by omega)]) (fun y hy => ⟨by rw [v34, if_neg hy], by rw [v33, if_neg hy]⟩) ?_
  · rw [g6, hq1]
    rfl
  · rw [v34, if_pos rfl, if_pos rfl, v33, if_pos rfl, ep]
    rfl

def tbX7_arrive : List (Nat × xHint) := [(0, .aload_n 1, 1, 0, 0, []), (1, .aload_n 1, 1, 0, 0, []), (2, .invokevirtual 298, 0, 1, 2, []), (5, .aload_n 0, 0, 0, 0, []), (6, .getfield 193, 8, 7, 0, []), (9, .invokevirtual 214, 1, 3, 2, []), (12, .iconst 0, 0, 0, 0, []), (13, .istore_n 2, 2, 0, 0, []), (14, .iload_n 2, 2, 0, 0, []), (15, .aload_n 0, 0, 0, 0, []), (16, .getfield 25, 8, 4, 2, []), (19, .invokevirtual 108, 2, 1, 0, []), (22, .if_icmp .ge 33, 55, 0, 0, []), (25, .aload_n 0, 0, 0, 0, []), (26, .getfield 25, 8, 4, 2, []), (29, .iload_n 2, 2, 0, 0, []), (30, .invokevirtual 312, 3, 2, 0, []), (33, .checkcast 210, 2, 0, 0, []), (36, .astore_n 3, 3, 0, 0, []), (37, .aload_n 1, 1, 0, 0, []), (38, .aload_n 3, 3, 0, 0, []), (39, .iconst 0, 0, 0, 0, []), (40, .invokevirtual 271, 4, 3, 2, []), (43, .aload_n 3, 3, 0, 0, []), (44, .aload_n 1, 1, 0, 0, []), (45, .iconst 0, 0, 0, 0, []), (46, .invokevirtual 271, 4, 3, 2, []), (49, .iinc 2 1, 2, 0, 0, []), (52, .goto (-38), 14, 0, 0, []), (55, .aload_n 0, 0, 0, 0, []), (56, .getfield 35, 8, 6, 2, []), (59, .iconst 2, 0, 0, 0, []), (60, .aload_n 1, 1, 0, 0, []), (61, .getfield 218, 2, 0, 0, []), (64, .aload_n 1, 1, 0, 0, []), (65, .getfield 238, 2, 6, 0, []), (68, .invokevirtual 125, 5, 4, 7, []), (71, .return_, 0, 0, 0, [])]
def clX7_arrive : List (Instr × Nat × Nat × Nat) := [(.invokevirtual 298, 0, 1, 2), (.invokevirtual 214, 1, 3, 2), (.invokevirtual 108, 2, 1, 0), (.invokevirtual 312, 3, 2, 0), (.invokevirtual 271, 4, 3, 2), (.invokevirtual 125, 5, 4, 7)]
def thX7_arrive : List (Nat × Nat) := []
theorem ckX7_arrive : tbX7_arrive.all (xRow RX7 cX7_arrive wsX7_arrive vwCl [2, 8] clX7_arrive thX7_arrive 4 (yX7_arrive.name == "<init>") none) = true := xRow_q 0xb17d00b6ee00b42bda00b42b052300b42adaffa70102840f01b6032b2d0f01b6032d2b4ed200c03801b61c1900b42a2100a26c00b61900b42a1c3d03d600b6c100b42a2a01b62b2b 72 (by decide +kernel) (by decide +kernel)
theorem usX7_arrive : xUse wsX7_arrive vwCl [2, 8] = true := xUse_g rfl (lw_good lwl_X7_arrive lwl_X10 (by decide +kernel)) (xUse_g rfl (lw_good lwl_X7_arrive lwl_X70 (by decide +kernel)) xUse_n)
theorem tbX7_arrive_0 {k : Instr → Nat → Nat → Nat → List Nat → Prop} : xse (xFind tbX7_arrive 0) k = k (.aload_n 1) 1 0 0 [] := rfl
theorem tbX7_arrive_1 {k : Instr → Nat → Nat → Nat → List Nat → Prop} : xse (xFind tbX7_arrive 1) k = k (.aload_n 1) 1 0 0 [] := rfl
theorem tbX7_arrive_2 {k : Instr → Nat → Nat → Nat → List Nat → Prop} : xse (xFind tbX7_arrive 2) k = k (.invokevirtual 298) 0 1 2 [] := rfl
theorem tbX7_arrive_5 {k : Instr → Nat → Nat → Nat → List Nat → Prop} : xse (xFind tbX7_arrive 5) k = k (.aload_n 0) 0 0 0 [] := rfl
theorem tbX7_arrive_6 {k : Instr → Nat → Nat → Nat → List Nat → Prop} : xse (xFind tbX7_arrive 6) k = k (.getfield 193) 8 7 0 [] := rfl
theorem tbX7_arrive_9 {k : Instr → Nat → Nat → Nat → List Nat → Prop} : xse (xFind tbX7_arrive 9) k = k (.invokevirtual 214) 1 3 2 [] := rfl
theorem tbX7_arrive_12 {k : Instr → Nat → Nat → Nat → List Nat → Prop} : xse (xFind tbX7_arrive 12) k = k (.iconst 0) 0 0 0 [] := rfl
theorem tbX7_arrive_13 {k : Instr → Nat → Nat → Nat → List Nat → Prop} : xse (xFind tbX7_arrive 13) k = k (.istore_n 2) 2 0 0 [] := rfl
theorem tbX7_arrive_14 {k : Instr → Nat → Nat → Nat → List Nat → Prop} : xse (xFind tbX7_arrive 14) k = k (.iload_n 2) 2 0 0 [] := rfl
theorem tbX7_arrive_15 {k : Instr → Nat → Nat → Nat → List Nat → Prop} : xse (xFind tbX7_arrive 15) k = k (.aload_n 0) 0 0 0 [] := rfl
theorem tbX7_arrive_16 {k : Instr → Nat → Nat → Nat → List Nat → Prop} : xse (xFind tbX7_arrive 16) k = k (.getfield 25) 8 4 2 [] := rfl
theorem tbX7_arrive_19 {k : Instr → Nat → Nat → Nat → List Nat → Prop} : xse (xFind tbX7_arrive 19) k = k (.invokevirtual 108) 2 1 0 [] := rfl
theorem tbX7_arrive_22 {k : Instr → Nat → Nat → Nat → List Nat → Prop} : xse (xFind tbX7_arrive 22) k = k (.if_icmp .ge 33) 55 0 0 [] := rfl
theorem tbX7_arrive_25 {k : Instr → Nat → Nat → Nat → List Nat → Prop} : xse (xFind tbX7_arrive 25) k = k (.aload_n 0) 0 0 0 [] := rfl
theorem tbX7_arrive_26 {k : Instr → Nat → Nat → Nat → List Nat → Prop} : xse (xFind tbX7_arrive 26) k = k (.getfield 25) 8 4 2 [] := rfl
theorem tbX7_arrive_29 {k : Instr → Nat → Nat → Nat → List Nat → Prop} : xse (xFind tbX7_arrive 29) k = k (.iload_n 2) 2 0 0 [] := rfl
theorem tbX7_arrive_30 {k : Instr → Nat → Nat → Nat → List Nat → Prop} : xse (xFind tbX7_arrive 30) k = k (.invokevirtual 312) 3 2 0 [] := rfl
theorem tbX7_arrive_33 {k : Instr → Nat → Nat → Nat → List Nat → Prop} : xse (xFind tbX7_arrive 33) k = k (.checkcast 210) 2 0 0 [] := rfl
theorem tbX7_arrive_36 {k : Instr → Nat → Nat → Nat → List Nat → Prop} : xse (xFind tbX7_arrive 36) k = k (.astore_n 3) 3 0 0 [] := rfl
theorem tbX7_arrive_37 {k : Instr → Nat → Nat → Nat → List Nat → Prop} : xse (xFind tbX7_arrive 37) k = k (.aload_n 1) 1 0 0 [] := rfl
theorem tbX7_arrive_38 {k : Instr → Nat → Nat → Nat → List Nat → Prop} : xse (xFind tbX7_arrive 38) k = k (.aload_n 3) 3 0 0 [] := rfl
theorem tbX7_arrive_39 {k : Instr → Nat → Nat → Nat → List Nat → Prop} : xse (xFind tbX7_arrive 39) k = k (.iconst 0) 0 0 0 [] := rfl
theorem tbX7_arrive_40 {k : Instr → Nat → Nat → Nat → List Nat → Prop} : xse (xFind tbX7_arrive 40) k = k (.invokevirtual 271) 4 3 2 [] := rfl
theorem tbX7_arrive_43 {k : Instr → Nat → Nat → Nat → List Nat → Prop} : xse (xFind tbX7_arrive 43) k = k (.aload_n 3) 3 0 0 [] := rfl
theorem tbX7_arrive_44 {k : Instr → Nat → Nat → Nat → List Nat → Prop} : xse (xFind tbX7_arrive 44) k = k (.aload_n 1) 1 0 0 [] := rfl
theorem tbX7_arrive_45 {k : Instr → Nat → Nat → Nat → List Nat → Prop} : xse (xFind tbX7_arrive 45) k = k (.iconst 0) 0 0 0 [] := rfl
theorem tbX7_arrive_46 {k : Instr → Nat → Nat → Nat → List Nat → Prop} : xse (xFind tbX7_arrive 46) k = k (.invokevirtual 271) 4 3 2 [] := rfl
theorem tbX7_arrive_49 {k : Instr → Nat → Nat → Nat → List Nat → Prop} : xse (xFind tbX7_arrive 49) k = k (.iinc 2 1) 2 0 0 [] := rfl
theorem tbX7_arrive_52 {k : Instr → Nat → Nat → Nat → List Nat → Prop} : xse (xFind tbX7_arrive 52) k = k (.goto (-38)) 14 0 0 [] := rfl
theorem tbX7_arrive_55 {k : Instr → Nat → Nat → Nat → List Nat → Prop} : xse (xFind tbX7_arrive 55) k = k (.aload_n 0) 0 0 0 [] := rfl
theorem tbX7_arrive_56 {k : Instr → Nat → Nat → Nat → List Nat → Prop} : xse (xFind tbX7_arrive 56) k = k (.getfield 35) 8 6 2 [] := rfl
theorem tbX7_arrive_59 {k : Instr → Nat → Nat → Nat → List Nat → Prop} : xse (xFind tbX7_arrive 59) k = k (.iconst 2) 0 0 0 [] := rfl
theorem tbX7_arrive_60 {k : Instr → Nat → Nat → Nat → List Nat → Prop} : xse (xFind tbX7_arrive 60) k = k (.aload_n 1) 1 0 0 [] := rfl
theorem tbX7_arrive_61 {k : Instr → Nat → Nat → Nat → List Nat → Prop} : xse (xFind tbX7_arrive 61) k = k (.getfield 218) 2 0 0 [] := rfl
theorem tbX7_arrive_64 {k : Instr → Nat → Nat → Nat → List Nat → Prop} : xse (xFind tbX7_arrive 64) k = k (.aload_n 1) 1 0 0 [] := rfl
theorem tbX7_arrive_65 {k : Instr → Nat → Nat → Nat → List Nat → Prop} : xse (xFind tbX7_arrive 65) k = k (.getfield 238) 2 6 0 [] := rfl
theorem tbX7_arrive_68 {k : Instr → Nat → Nat → Nat → List Nat → Prop} : xse (xFind tbX7_arrive 68) k = k (.invokevirtual 125) 5 4 7 [] := rfl
theorem tbX7_arrive_71 {k : Instr → Nat → Nat → Nat → List Nat → Prop} : xse (xFind tbX7_arrive 71) k = k (.return_) 0 0 0 [] := rfl

def spX7_arrive (W9 : xWd) : xSp cS := (fun av S => enC av S, fun av S K => ∃ (a : Nat) (b : Nat), av = [.ref a, .ref b] ∧ (∃ (B : Nat) (M : mS) (x : Int32) (w : Nat) (d : Nat → Nat → Nat) (np N : Nat), rArr W9 B a d S M x w np N ∧ w < nBt M ∧ b = d 4 w ∧ ¬ M.2 34 w = -1 ∧ ∀ S2, RRu W9 B a S2 (mCome (mAst M 36 w x) w) (if pU S d (np - 1) < 64 then pU S d (np - 1) + 1 else 1) → K rV S2))
theorem spcX7_arrive {av : List Value} {S : cS} {W9 : xWd} : (spX7_arrive W9).1 av S = enC av S := rfl
theorem spwX7_arrive {S : cS} {W9 : xWd} {K : xRes → cS → Prop} {a : Nat} {b : Nat} : (spX7_arrive W9).2 [.ref a, .ref b] S K = (∃ (B : Nat) (M : mS) (x : Int32) (w : Nat) (d : Nat → Nat → Nat) (np N : Nat), rArr W9 B a d S M x w np N ∧ w < nBt M ∧ b = d 4 w ∧ ¬ M.2 34 w = -1 ∧ ∀ S2, RRu W9 B a S2 (mCome (mAst M 36 w x) w) (if pU S d (np - 1) < 64 then pU S d (np - 1) + 1 else 1) → K rV S2) :=
  propext ⟨fun h => by
    simp only [spX7_arrive] at h
    obtain ⟨_, _, e, h⟩ := h
    simp only [List.cons.injEq, Value.int.injEq, Value.ref.injEq, rf_eq, and_true, true_and] at e
    obtain ⟨rfl, rfl⟩ := e
    exact h, fun h => ⟨_, _, rfl, h⟩⟩

def callX7_arrive (W9 : xWd) : Nat → Option (xSp cS) := fun n => match n with | 0 => some (spX1_pointAhead W9) | 1 => some (spX1_standAt W9) | 2 => some (spJx4a65c_size_8abf5 W9) | 3 => some (spJx4a65c_get_915e3 W9) | 4 => some (spX1_agree W9) | 5 => some (spX6_tellB W9) | _ => none

theorem callX7_arrive_0 {W9 : xWd} {k : xSp cS → Prop} : xcs (callX7_arrive W9 0) k = k (spX1_pointAhead W9) := rfl

theorem callX7_arrive_1 {W9 : xWd} {k : xSp cS → Prop} : xcs (callX7_arrive W9 1) k = k (spX1_standAt W9) := rfl

theorem callX7_arrive_2 {W9 : xWd} {k : xSp cS → Prop} : xcs (callX7_arrive W9 2) k = k (spJx4a65c_size_8abf5 W9) := rfl

theorem callX7_arrive_3 {W9 : xWd} {k : xSp cS → Prop} : xcs (callX7_arrive W9 3) k = k (spJx4a65c_get_915e3 W9) := rfl

theorem callX7_arrive_4 {W9 : xWd} {k : xSp cS → Prop} : xcs (callX7_arrive W9 4) k = k (spX1_agree W9) := rfl

theorem callX7_arrive_5 {W9 : xWd} {k : xSp cS → Prop} : xcs (callX7_arrive W9 5) k = k (spX6_tellB W9) := rfl

theorem crX7_arrive (l : Launch) (hl : l.stackTraces = false) (W9 : xWd) : xCallsOK l W9 (cI) (callX7_arrive W9) clX7_arrive RX7 wsX7_arrive 3 64 4 := by
  intro E A p e R s m args below meth c hI hF hL X
  exact List.forall_mem_cons.mpr ⟨⟨_, rfl, xCR_V X (by rw [hI]; exact (semX1_pointAhead l hl W9)) gX7_arrive_X1_pointAhead rfl rfl (by decide +kernel) (by rw [hF, hL]; decide)⟩,
    List.forall_mem_cons.mpr ⟨⟨_, rfl, xCR_V X (by rw [hI]; exact (semX1_standAt l hl W9)) gX7_arrive_X1_standAt rfl rfl (by decide +kernel) (by rw [hF, hL]; decide)⟩,
    List.forall_mem_cons.mpr ⟨⟨_, rfl, xCR_V X (by rw [hI]; exact (semJx4a65c_size_8abf5 l hl W9)) gX7_arrive_Jx4a65c_size_8abf5 rfl rfl (by decide +kernel) (by rw [hF, hL]; decide)⟩,
    List.forall_mem_cons.mpr ⟨⟨_, rfl, xCR_V X (by rw [hI]; exact (semJx4a65c_get_915e3 l hl W9)) gX7_arrive_Jx4a65c_get_915e3 rfl rfl (by decide +kernel) (by rw [hF, hL]; decide)⟩,
    List.forall_mem_cons.mpr ⟨⟨_, rfl, xCR_V X (by rw [hI]; exact (semX1_agree l hl W9)) gX7_arrive_X1_agree rfl rfl (by decide +kernel) (by rw [hF, hL]; decide)⟩,
    List.forall_mem_cons.mpr ⟨⟨_, rfl, xCR_V X (by rw [hI]; exact (semX6_tellB l hl W9)) gX7_arrive_X6_tell rfl rfl (by decide +kernel) (by rw [hF, hL]; decide)⟩,
    fun _ h => nomatch h⟩⟩⟩⟩⟩⟩

set_option maxHeartbeats 1200000 in
set_option maxRecDepth 20000 in
theorem semX7_arrive (l : Launch) (hl : l.stackTraces = false) (W9 : xWd) : xSem l W9 (cI) yX7_arrive wsX7_arrive 3 64 (spX7_arrive W9) := by
  refine xSem_of (call := callX7_arrive W9) (thrf := fun _ => "") cI_law (by decide +kernel) rfl ckX7_arrive usX7_arrive (crX7_arrive l hl W9) xThrOK_nil ?_ ?_
  · intro av S KF h
    obtain ⟨a, b, rfl, h⟩ := h
    exact ⟨by intro v hv; simp only [List.mem_cons, List.not_mem_nil, or_false] at hv; rcases hv with rfl | rfl <;> first | rfl | exact cat_rf, Nat.le_of_ble_eq_true rfl⟩
  intro av S KF h G hG
  obtain ⟨a, b, rfl, h⟩ := h
  rw [show (spX7_arrive W9).1 _ S = _ from spcX7_arrive] at hG
  try dsimp only at hG
  change G 0 [some (.ref a), some (.ref b), none, none] [] S 0 0
  obtain ⟨B, M, x, w, d, np, N, hRR, hw, rfl, hs, hk⟩ := h
  have hRR2 := hRR
  obtain ⟨hd, rfl, hi, hR, hp, hl, hN, hB8⟩ := hRR2
  obtain ⟨p, hp8, ep⟩ := ptA_in hi hw hs
  have hx := fun S1 S2 => RR_arr (S1 := S1) (S2 := S2) hRR hw hs ep hp8
  have hb := hi.1.1.2
  have hw1 : w < nBt (mAst M 36 w x) := hw
  have hb1 : nBt (mAst M 36 w x) = nBt M := rfl
  have hs1 : ¬ (mAst M 36 w x).2 34 w = -1 := by rw [mAst_ne (by omega)]; exact hs
  have hpA : mPtA (mAst M 36 w x) w = nI p := by rw [← ep]; unfold mPtA; rw [mAst_ne (by omega), mAst_ne (by omega)]
  obtain ⟨b0, b200, -, -, -, -, -, -, b207, b208, -⟩ := hR.2.2.2.2.2.1 w hw1
  obtain ⟨a0, ⟨-, -, -, -, -, -, a806⟩, a807, -⟩ := hR.2.2.2.2.2.2.2.2.1
  have p0 := hp.1.1
  have hpt : (if cFi S (d 4 w) 208 = 0 then cFi S (d 4 w) 207 else cFi S (d 4 w) 207 + 1) = nI p := by
    rw [b207, b208 hs1, ← hpA]
    rfl
  have hSt := R0_stand hd hR hw1 hs1 (p := nI p) (o := cFi S (d 9 0) 807) hpA.symm a807 (nI_m1 (by omega))
  have hch0 : chg S (if cFi S (d 4 w) 210 = nI p then cSetI (cSetI (cSetI (cSetI (cSetI S (d 4 w) 206 (nI p)) (d 4 w) 207 (-1)) (d 4 w) 209 0) (d 4 w) 211 (cFi S (d 9 0) 807)) (d 4 w) 210 (-1) else cSetI (cSetI (cSetI (cSetI S (d 4 w) 206 (nI p)) (d 4 w) 207 (-1)) (d 4 w) 209 0) (d 4 w) 211 (cFi S (d 9 0) 807)) (boatX d) := by
    split
    · exact ((((chg.rf.sI ⟨w, rfl⟩).sI ⟨w, rfl⟩).sI ⟨w, rfl⟩).sI ⟨w, rfl⟩).sI ⟨w, rfl⟩
    · exact (((chg.rf.sI ⟨w, rfl⟩).sI ⟨w, rfl⟩).sI ⟨w, rfl⟩).sI ⟨w, rfl⟩
  have e806 : cRf S (d 9 0) 806 = d 9 2 := by unfold cRf; rw [a806]; rfl
  change xClosed _ _ _ (stC S (cRf S (d 9 0) 806)).1 (stC S (cRf S (d 9 0) 806)).2 _ _ G at hG
  rw [e806] at hG
  generalize hC : stC S (d 9 2) = C at hG hx
  generalize hM1 : mAst M 36 w x = M1 at *
  have nA : ∀ j, nBt (mAgr (mCm1 M1 w) w j) = nBt M := fun j => (nBt_eq (by rw [mAgr_1]; rfl)).trans hb1
  have loop := xloop hG 14 [true, true, true, false] (fun j lv st S2 cs ss => lv = [some (.ref (d 9 0)), some (.ref (d 4 w)), some (.int (nI j)), none] ∧ st = [] ∧ (R0 W9 d S2 (mAgr (mCm1 M1 w) w j) ∧ chg S S2 (boatX d)) ∧ cs = 0 ∧ ss = 0) (nBt M) (by
      rintro j hj lv st S2 cs ss ⟨rfl, rfl, ⟨hR2, hch2⟩, rfl, rfl⟩ fu hfu
      have hj2 : j < nBt (mAgr (mCm1 M1 w) w j) := by rw [nA]; exact hj
      have hw2 : w < nBt (mAgr (mCm1 M1 w) w j) := by rw [nA]; exact hw
      obtain ⟨f1, f2, f3, f4, f5⟩ := R0_L4 hR2
      rw [nA] at f4 f5
      obtain ⟨q1, -⟩ := f5 j hj
      have g0 := hR2.2.2.2.2.2.2.2.2.1.1
      obtain ⟨b0, b200, -⟩ := hR2.2.2.2.2.2.1 w hw2
      obtain ⟨j0, j200, -⟩ := hR2.2.2.2.2.2.1 j hj2
      have e0 := ge_nI hj (show nBt M < 1000 by omega)
      have e2 := lt0_nI hj (show nBt M < 1000 by omega)
      have hd1 := R0_dis hd hR2 hw2 (by rw [nA]; omega) (v := j) (by omega)
      have hd2 := R0_dis hd hd1 (w := j) (by show j < nBt (mAgr (mCm1 M1 w) w j); exact hj2) (by show nBt (mAgr (mCm1 M1 w) w j) ≤ 6; rw [nA]; omega) (v := w) (by omega)
      have hc1 := hch2.sI (a := d 4 w) (g := 212) (x := cFi S2 (d 4 w) 212 &&& (1 <<< (nI j &&& 31) ^^^ -1)) ⟨w, rfl⟩
      have hc2 := hc1.sI (a := d 4 j) (g := 212) (x := cFi (cSetI S2 (d 4 w) 212 (cFi S2 (d 4 w) 212 &&& (1 <<< (nI j &&& 31) ^^^ -1))) (d 4 j) 212 &&& (1 <<< (nI w &&& 31) ^^^ -1)) ⟨j, rfl⟩
      have w200 : ∀ y, cFi (cSetI S2 (d 4 w) 212 y) (d 4 w) 200 = nI w := fun y => by rw [cFi_setI, if_neg (fun z => by omega)]; exact b200
      simp only [↓callX7_arrive_0, ↓callX7_arrive_1, ↓callX7_arrive_2, ↓callX7_arrive_3, ↓callX7_arrive_4, ↓callX7_arrive_5, ↓cg_2_0, ↓cg_2_6, ↓cg_8_4, ↓cg_8_6, ↓cg_8_7, cisa, ki_0, ki_1, ki_2, ↓vm_aload_n, ↓vm_astore_n, ↓vm_checkcast, ↓vm_getfield, ↓vm_goto, ↓vm_iconst, ↓vm_if_icmp_ge, ↓vm_iinc, ↓vm_iload_n, ↓vm_invokevirtual, ↓vm_istore_n, ↓vm_return_, ↓xc_1, ↓xc_2, ↓xc_3, ↓xc_4, ↓tbX7_arrive_0, ↓tbX7_arrive_1, ↓tbX7_arrive_2, ↓tbX7_arrive_5, ↓tbX7_arrive_6, ↓tbX7_arrive_9, ↓tbX7_arrive_12, ↓tbX7_arrive_13, ↓tbX7_arrive_14, ↓tbX7_arrive_15, ↓tbX7_arrive_16, ↓tbX7_arrive_19, ↓tbX7_arrive_22, ↓tbX7_arrive_25, ↓tbX7_arrive_26, ↓tbX7_arrive_29, ↓tbX7_arrive_30, ↓tbX7_arrive_33, ↓tbX7_arrive_36, ↓tbX7_arrive_37, ↓tbX7_arrive_38, ↓tbX7_arrive_39, ↓tbX7_arrive_40, ↓tbX7_arrive_43, ↓tbX7_arrive_44, ↓tbX7_arrive_45, ↓tbX7_arrive_46, ↓tbX7_arrive_49, ↓tbX7_arrive_52, ↓tbX7_arrive_55, ↓tbX7_arrive_56, ↓tbX7_arrive_59, ↓tbX7_arrive_60, ↓tbX7_arrive_61, ↓tbX7_arrive_64, ↓tbX7_arrive_65, ↓tbX7_arrive_68, ↓tbX7_arrive_71, hfu, xstep0, xJ1_hit, xJ1_go, xJ2_hit1, xJ2_hit2, xJ2_go, ↓xif_t, ↓xif_f, seval, ↓xca_eq, ↓xre_l, ↓xre_r, xmask_t, xmask_f, xmask_nil, ↓xst_eq, xX_eq, eI_eq, eMc_eq, eMs_eq, eF_eq, eThr_eq, ↓xS1_mk, ↓xSI_mk, ↓xSR_mk, ↓xLI_0, ↓xLI_s, ↓xLR_0, ↓xLR_s, vRef_ref, vRef_null, vRef_rf, cat_int, cat_ref, cat_null, cat_rf, rf_some, rf_none, rf_null, rf_eq, rf_ref, ref_rf, ref_null, ref_ref, xOk_0, xOk_1, xOk_2r, xOk_2n, xOk_2f, vOpt_rf, vOpt_ref, vOpt_null, List.set_cons_zero, List.set_cons_succ, List.take_succ_cons, List.take_zero, List.drop_succ_cons, List.drop_zero, List.reverse_cons, List.reverse_nil, List.nil_append, List.cons_append, List.append_nil, List.length_cons, List.length_nil, List.map_cons, List.map_nil, List.sum_cons, List.sum_nil, Option.toList_some, Option.toList_none, xRecv_mk, true_and, and_true, true_implies, Nat.reduceAdd, Nat.reduceLeDiff, Nat.zero_le, Nat.le_refl, Nat.add_zero, Nat.zero_add, reduceIte, not_true_eq_false, not_false_eq_true, false_implies, and_self, implies_true, eq_self, Nat.reduceEqDiff, List.cons.injEq, xsn_1, xsn_2, false_and, and_false, or_false, false_or, or_true, true_or, xsn_3, xsn_4, cK_setI, cFr_setI, ↓spwX1_pointAhead, spcX1_pointAhead, ↓spwX1_standAt, spcX1_standAt, ↓spwJx4a65c_size_8abf5, spcJx4a65c_size_8abf5, ↓spwJx4a65c_get_915e3, spcJx4a65c_get_915e3, ↓spwX1_agree, spcX1_agree, ↓spwX6_tellB, spcX6_tellB, g0, f1, f2, f3, f4, b0, b200, j0, j200, e0, pos_nI (show j < 1000 by omega), e2, ix_nI (show j < 1000 by omega), q1, w200, nI1]
      try simp only [xif_e]
      exact ⟨hd2, hc2⟩) (by
      rintro lv st S2 cs ss ⟨rfl, rfl, ⟨hR2, hch2⟩, rfl, rfl⟩ fu hfu
      obtain ⟨f1, f2, f3, f4, -⟩ := R0_L4 hR2
      rw [nA] at f4
      have hw2 : w < nBt (mAgr (mCm1 M1 w) w (nBt M)) := by rw [nA]; exact hw
      obtain ⟨g0, ⟨-, -, -, -, -, -, g806⟩, -⟩ := hR2.2.2.2.2.2.2.2.2.1
      obtain ⟨b0, b200, -⟩ := hR2.2.2.2.2.2.1 w hw2
      have p2 : cK S2 (d 9 2) = 8 := (hch2.2.2.1 _).trans p0
      have hR3 : R0 W9 d S2 (mCome M1 w) := by unfold mCome; rw [hb1]; exact hR2
      have hy := fun S3 => hx S2 S3 hR3 hch2
      have b206 := (hy S).2.2.1
      simp only [↓callX7_arrive_0, ↓callX7_arrive_1, ↓callX7_arrive_2, ↓callX7_arrive_3, ↓callX7_arrive_4, ↓callX7_arrive_5, ↓cg_2_0, ↓cg_2_6, ↓cg_8_4, ↓cg_8_6, ↓cg_8_7, cisa, ki_0, ki_1, ki_2, ↓vm_aload_n, ↓vm_astore_n, ↓vm_checkcast, ↓vm_getfield, ↓vm_goto, ↓vm_iconst, ↓vm_if_icmp_ge, ↓vm_iinc, ↓vm_iload_n, ↓vm_invokevirtual, ↓vm_istore_n, ↓vm_return_, ↓xc_1, ↓xc_2, ↓xc_3, ↓xc_4, ↓tbX7_arrive_0, ↓tbX7_arrive_1, ↓tbX7_arrive_2, ↓tbX7_arrive_5, ↓tbX7_arrive_6, ↓tbX7_arrive_9, ↓tbX7_arrive_12, ↓tbX7_arrive_13, ↓tbX7_arrive_14, ↓tbX7_arrive_15, ↓tbX7_arrive_16, ↓tbX7_arrive_19, ↓tbX7_arrive_22, ↓tbX7_arrive_25, ↓tbX7_arrive_26, ↓tbX7_arrive_29, ↓tbX7_arrive_30, ↓tbX7_arrive_33, ↓tbX7_arrive_36, ↓tbX7_arrive_37, ↓tbX7_arrive_38, ↓tbX7_arrive_39, ↓tbX7_arrive_40, ↓tbX7_arrive_43, ↓tbX7_arrive_44, ↓tbX7_arrive_45, ↓tbX7_arrive_46, ↓tbX7_arrive_49, ↓tbX7_arrive_52, ↓tbX7_arrive_55, ↓tbX7_arrive_56, ↓tbX7_arrive_59, ↓tbX7_arrive_60, ↓tbX7_arrive_61, ↓tbX7_arrive_64, ↓tbX7_arrive_65, ↓tbX7_arrive_68, ↓tbX7_arrive_71, hfu, xstep0, xJ1_hit, xJ1_go, xJ2_hit1, xJ2_hit2, xJ2_go, ↓xif_t, ↓xif_f, seval, ↓xca_eq, ↓xre_l, ↓xre_r, xmask_t, xmask_f, xmask_nil, ↓xst_eq, xX_eq, eI_eq, eMc_eq, eMs_eq, eF_eq, eThr_eq, ↓xS1_mk, ↓xSI_mk, ↓xSR_mk, ↓xLI_0, ↓xLI_s, ↓xLR_0, ↓xLR_s, vRef_ref, vRef_null, vRef_rf, cat_int, cat_ref, cat_null, cat_rf, rf_some, rf_none, rf_null, rf_eq, rf_ref, ref_rf, ref_null, ref_ref, xOk_0, xOk_1, xOk_2r, xOk_2n, xOk_2f, vOpt_rf, vOpt_ref, vOpt_null, List.set_cons_zero, List.set_cons_succ, List.take_succ_cons, List.take_zero, List.drop_succ_cons, List.drop_zero, List.reverse_cons, List.reverse_nil, List.nil_append, List.cons_append, List.append_nil, List.length_cons, List.length_nil, List.map_cons, List.map_nil, List.sum_cons, List.sum_nil, Option.toList_some, Option.toList_none, xRecv_mk, true_and, and_true, true_implies, Nat.reduceAdd, Nat.reduceLeDiff, Nat.zero_le, Nat.le_refl, Nat.add_zero, Nat.zero_add, reduceIte, not_true_eq_false, not_false_eq_true, false_implies, and_self, implies_true, eq_self, Nat.reduceEqDiff, List.cons.injEq, xsn_1, xsn_2, false_and, and_false, or_false, false_or, or_true, true_or, xsn_3, xsn_4, cK_setI, cFr_setI, ↓spwX1_pointAhead, spcX1_pointAhead, ↓spwX1_standAt, spcX1_standAt, ↓spwJx4a65c_size_8abf5, spcJx4a65c_size_8abf5, ↓spwJx4a65c_get_915e3, spcJx4a65c_get_915e3, ↓spwX1_agree, spcX1_agree, ↓spwX6_tellB, spcX6_tellB, g0, g806, f1, f2, f3, f4, b0, b200, b206, p2, le_nI_self, tlC]
      try simp only [xif_e]
      have x2 := (hy S).2.1
      exact ⟨Nat.le_of_eq (congrArg Prod.fst x2), Nat.le_of_eq (congrArg Prod.snd x2), N, _, _, (hy S).1, fun S3 hT => ⟨Nat.le_of_eq (congrArg Prod.fst x2), Nat.le_of_eq (congrArg Prod.snd x2), hk S3 ((hy S3).2.2.2 hT)⟩⟩)
  refine xgo hG (mb := [true, true, true, false]) (loop 0 (Nat.zero_le _)) (pc := 0) (fun fu hfu => ?_)
  simp only [↓callX7_arrive_0, ↓callX7_arrive_1, ↓callX7_arrive_2, ↓callX7_arrive_3, ↓callX7_arrive_4, ↓callX7_arrive_5, ↓cg_2_0, ↓cg_2_6, ↓cg_8_4, ↓cg_8_6, ↓cg_8_7, cisa, ki_0, ki_1, ki_2, ↓vm_aload_n, ↓vm_astore_n, ↓vm_checkcast, ↓vm_getfield, ↓vm_goto, ↓vm_iconst, ↓vm_if_icmp_ge, ↓vm_iinc, ↓vm_iload_n, ↓vm_invokevirtual, ↓vm_istore_n, ↓vm_return_, ↓xc_1, ↓xc_2, ↓xc_3, ↓xc_4, ↓tbX7_arrive_0, ↓tbX7_arrive_1, ↓tbX7_arrive_2, ↓tbX7_arrive_5, ↓tbX7_arrive_6, ↓tbX7_arrive_9, ↓tbX7_arrive_12, ↓tbX7_arrive_13, ↓tbX7_arrive_14, ↓tbX7_arrive_15, ↓tbX7_arrive_16, ↓tbX7_arrive_19, ↓tbX7_arrive_22, ↓tbX7_arrive_25, ↓tbX7_arrive_26, ↓tbX7_arrive_29, ↓tbX7_arrive_30, ↓tbX7_arrive_33, ↓tbX7_arrive_36, ↓tbX7_arrive_37, ↓tbX7_arrive_38, ↓tbX7_arrive_39, ↓tbX7_arrive_40, ↓tbX7_arrive_43, ↓tbX7_arrive_44, ↓tbX7_arrive_45, ↓tbX7_arrive_46, ↓tbX7_arrive_49, ↓tbX7_arrive_52, ↓tbX7_arrive_55, ↓tbX7_arrive_56, ↓tbX7_arrive_59, ↓tbX7_arrive_60, ↓tbX7_arrive_61, ↓tbX7_arrive_64, ↓tbX7_arrive_65, ↓tbX7_arrive_68, ↓tbX7_arrive_71, hfu, xstep0, xJ1_hit, xJ1_go, xJ2_hit1, xJ2_hit2, xJ2_go, ↓xif_t, ↓xif_f, seval, ↓xca_eq, ↓xre_l, ↓xre_r, xmask_t, xmask_f, xmask_nil, ↓xst_eq, xX_eq, eI_eq, eMc_eq, eMs_eq, eF_eq, eThr_eq, ↓xS1_mk, ↓xSI_mk, ↓xSR_mk, ↓xLI_0, ↓xLI_s, ↓xLR_0, ↓xLR_s, vRef_ref, vRef_null, vRef_rf, cat_int, cat_ref, cat_null, cat_rf, rf_some, rf_none, rf_null, rf_eq, rf_ref, ref_rf, ref_null, ref_ref, xOk_0, xOk_1, xOk_2r, xOk_2n, xOk_2f, vOpt_rf, vOpt_ref, vOpt_null, List.set_cons_zero, List.set_cons_succ, List.take_succ_cons, List.take_zero, List.drop_succ_cons, List.drop_zero, List.reverse_cons, List.reverse_nil, List.nil_append, List.cons_append, List.append_nil, List.length_cons, List.length_nil, List.map_cons, List.map_nil, List.sum_cons, List.sum_nil, Option.toList_some, Option.toList_none, xRecv_mk, true_and, and_true, true_implies, Nat.reduceAdd, Nat.reduceLeDiff, Nat.zero_le, Nat.le_refl, Nat.add_zero, Nat.zero_add, reduceIte, not_true_eq_false, not_false_eq_true, false_implies, and_self, implies_true, eq_self, Nat.reduceEqDiff, List.cons.injEq, xsn_1, xsn_2, false_and, and_false, or_false, false_or, or_true, true_or, xsn_3, xsn_4, cK_setI, cFr_setI, ↓spwX1_pointAhead, spcX1_pointAhead, ↓spwX1_standAt, spcX1_standAt, ↓spwJx4a65c_size_8abf5, spcJx4a65c_size_8abf5, ↓spwJx4a65c_get_915e3, spcJx4a65c_get_915e3, ↓spwX1_agree, spcX1_agree, ↓spwX6_tellB, spcX6_tellB, b0, hpt, a0]
  try simp only [xif_e]
  exact ⟨rfl, hSt, hch0⟩
