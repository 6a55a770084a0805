/-! The class, under the relation: an hour, to pass. -/
theorem held_eq (v : Int32) : rMax (-30) (rMin 60 v) = mHeld v := by
  have t1 : (-30 : Int32).toInt = -30 := by decide
  have t2 : (60 : Int32).toInt = 60 := by decide
  have t3 : (-30 : Int32) < 60 := by decide
  have a1 : (v < 60) ↔ v.toInt < 60 := by rw [Int32.lt_iff_toInt_lt, t2]
  have a2 : (60 < v) ↔ 60 < v.toInt := by rw [Int32.lt_iff_toInt_lt, t2]
  have a3 : (-30 < v) ↔ -30 < v.toInt := by rw [Int32.lt_iff_toInt_lt, t1]
  have a4 : (v < -30) ↔ v.toInt < -30 := by rw [Int32.lt_iff_toInt_lt, t1]
  unfold rMax rMin mHeld
  by_cases c1 : v < 60
  · have n1 : ¬ v > 60 := fun z => by have := a1.mp c1; have := a2.mp z; omega
    rw [if_pos c1]
    by_cases c2 : -30 < v
    · rw [if_pos c2, if_neg (fun z => by have := a3.mp c2; have := a4.mp z; omega), if_neg n1]
    · rw [if_neg c2]
      by_cases c3 : v < -30
      · rw [if_pos c3]
      · rw [if_neg c3, if_neg n1]
        exact Int32.toInt_inj.mp (by rw [t1]; rw [a3] at c2; rw [a4] at c3; omega)
  · rw [if_neg c1, if_pos t3, if_neg (fun z => by rw [a1] at c1; have := a4.mp z; omega)]
    by_cases c3 : v > 60
    · rw [if_pos c3]
    · rw [if_neg c3]
      exact Int32.toInt_inj.mp (by rw [t2]; rw [a1] at c1; rw [gt_iff_lt, a2] at c3; omega)
theorem iAll_h0 {M : mS} (h : iAll M) (hh : ∃ n, M.1 1 = nI n ∧ n < 5000) : iAll (mH0 M) := by
  obtain ⟨i1, i2, i3, i4, i5, i6, i7, i8, i9, ⟨-, t2, t3⟩⟩ := h
  obtain ⟨n, e, hn⟩ := hh
  refine ⟨i1, i2, i3, i4, i5, i6, i7, i8, i9, ⟨n + 1, ?_, by omega⟩, t2, fun p hp => ?_⟩
  · show M.1 1 + 1 = nI (n + 1)
    rw [e, nI1]
  · show M.2 20 p ≤ M.1 1 + 1
    have := t3 p hp
    rw [e, Int32.le_iff_toInt_le, nI_toInt (by omega)] at this
    rw [e, nI1, Int32.le_iff_toInt_le, nI_toInt (by omega)]
    omega
def hQ (d : Nat → Nat → Nat) (S : cS) (M : mS) (i : Nat) (S2 : cS) : Prop := chg S S2 (fun b => b = d 9 0 ∨ b = d 9 1) ∧ cFi S2 (d 9 0) 807 = (mH0 M).1 1 ∧ cFi S2 (d 9 0) 808 = (mH0 M).1 2 ∧ (∀ g, g ≠ 807 → g ≠ 808 → cFi S2 (d 9 0) g = cFi S (d 9 0) g) ∧ cFr S2 (d 9 0) = cFr S (d 9 0) ∧ ∀ p, p < i → cRi S2 (d 9 1) p = 0
theorem hQ.step {d : Nat → Nat → Nat} {S : cS} {M : mS} {i : Nat} {S2 : cS} (h : hQ d S M i S2) (hd : dInj d) : hQ d S M (i + 1) (cAst S2 (d 9 1) i 0) := by
  obtain ⟨h1, h2, h3, h4, h5, h6⟩ := h
  refine ⟨h1.ast (Or.inr rfl), h2, h3, h4, h5, fun p hp => ?_⟩
  rw [cRi_ast]
  by_cases c : p = i
  · rw [if_pos ⟨rfl, c⟩]
  · rw [if_neg (fun z => c z.2)]
    exact h6 p (by omega)
theorem R0_hour {W9 : xWd} {d : Nat → Nat → Nat} {S S2 : cS} {M : mS} (h : R0 W9 d S M) (hd : dInj d) (hi : iAll M) (hh : ∃ n, M.1 1 = nI n ∧ n < 5000) (hq : hQ d S M 8 S2) : R0 W9 d S2 (mH0 M) := by
  obtain ⟨hch, h807, h808, ho, hr, hz⟩ := hq
  have hX : ∀ (k i : Nat), k ≠ 9 → ¬ (d k i = d 9 0 ∨ d k i = d 9 1) := fun k i a z => z.elim (fun y => a (hd _ _ _ _ y).1) (fun y => a (hd _ _ _ _ y).1)
  obtain ⟨h1, h2, h3, h4, h5, h6, h7, h8, h9, h10, h11⟩ := h
  refine ⟨h1.mono (fun s z => hch.sm (hX _ _ (by omega))) rfl rfl rfl rfl rfl rfl rfl rfl rfl rfl rfl rfl, h2.mono (fun s z => hch.sm (hX _ _ (by omega))) rfl, h3.mono (fun s z => hch.sm (hX _ _ (by omega))) rfl rfl, h4.mono (fun s z => hch.sm (hX _ _ (by omega))) rfl rfl rfl rfl rfl rfl rfl, h5.mono (fun s z => hch.sm (hX _ _ (by omega))) rfl rfl rfl rfl rfl rfl rfl rfl rfl rfl rfl rfl rfl, h6.mono (fun s z => hch.sm (hX _ _ (by omega))) rfl rfl rfl rfl rfl rfl rfl rfl rfl rfl rfl rfl, h7.mono (fun s z => hch.sm (hX _ _ (by omega))) rfl rfl, h8.mono (fun s z => hch.sm (hX _ _ (by omega))) rfl rfl, ?_, ?_, h11.mono (fun k i z hc => hch.lst (hX _ _ (by rcases z with ⟨rfl, _⟩ | ⟨rfl, _⟩ | ⟨rfl, _⟩ <;> omega)) hc) rfl rfl rfl rfl rfl rfl rfl⟩
  · obtain ⟨a0, a1, a2, a3, a4, a5, a6, a7, a8⟩ := h9
    refine ⟨(hch.2.2.1 _).trans a0, by rw [hr]; exact a1, h807, h808, (ho _ (by omega) (by omega)).trans a4, (ho _ (by omega) (by omega)).trans a5, (ho _ (by omega) (by omega)).trans a6, (ho _ (by omega) (by omega)).trans a7, (ho _ (by omega) (by omega)).trans a8⟩
  · obtain ⟨a0, a1, a2⟩ := h10
    refine ⟨(hch.2.2.1 _).trans a0, (hch.2.2.2 _).trans a1, fun p hp => ?_⟩
    rw [hz p hp]
    unfold mInH
    rw [if_neg]
    rw [ix_nI (by omega)]
    show ¬ M.2 20 p = M.1 1 + 1
    intro z
    have t3 := hi.2.2.2.2.2.2.2.2.2.2.2 p hp
    obtain ⟨n, e, hn⟩ := hh
    rw [z, e, nI1, Int32.le_iff_toInt_le, nI_toInt (by omega), nI_toInt (by omega)] at t3
    omega

def tbX7_beginHour : List (Nat × xHint) := [(0, .aload_n 0, 0, 0, 0, []), (1, .dup, 0, 0, 0, []), (2, .getfield 193, 8, 7, 0, []), (5, .iconst 1, 0, 0, 0, []), (6, .iadd, 0, 0, 0, []), (7, .putfield 193, 8, 7, 0, []), (10, .aload_n 0, 0, 0, 0, []), (11, .getfield 193, 8, 7, 0, []), (14, .bipush 24, 0, 0, 0, []), (16, .irem, 0, 0, 0, []), (17, .ifCond .ne 12, 29, 0, 0, []), (20, .aload_n 0, 0, 0, 0, []), (21, .aload_n 0, 0, 0, 0, []), (22, .iconst 1, 0, 0, 0, []), (23, .invokevirtual 290, 0, 2, 8, []), (26, .putfield 81, 8, 8, 0, []), (29, .iconst 0, 0, 0, 0, []), (30, .istore_n 1, 1, 0, 0, []), (31, .iload_n 1, 1, 0, 0, []), (32, .aload_n 0, 0, 0, 0, []), (33, .getfield 28, 8, 5, 2, []), (36, .arraylength, 0, 0, 0, []), (37, .if_icmp .ge 16, 53, 0, 0, []), (40, .aload_n 0, 0, 0, 0, []), (41, .getfield 28, 8, 5, 2, []), (44, .iload_n 1, 1, 0, 0, []), (45, .iconst 0, 0, 0, 0, []), (46, .iastore, 0, 0, 0, []), (47, .iinc 1 1, 1, 0, 0, []), (50, .goto (-19), 31, 0, 0, []), (53, .iconst 0, 0, 0, 0, []), (54, .istore_n 1, 1, 0, 0, []), (55, .iload_n 1, 1, 0, 0, []), (56, .aload_n 0, 0, 0, 0, []), (57, .getfield 25, 8, 4, 2, []), (60, .invokevirtual 108, 1, 1, 0, []), (63, .if_icmp .ge 23, 86, 0, 0, []), (66, .aload_n 0, 0, 0, 0, []), (67, .getfield 25, 8, 4, 2, []), (70, .iload_n 1, 1, 0, 0, []), (71, .invokevirtual 312, 2, 2, 0, []), (74, .checkcast 210, 2, 0, 0, []), (77, .invokevirtual 441, 3, 1, 2, []), (80, .iinc 1 1, 1, 0, 0, []), (83, .goto (-28), 55, 0, 0, []), (86, .return_, 0, 0, 0, [])]
def clX7_beginHour : List (Instr × Nat × Nat × Nat) := [(.invokevirtual 290, 0, 2, 8), (.invokevirtual 108, 1, 1, 0), (.invokevirtual 312, 2, 2, 0), (.invokevirtual 441, 3, 1, 2)]
def thX7_beginHour : List (Nat × Nat) := []
theorem ckX7_beginHour : tbX7_beginHour.all (xRow RX7 cX7_beginHour wsX7_beginHour vwCl [8] clX7_beginHour thX7_beginHour 2 (yX7_beginHour.name == "<init>") none) = true := xRow_q 0xb1e4ffa7010184b901b6d200c03801b61b1900b42a1700a26c00b61900b42a1b3c03edffa70101844f031b1c00b42a1000a2be1c00b42a1b3c035100b52201b6042a2a0c009a701810c100b42ac100b56004c100b4592a 87 (by decide +kernel) (by decide +kernel)
theorem usX7_beginHour : xUse wsX7_beginHour vwCl [8] = true := xUse_g rfl (lw_good lwl_X7_beginHour lwl_X70 (by decide +kernel)) xUse_n
theorem tbX7_beginHour_0 {k : Instr → Nat → Nat → Nat → List Nat → Prop} : xse (xFind tbX7_beginHour 0) k = k (.aload_n 0) 0 0 0 [] := rfl
theorem tbX7_beginHour_1 {k : Instr → Nat → Nat → Nat → List Nat → Prop} : xse (xFind tbX7_beginHour 1) k = k (.dup) 0 0 0 [] := rfl
theorem tbX7_beginHour_2 {k : Instr → Nat → Nat → Nat → List Nat → Prop} : xse (xFind tbX7_beginHour 2) k = k (.getfield 193) 8 7 0 [] := rfl
theorem tbX7_beginHour_5 {k : Instr → Nat → Nat → Nat → List Nat → Prop} : xse (xFind tbX7_beginHour 5) k = k (.iconst 1) 0 0 0 [] := rfl
theorem tbX7_beginHour_6 {k : Instr → Nat → Nat → Nat → List Nat → Prop} : xse (xFind tbX7_beginHour 6) k = k (.iadd) 0 0 0 [] := rfl
theorem tbX7_beginHour_7 {k : Instr → Nat → Nat → Nat → List Nat → Prop} : xse (xFind tbX7_beginHour 7) k = k (.putfield 193) 8 7 0 [] := rfl
theorem tbX7_beginHour_10 {k : Instr → Nat → Nat → Nat → List Nat → Prop} : xse (xFind tbX7_beginHour 10) k = k (.aload_n 0) 0 0 0 [] := rfl
theorem tbX7_beginHour_11 {k : Instr → Nat → Nat → Nat → List Nat → Prop} : xse (xFind tbX7_beginHour 11) k = k (.getfield 193) 8 7 0 [] := rfl
theorem tbX7_beginHour_14 {k : Instr → Nat → Nat → Nat → List Nat → Prop} : xse (xFind tbX7_beginHour 14) k = k (.bipush 24) 0 0 0 [] := rfl
theorem tbX7_beginHour_16 {k : Instr → Nat → Nat → Nat → List Nat → Prop} : xse (xFind tbX7_beginHour 16) k = k (.irem) 0 0 0 [] := rfl
theorem tbX7_beginHour_17 {k : Instr → Nat → Nat → Nat → List Nat → Prop} : xse (xFind tbX7_beginHour 17) k = k (.ifCond .ne 12) 29 0 0 [] := rfl
theorem tbX7_beginHour_20 {k : Instr → Nat → Nat → Nat → List Nat → Prop} : xse (xFind tbX7_beginHour 20) k = k (.aload_n 0) 0 0 0 [] := rfl
theorem tbX7_beginHour_21 {k : Instr → Nat → Nat → Nat → List Nat → Prop} : xse (xFind tbX7_beginHour 21) k = k (.aload_n 0) 0 0 0 [] := rfl
theorem tbX7_beginHour_22 {k : Instr → Nat → Nat → Nat → List Nat → Prop} : xse (xFind tbX7_beginHour 22) k = k (.iconst 1) 0 0 0 [] := rfl
theorem tbX7_beginHour_23 {k : Instr → Nat → Nat → Nat → List Nat → Prop} : xse (xFind tbX7_beginHour 23) k = k (.invokevirtual 290) 0 2 8 [] := rfl
theorem tbX7_beginHour_26 {k : Instr → Nat → Nat → Nat → List Nat → Prop} : xse (xFind tbX7_beginHour 26) k = k (.putfield 81) 8 8 0 [] := rfl
theorem tbX7_beginHour_29 {k : Instr → Nat → Nat → Nat → List Nat → Prop} : xse (xFind tbX7_beginHour 29) k = k (.iconst 0) 0 0 0 [] := rfl
theorem tbX7_beginHour_30 {k : Instr → Nat → Nat → Nat → List Nat → Prop} : xse (xFind tbX7_beginHour 30) k = k (.istore_n 1) 1 0 0 [] := rfl
theorem tbX7_beginHour_31 {k : Instr → Nat → Nat → Nat → List Nat → Prop} : xse (xFind tbX7_beginHour 31) k = k (.iload_n 1) 1 0 0 [] := rfl
theorem tbX7_beginHour_32 {k : Instr → Nat → Nat → Nat → List Nat → Prop} : xse (xFind tbX7_beginHour 32) k = k (.aload_n 0) 0 0 0 [] := rfl
theorem tbX7_beginHour_33 {k : Instr → Nat → Nat → Nat → List Nat → Prop} : xse (xFind tbX7_beginHour 33) k = k (.getfield 28) 8 5 2 [] := rfl
theorem tbX7_beginHour_36 {k : Instr → Nat → Nat → Nat → List Nat → Prop} : xse (xFind tbX7_beginHour 36) k = k (.arraylength) 0 0 0 [] := rfl
theorem tbX7_beginHour_37 {k : Instr → Nat → Nat → Nat → List Nat → Prop} : xse (xFind tbX7_beginHour 37) k = k (.if_icmp .ge 16) 53 0 0 [] := rfl
theorem tbX7_beginHour_40 {k : Instr → Nat → Nat → Nat → List Nat → Prop} : xse (xFind tbX7_beginHour 40) k = k (.aload_n 0) 0 0 0 [] := rfl
theorem tbX7_beginHour_41 {k : Instr → Nat → Nat → Nat → List Nat → Prop} : xse (xFind tbX7_beginHour 41) k = k (.getfield 28) 8 5 2 [] := rfl
theorem tbX7_beginHour_44 {k : Instr → Nat → Nat → Nat → List Nat → Prop} : xse (xFind tbX7_beginHour 44) k = k (.iload_n 1) 1 0 0 [] := rfl
theorem tbX7_beginHour_45 {k : Instr → Nat → Nat → Nat → List Nat → Prop} : xse (xFind tbX7_beginHour 45) k = k (.iconst 0) 0 0 0 [] := rfl
theorem tbX7_beginHour_46 {k : Instr → Nat → Nat → Nat → List Nat → Prop} : xse (xFind tbX7_beginHour 46) k = k (.iastore) 0 0 0 [] := rfl
theorem tbX7_beginHour_47 {k : Instr → Nat → Nat → Nat → List Nat → Prop} : xse (xFind tbX7_beginHour 47) k = k (.iinc 1 1) 1 0 0 [] := rfl
theorem tbX7_beginHour_50 {k : Instr → Nat → Nat → Nat → List Nat → Prop} : xse (xFind tbX7_beginHour 50) k = k (.goto (-19)) 31 0 0 [] := rfl
theorem tbX7_beginHour_53 {k : Instr → Nat → Nat → Nat → List Nat → Prop} : xse (xFind tbX7_beginHour 53) k = k (.iconst 0) 0 0 0 [] := rfl
theorem tbX7_beginHour_54 {k : Instr → Nat → Nat → Nat → List Nat → Prop} : xse (xFind tbX7_beginHour 54) k = k (.istore_n 1) 1 0 0 [] := rfl
theorem tbX7_beginHour_55 {k : Instr → Nat → Nat → Nat → List Nat → Prop} : xse (xFind tbX7_beginHour 55) k = k (.iload_n 1) 1 0 0 [] := rfl
theorem tbX7_beginHour_56 {k : Instr → Nat → Nat → Nat → List Nat → Prop} : xse (xFind tbX7_beginHour 56) k = k (.aload_n 0) 0 0 0 [] := rfl
theorem tbX7_beginHour_57 {k : Instr → Nat → Nat → Nat → List Nat → Prop} : xse (xFind tbX7_beginHour 57) k = k (.getfield 25) 8 4 2 [] := rfl
theorem tbX7_beginHour_60 {k : Instr → Nat → Nat → Nat → List Nat → Prop} : xse (xFind tbX7_beginHour 60) k = k (.invokevirtual 108) 1 1 0 [] := rfl
theorem tbX7_beginHour_63 {k : Instr → Nat → Nat → Nat → List Nat → Prop} : xse (xFind tbX7_beginHour 63) k = k (.if_icmp .ge 23) 86 0 0 [] := rfl
theorem tbX7_beginHour_66 {k : Instr → Nat → Nat → Nat → List Nat → Prop} : xse (xFind tbX7_beginHour 66) k = k (.aload_n 0) 0 0 0 [] := rfl
theorem tbX7_beginHour_67 {k : Instr → Nat → Nat → Nat → List Nat → Prop} : xse (xFind tbX7_beginHour 67) k = k (.getfield 25) 8 4 2 [] := rfl
theorem tbX7_beginHour_70 {k : Instr → Nat → Nat → Nat → List Nat → Prop} : xse (xFind tbX7_beginHour 70) k = k (.iload_n 1) 1 0 0 [] := rfl
theorem tbX7_beginHour_71 {k : Instr → Nat → Nat → Nat → List Nat → Prop} : xse (xFind tbX7_beginHour 71) k = k (.invokevirtual 312) 2 2 0 [] := rfl
theorem tbX7_beginHour_74 {k : Instr → Nat → Nat → Nat → List Nat → Prop} : xse (xFind tbX7_beginHour 74) k = k (.checkcast 210) 2 0 0 [] := rfl
theorem tbX7_beginHour_77 {k : Instr → Nat → Nat → Nat → List Nat → Prop} : xse (xFind tbX7_beginHour 77) k = k (.invokevirtual 441) 3 1 2 [] := rfl
theorem tbX7_beginHour_80 {k : Instr → Nat → Nat → Nat → List Nat → Prop} : xse (xFind tbX7_beginHour 80) k = k (.iinc 1 1) 1 0 0 [] := rfl
theorem tbX7_beginHour_83 {k : Instr → Nat → Nat → Nat → List Nat → Prop} : xse (xFind tbX7_beginHour 83) k = k (.goto (-28)) 55 0 0 [] := rfl
theorem tbX7_beginHour_86 {k : Instr → Nat → Nat → Nat → List Nat → Prop} : xse (xFind tbX7_beginHour 86) k = k (.return_) 0 0 0 [] := rfl

def spX7_beginHour (W9 : xWd) : xSp cS := (fun av S => (0, 0), fun av S K => ∃ (a : Nat), av = [.ref a] ∧ (∃ (B : Nat) (M : mS), RR W9 B a S M ∧ (∃ n, M.1 1 = nI n ∧ n < 5000) ∧ ∀ S2, RR W9 B a S2 (mH1 (mH0 M) (nBt M)) → K rV S2))
theorem spcX7_beginHour {av : List Value} {S : cS} {W9 : xWd} : (spX7_beginHour W9).1 av S = (0, 0) := rfl
theorem spwX7_beginHour {S : cS} {W9 : xWd} {K : xRes → cS → Prop} {a : Nat} : (spX7_beginHour W9).2 [.ref a] S K = (∃ (B : Nat) (M : mS), RR W9 B a S M ∧ (∃ n, M.1 1 = nI n ∧ n < 5000) ∧ ∀ S2, RR W9 B a S2 (mH1 (mH0 M) (nBt M)) → K rV S2) :=
  propext ⟨fun h => by
    simp only [spX7_beginHour] at h
    obtain ⟨_, e, h⟩ := h
    simp only [List.cons.injEq, Value.int.injEq, Value.ref.injEq, rf_eq, and_true, true_and] at e
    obtain rfl := e
    exact h, fun h => ⟨_, rfl, h⟩⟩

def callX7_beginHour (W9 : xWd) : Nat → Option (xSp cS) := fun n => match n with | 0 => some (spX7_stageIn W9) | 1 => some (spJx4a65c_size_8abf5 W9) | 2 => some (spJx4a65c_get_915e3 W9) | 3 => some (spX1_beginHour W9) | _ => none

theorem callX7_beginHour_0 {W9 : xWd} {k : xSp cS → Prop} : xcs (callX7_beginHour W9 0) k = k (spX7_stageIn W9) := rfl

theorem callX7_beginHour_1 {W9 : xWd} {k : xSp cS → Prop} : xcs (callX7_beginHour W9 1) k = k (spJx4a65c_size_8abf5 W9) := rfl

theorem callX7_beginHour_2 {W9 : xWd} {k : xSp cS → Prop} : xcs (callX7_beginHour W9 2) k = k (spJx4a65c_get_915e3 W9) := rfl

theorem callX7_beginHour_3 {W9 : xWd} {k : xSp cS → Prop} : xcs (callX7_beginHour W9 3) k = k (spX1_beginHour W9) := rfl

theorem crX7_beginHour (l : Launch) (hl : l.stackTraces = false) (W9 : xWd) : xCallsOK l W9 (cI) (callX7_beginHour W9) clX7_beginHour RX7 wsX7_beginHour 3 64 2 := by
  intro E A p e R s m args below meth c hI hF hL X
  exact List.forall_mem_cons.mpr ⟨⟨_, rfl, xCR_V X (by rw [hI]; exact (semX7_stageIn l hl W9)) gX7_beginHour_X7_stageIn rfl rfl (by decide +kernel) (by rw [hF, hL]; decide)⟩,
    List.forall_mem_cons.mpr ⟨⟨_, rfl, xCR_V X (by rw [hI]; exact (semJx4a65c_size_8abf5 l hl W9)) gX7_beginHour_Jx4a65c_size_8abf5 rfl rfl (by decide +kernel) (by rw [hF, hL]; decide)⟩,
    List.forall_mem_cons.mpr ⟨⟨_, rfl, xCR_V X (by rw [hI]; exact (semJx4a65c_get_915e3 l hl W9)) gX7_beginHour_Jx4a65c_get_915e3 rfl rfl (by decide +kernel) (by rw [hF, hL]; decide)⟩,
    List.forall_mem_cons.mpr ⟨⟨_, rfl, xCR_V X (by rw [hI]; exact (semX1_beginHour l hl W9)) gX7_beginHour_X1_beginHour rfl rfl (by decide +kernel) (by rw [hF, hL]; decide)⟩,
    fun _ h => nomatch h⟩⟩⟩⟩

set_option maxHeartbeats 1200000 in
set_option maxRecDepth 20000 in
theorem semX7_beginHour (l : Launch) (hl : l.stackTraces = false) (W9 : xWd) : xSem l W9 (cI) yX7_beginHour wsX7_beginHour 3 64 (spX7_beginHour W9) := by
  refine xSem_of (call := callX7_beginHour W9) (thrf := fun _ => "") cI_law (by decide +kernel) rfl ckX7_beginHour usX7_beginHour (crX7_beginHour l hl W9) xThrOK_nil ?_ ?_
  · intro av S KF h
    obtain ⟨a, rfl, h⟩ := h
    exact ⟨by intro v hv; simp only [List.mem_cons, List.not_mem_nil, or_false] at hv; rcases hv with rfl <;> first | rfl | exact cat_rf, Nat.le_of_ble_eq_true rfl⟩
  intro av S KF h G hG
  obtain ⟨a, rfl, h⟩ := h
  rw [show (spX7_beginHour W9).1 _ S = _ from spcX7_beginHour] at hG
  try dsimp only at hG
  change G 0 [some (.ref a), none] [] S 0 0
  obtain ⟨B, M, ⟨d, np, N, hRR⟩, hh, hk⟩ := h
  have hRR2 := hRR
  obtain ⟨hd, rfl, hi, hR, hp, hl, hN, hB8⟩ := hRR2
  have hb : nBt M ≤ 6 := hi.1.1.2
  have nA : ∀ j, nBt (mH1 (mH0 M) j) = nBt M := fun j => (nBt_eq (by rw [mH1_1])).trans (nBt_eq (mH0_29 M))
  have hXx : ∀ (k i : Nat), k ≠ 4 → k ≠ 9 → ¬ (d k i = d 9 0 ∨ d k i = d 9 1) := fun k i b a z => z.elim (fun y => a (hd _ _ _ _ y).1) (fun y => a (hd _ _ _ _ y).1)
  obtain ⟨a0, ⟨-, -, -, -, -, a805, -⟩, a807, a808, a809, -⟩ := hR.2.2.2.2.2.2.2.2.1
  obtain ⟨r0, r1, -⟩ := hR.2.2.2.2.2.2.2.2.2.1
  have l2 := xloop hG 55 [true, true] (fun j lv st S2 cs ss => lv = [some (.ref (d 9 0)), some (.int (nI j))] ∧ st = [] ∧ RRd W9 B (d 9 0) d S2 (mH1 (mH0 M) j) np N ∧ cs = 0 ∧ ss = 0) (nBt M) (by
      rintro j hj lv st S2 cs ss ⟨rfl, rfl, hRR, rfl, rfl⟩ fu hfu
      have hRR2 := hRR
      obtain ⟨-, -, hi, hR, -⟩ := hRR2
      have hj2 : j < nBt (mH1 (mH0 M) j) := by rw [nA]; exact hj
      obtain ⟨f1, f2, f3, f4, f5⟩ := R0_L4 hR
      rw [nA] at f4 f5
      obtain ⟨q1, q2⟩ := f5 j hj
      have g0 := hR.2.2.2.2.2.2.2.2.1.1
      have e0 := ge_nI hj (show nBt M < 1000 by omega)
      have e2 := lt0_nI hj (show nBt M < 1000 by omega)
      have hR3 := R0_work hd hR hj2 rfl
      obtain ⟨y1, y2⟩ := iAll_ast (k := 39) (x := if (mH1 (mH0 M) j).2 31 j < (mH1 (mH0 M) j).2 39 j then (mH1 (mH0 M) j).2 39 j - (mH1 (mH0 M) j).2 31 j else 0) hi hj2 (by omega)
      obtain ⟨y3, y4⟩ := iAll_ast (k := 43) (x := 0) y1 hj2 (by omega)
      have hch : chg S2 (cSetI (cSetI S2 (d 4 j) 205 (cFi S2 (d 4 j) 205 - (if cFi S2 (d 4 j) 202 < cFi S2 (d 4 j) 205 then cFi S2 (d 4 j) 202 else cFi S2 (d 4 j) 205))) (d 4 j) 213 0) (fun b => b = d 4 j) := chg.sI (X := fun b => b = d 4 j) (chg.sI (X := fun b => b = d 4 j) chg.rf rfl) rfl
      have hX : ∀ (k i : Nat), k ≠ 4 → ¬ (d k i = d 4 j) := fun k i a z => a (hd _ _ _ _ z).1
      have hE := (RRd_step hRR hR3 y3 (y4.trans y2) hch (hX 9 2 (by omega)) (fun i => hX 11 i (by omega)) (fun i => hX 12 i (by omega)) rfl rfl (by rw [mAst_ne (by omega), mAst_ne (by omega)]) (by rw [mAst_ne (by omega), mAst_ne (by omega)]) (by rw [mAst_ne (by omega), mAst_ne (by omega)]) (by rw [mAst_ne (by omega), mAst_ne (by omega)])).1
      simp only [↓calen, ↓callX7_beginHour_0, ↓callX7_beginHour_1, ↓callX7_beginHour_2, ↓callX7_beginHour_3, ↓cast_0, ↓cg_8_4, ↓cg_8_5, ↓cg_8_7, cisa, ↓cp_8_7, ↓cp_8_8, kb_24, kc_24, ki_0, ki_1, ↓vm_aload_n, ↓vm_arraylength, ↓vm_bipush, ↓vm_checkcast, ↓vm_dup, ↓vm_getfield, ↓vm_goto, ↓vm_iadd, ↓vm_iastore, ↓vm_iconst, ↓vm_ifCond_ne, ↓vm_if_icmp_ge, ↓vm_iinc, ↓vm_iload_n, ↓vm_invokevirtual, ↓vm_irem, ↓vm_istore_n, ↓vm_putfield, ↓vm_return_, ↓xc_1, ↓xc_2, ↓tbX7_beginHour_0, ↓tbX7_beginHour_1, ↓tbX7_beginHour_2, ↓tbX7_beginHour_5, ↓tbX7_beginHour_6, ↓tbX7_beginHour_7, ↓tbX7_beginHour_10, ↓tbX7_beginHour_11, ↓tbX7_beginHour_14, ↓tbX7_beginHour_16, ↓tbX7_beginHour_17, ↓tbX7_beginHour_20, ↓tbX7_beginHour_21, ↓tbX7_beginHour_22, ↓tbX7_beginHour_23, ↓tbX7_beginHour_26, ↓tbX7_beginHour_29, ↓tbX7_beginHour_30, ↓tbX7_beginHour_31, ↓tbX7_beginHour_32, ↓tbX7_beginHour_33, ↓tbX7_beginHour_36, ↓tbX7_beginHour_37, ↓tbX7_beginHour_40, ↓tbX7_beginHour_41, ↓tbX7_beginHour_44, ↓tbX7_beginHour_45, ↓tbX7_beginHour_46, ↓tbX7_beginHour_47, ↓tbX7_beginHour_50, ↓tbX7_beginHour_53, ↓tbX7_beginHour_54, ↓tbX7_beginHour_55, ↓tbX7_beginHour_56, ↓tbX7_beginHour_57, ↓tbX7_beginHour_60, ↓tbX7_beginHour_63, ↓tbX7_beginHour_66, ↓tbX7_beginHour_67, ↓tbX7_beginHour_70, ↓tbX7_beginHour_71, ↓tbX7_beginHour_74, ↓tbX7_beginHour_77, ↓tbX7_beginHour_80, ↓tbX7_beginHour_83, ↓tbX7_beginHour_86, hfu, xstep0, xJ1_hit, xJ1_go, xJ2_hit1, xJ2_hit2, xJ2_go, ↓xif_t, ↓xif_f, seval, ↓xca_eq, ↓xre_l, ↓xre_r, xmask_t, xmask_f, xmask_nil, ↓xst_eq, xX_eq, eI_eq, eMc_eq, eMs_eq, eF_eq, eThr_eq, ↓xS1_mk, ↓xSI_mk, ↓xSR_mk, ↓xLI_0, ↓xLI_s, ↓xLR_0, ↓xLR_s, vRef_ref, vRef_null, vRef_rf, cat_int, cat_ref, cat_null, cat_rf, rf_some, rf_none, rf_null, rf_eq, rf_ref, ref_rf, ref_null, ref_ref, xOk_0, xOk_1, xOk_2r, xOk_2n, xOk_2f, vOpt_rf, vOpt_ref, vOpt_null, List.set_cons_zero, List.set_cons_succ, List.take_succ_cons, List.take_zero, List.drop_succ_cons, List.drop_zero, List.reverse_cons, List.reverse_nil, List.nil_append, List.cons_append, List.append_nil, List.length_cons, List.length_nil, List.map_cons, List.map_nil, List.sum_cons, List.sum_nil, Option.toList_some, Option.toList_none, xRecv_mk, true_and, and_true, true_implies, Nat.reduceAdd, Nat.reduceLeDiff, Nat.zero_le, Nat.le_refl, Nat.add_zero, Nat.zero_add, reduceIte, not_true_eq_false, not_false_eq_true, false_implies, and_self, implies_true, eq_self, Nat.reduceEqDiff, List.cons.injEq, xsn_1, xsn_2, false_and, and_false, or_false, false_or, or_true, true_or, xsn_3, xsn_4, cK_setI, cFr_setI, ↓spwX7_stageIn, spcX7_stageIn, ↓spwJx4a65c_size_8abf5, spcJx4a65c_size_8abf5, ↓spwJx4a65c_get_915e3, spcJx4a65c_get_915e3, ↓spwX1_beginHour, spcX1_beginHour, g0, f1, f2, f3, f4, q1, q2, e0, pos_nI (show j < 1000 by omega), e2, ix_nI (show j < 1000 by omega), nI1]
      try simp only [xif_e]
      exact hE) (by
      rintro lv st S2 cs ss ⟨rfl, rfl, hRR, rfl, rfl⟩ fu hfu
      have hk2 := hk S2 ⟨d, np, N, hRR⟩
      obtain ⟨-, -, hi, hR, -⟩ := hRR
      obtain ⟨f1, f2, f3, f4, -⟩ := R0_L4 hR
      rw [nA] at f4
      have g0 := hR.2.2.2.2.2.2.2.2.1.1
      simp only [↓calen, ↓callX7_beginHour_0, ↓callX7_beginHour_1, ↓callX7_beginHour_2, ↓callX7_beginHour_3, ↓cast_0, ↓cg_8_4, ↓cg_8_5, ↓cg_8_7, cisa, ↓cp_8_7, ↓cp_8_8, kb_24, kc_24, ki_0, ki_1, ↓vm_aload_n, ↓vm_arraylength, ↓vm_bipush, ↓vm_checkcast, ↓vm_dup, ↓vm_getfield, ↓vm_goto, ↓vm_iadd, ↓vm_iastore, ↓vm_iconst, ↓vm_ifCond_ne, ↓vm_if_icmp_ge, ↓vm_iinc, ↓vm_iload_n, ↓vm_invokevirtual, ↓vm_irem, ↓vm_istore_n, ↓vm_putfield, ↓vm_return_, ↓xc_1, ↓xc_2, ↓tbX7_beginHour_0, ↓tbX7_beginHour_1, ↓tbX7_beginHour_2, ↓tbX7_beginHour_5, ↓tbX7_beginHour_6, ↓tbX7_beginHour_7, ↓tbX7_beginHour_10, ↓tbX7_beginHour_11, ↓tbX7_beginHour_14, ↓tbX7_beginHour_16, ↓tbX7_beginHour_17, ↓tbX7_beginHour_20, ↓tbX7_beginHour_21, ↓tbX7_beginHour_22, ↓tbX7_beginHour_23, ↓tbX7_beginHour_26, ↓tbX7_beginHour_29, ↓tbX7_beginHour_30, ↓tbX7_beginHour_31, ↓tbX7_beginHour_32, ↓tbX7_beginHour_33, ↓tbX7_beginHour_36, ↓tbX7_beginHour_37, ↓tbX7_beginHour_40, ↓tbX7_beginHour_41, ↓tbX7_beginHour_44, ↓tbX7_beginHour_45, ↓tbX7_beginHour_46, ↓tbX7_beginHour_47, ↓tbX7_beginHour_50, ↓tbX7_beginHour_53, ↓tbX7_beginHour_54, ↓tbX7_beginHour_55, ↓tbX7_beginHour_56, ↓tbX7_beginHour_57, ↓tbX7_beginHour_60, ↓tbX7_beginHour_63, ↓tbX7_beginHour_66, ↓tbX7_beginHour_67, ↓tbX7_beginHour_70, ↓tbX7_beginHour_71, ↓tbX7_beginHour_74, ↓tbX7_beginHour_77, ↓tbX7_beginHour_80, ↓tbX7_beginHour_83, ↓tbX7_beginHour_86, hfu, xstep0, xJ1_hit, xJ1_go, xJ2_hit1, xJ2_hit2, xJ2_go, ↓xif_t, ↓xif_f, seval, ↓xca_eq, ↓xre_l, ↓xre_r, xmask_t, xmask_f, xmask_nil, ↓xst_eq, xX_eq, eI_eq, eMc_eq, eMs_eq, eF_eq, eThr_eq, ↓xS1_mk, ↓xSI_mk, ↓xSR_mk, ↓xLI_0, ↓xLI_s, ↓xLR_0, ↓xLR_s, vRef_ref, vRef_null, vRef_rf, cat_int, cat_ref, cat_null, cat_rf, rf_some, rf_none, rf_null, rf_eq, rf_ref, ref_rf, ref_null, ref_ref, xOk_0, xOk_1, xOk_2r, xOk_2n, xOk_2f, vOpt_rf, vOpt_ref, vOpt_null, List.set_cons_zero, List.set_cons_succ, List.take_succ_cons, List.take_zero, List.drop_succ_cons, List.drop_zero, List.reverse_cons, List.reverse_nil, List.nil_append, List.cons_append, List.append_nil, List.length_cons, List.length_nil, List.map_cons, List.map_nil, List.sum_cons, List.sum_nil, Option.toList_some, Option.toList_none, xRecv_mk, true_and, and_true, true_implies, Nat.reduceAdd, Nat.reduceLeDiff, Nat.zero_le, Nat.le_refl, Nat.add_zero, Nat.zero_add, reduceIte, not_true_eq_false, not_false_eq_true, false_implies, and_self, implies_true, eq_self, Nat.reduceEqDiff, List.cons.injEq, xsn_1, xsn_2, false_and, and_false, or_false, false_or, or_true, true_or, xsn_3, xsn_4, cK_setI, cFr_setI, ↓spwX7_stageIn, spcX7_stageIn, ↓spwJx4a65c_size_8abf5, spcJx4a65c_size_8abf5, ↓spwJx4a65c_get_915e3, spcJx4a65c_get_915e3, ↓spwX1_beginHour, spcX1_beginHour, g0, f1, f2, f3, f4, le_nI_self]
      try simp only [xif_e]
      exact hk2)
  have l1 := xloop2 hG 31 [true, true] (fun j lv st S2 cs ss => lv = [some (.ref (d 9 0)), some (.int (nI j))] ∧ st = [] ∧ hQ d S M j S2 ∧ cs = 0 ∧ ss = 0) 8 55 [true, true] _ (l2 0 (Nat.zero_le _)) (by
      rintro j hj lv st S2 cs ss ⟨rfl, rfl, hq, rfl, rfl⟩ fu hfu
      have g0 := (hq.1.2.2.1 _).trans a0
      have g5 : cFr S2 (d 9 0) 805 = some (d 9 1) := by rw [hq.2.2.2.2.1]; exact a805
      have g1 := (hq.1.2.2.1 _).trans r0
      have g2 := (hq.1.2.2.2 _).trans r1
      have e0 := ge_nI hj (show 8 < 1000 by omega)
      have e8 : (8 : Int32) ≤ nI j ↔ False := by rw [show (8 : Int32) = nI 8 from rfl, e0]
      have e8 := propext e8
      have hE := hq.step hd
      simp only [↓calen, ↓callX7_beginHour_0, ↓callX7_beginHour_1, ↓callX7_beginHour_2, ↓callX7_beginHour_3, ↓cast_0, ↓cg_8_4, ↓cg_8_5, ↓cg_8_7, cisa, ↓cp_8_7, ↓cp_8_8, kb_24, kc_24, ki_0, ki_1, ↓vm_aload_n, ↓vm_arraylength, ↓vm_bipush, ↓vm_checkcast, ↓vm_dup, ↓vm_getfield, ↓vm_goto, ↓vm_iadd, ↓vm_iastore, ↓vm_iconst, ↓vm_ifCond_ne, ↓vm_if_icmp_ge, ↓vm_iinc, ↓vm_iload_n, ↓vm_invokevirtual, ↓vm_irem, ↓vm_istore_n, ↓vm_putfield, ↓vm_return_, ↓xc_1, ↓xc_2, ↓tbX7_beginHour_0, ↓tbX7_beginHour_1, ↓tbX7_beginHour_2, ↓tbX7_beginHour_5, ↓tbX7_beginHour_6, ↓tbX7_beginHour_7, ↓tbX7_beginHour_10, ↓tbX7_beginHour_11, ↓tbX7_beginHour_14, ↓tbX7_beginHour_16, ↓tbX7_beginHour_17, ↓tbX7_beginHour_20, ↓tbX7_beginHour_21, ↓tbX7_beginHour_22, ↓tbX7_beginHour_23, ↓tbX7_beginHour_26, ↓tbX7_beginHour_29, ↓tbX7_beginHour_30, ↓tbX7_beginHour_31, ↓tbX7_beginHour_32, ↓tbX7_beginHour_33, ↓tbX7_beginHour_36, ↓tbX7_beginHour_37, ↓tbX7_beginHour_40, ↓tbX7_beginHour_41, ↓tbX7_beginHour_44, ↓tbX7_beginHour_45, ↓tbX7_beginHour_46, ↓tbX7_beginHour_47, ↓tbX7_beginHour_50, ↓tbX7_beginHour_53, ↓tbX7_beginHour_54, ↓tbX7_beginHour_55, ↓tbX7_beginHour_56, ↓tbX7_beginHour_57, ↓tbX7_beginHour_60, ↓tbX7_beginHour_63, ↓tbX7_beginHour_66, ↓tbX7_beginHour_67, ↓tbX7_beginHour_70, ↓tbX7_beginHour_71, ↓tbX7_beginHour_74, ↓tbX7_beginHour_77, ↓tbX7_beginHour_80, ↓tbX7_beginHour_83, ↓tbX7_beginHour_86, hfu, xstep0, xJ1_hit, xJ1_go, xJ2_hit1, xJ2_hit2, xJ2_go, ↓xif_t, ↓xif_f, seval, ↓xca_eq, ↓xre_l, ↓xre_r, xmask_t, xmask_f, xmask_nil, ↓xst_eq, xX_eq, eI_eq, eMc_eq, eMs_eq, eF_eq, eThr_eq, ↓xS1_mk, ↓xSI_mk, ↓xSR_mk, ↓xLI_0, ↓xLI_s, ↓xLR_0, ↓xLR_s, vRef_ref, vRef_null, vRef_rf, cat_int, cat_ref, cat_null, cat_rf, rf_some, rf_none, rf_null, rf_eq, rf_ref, ref_rf, ref_null, ref_ref, xOk_0, xOk_1, xOk_2r, xOk_2n, xOk_2f, vOpt_rf, vOpt_ref, vOpt_null, List.set_cons_zero, List.set_cons_succ, List.take_succ_cons, List.take_zero, List.drop_succ_cons, List.drop_zero, List.reverse_cons, List.reverse_nil, List.nil_append, List.cons_append, List.append_nil, List.length_cons, List.length_nil, List.map_cons, List.map_nil, List.sum_cons, List.sum_nil, Option.toList_some, Option.toList_none, xRecv_mk, true_and, and_true, true_implies, Nat.reduceAdd, Nat.reduceLeDiff, Nat.zero_le, Nat.le_refl, Nat.add_zero, Nat.zero_add, reduceIte, not_true_eq_false, not_false_eq_true, false_implies, and_self, implies_true, eq_self, Nat.reduceEqDiff, List.cons.injEq, xsn_1, xsn_2, false_and, and_false, or_false, false_or, or_true, true_or, xsn_3, xsn_4, cK_setI, cFr_setI, ↓spwX7_stageIn, spcX7_stageIn, ↓spwJx4a65c_size_8abf5, spcJx4a65c_size_8abf5, ↓spwJx4a65c_get_915e3, spcJx4a65c_get_915e3, ↓spwX1_beginHour, spcX1_beginHour, g0, g5, g1, g2, e0, e8, xin_nI hj (show 8 ≤ 1000 by omega), ix_nI (show j < 1000 by omega), nI1]
      try simp only [xif_e]
      exact hE) (by
      rintro lv st S2 cs ss ⟨rfl, rfl, hq, rfl, rfl⟩ fu hfu
      have g0 := (hq.1.2.2.1 _).trans a0
      have g5 : cFr S2 (d 9 0) 805 = some (d 9 1) := by rw [hq.2.2.2.2.1]; exact a805
      have g1 := (hq.1.2.2.1 _).trans r0
      have g2 := (hq.1.2.2.2 _).trans r1
      have hX : ∀ (k i : Nat), k ≠ 9 → ¬ (d k i = d 9 0 ∨ d k i = d 9 1) := fun k i a z => z.elim (fun y => a (hd _ _ _ _ y).1) (fun y => a (hd _ _ _ _ y).1)
      have hE := (RRd_step hRR (R0_hour hR hd hi hh hq) (iAll_h0 hi hh) (ways_same2 rfl (fun _ _ => rfl)) hq.1 (fun z => z.elim (fun y => by have := (hd _ _ _ _ y).2; omega) (fun y => by have := (hd _ _ _ _ y).2; omega)) (fun i => hX 11 i (by omega)) (fun i => hX 12 i (by omega)) rfl rfl rfl rfl rfl rfl).1
      have e8 : ((8 : Int32) ≤ nI 8) = True := eq_true (Int32.le_refl _)
      simp only [↓calen, ↓callX7_beginHour_0, ↓callX7_beginHour_1, ↓callX7_beginHour_2, ↓callX7_beginHour_3, ↓cast_0, ↓cg_8_4, ↓cg_8_5, ↓cg_8_7, cisa, ↓cp_8_7, ↓cp_8_8, kb_24, kc_24, ki_0, ki_1, ↓vm_aload_n, ↓vm_arraylength, ↓vm_bipush, ↓vm_checkcast, ↓vm_dup, ↓vm_getfield, ↓vm_goto, ↓vm_iadd, ↓vm_iastore, ↓vm_iconst, ↓vm_ifCond_ne, ↓vm_if_icmp_ge, ↓vm_iinc, ↓vm_iload_n, ↓vm_invokevirtual, ↓vm_irem, ↓vm_istore_n, ↓vm_putfield, ↓vm_return_, ↓xc_1, ↓xc_2, ↓tbX7_beginHour_0, ↓tbX7_beginHour_1, ↓tbX7_beginHour_2, ↓tbX7_beginHour_5, ↓tbX7_beginHour_6, ↓tbX7_beginHour_7, ↓tbX7_beginHour_10, ↓tbX7_beginHour_11, ↓tbX7_beginHour_14, ↓tbX7_beginHour_16, ↓tbX7_beginHour_17, ↓tbX7_beginHour_20, ↓tbX7_beginHour_21, ↓tbX7_beginHour_22, ↓tbX7_beginHour_23, ↓tbX7_beginHour_26, ↓tbX7_beginHour_29, ↓tbX7_beginHour_30, ↓tbX7_beginHour_31, ↓tbX7_beginHour_32, ↓tbX7_beginHour_33, ↓tbX7_beginHour_36, ↓tbX7_beginHour_37, ↓tbX7_beginHour_40, ↓tbX7_beginHour_41, ↓tbX7_beginHour_44, ↓tbX7_beginHour_45, ↓tbX7_beginHour_46, ↓tbX7_beginHour_47, ↓tbX7_beginHour_50, ↓tbX7_beginHour_53, ↓tbX7_beginHour_54, ↓tbX7_beginHour_55, ↓tbX7_beginHour_56, ↓tbX7_beginHour_57, ↓tbX7_beginHour_60, ↓tbX7_beginHour_63, ↓tbX7_beginHour_66, ↓tbX7_beginHour_67, ↓tbX7_beginHour_70, ↓tbX7_beginHour_71, ↓tbX7_beginHour_74, ↓tbX7_beginHour_77, ↓tbX7_beginHour_80, ↓tbX7_beginHour_83, ↓tbX7_beginHour_86, hfu, xstep0, xJ1_hit, xJ1_go, xJ2_hit1, xJ2_hit2, xJ2_go, ↓xif_t, ↓xif_f, seval, ↓xca_eq, ↓xre_l, ↓xre_r, xmask_t, xmask_f, xmask_nil, ↓xst_eq, xX_eq, eI_eq, eMc_eq, eMs_eq, eF_eq, eThr_eq, ↓xS1_mk, ↓xSI_mk, ↓xSR_mk, ↓xLI_0, ↓xLI_s, ↓xLR_0, ↓xLR_s, vRef_ref, vRef_null, vRef_rf, cat_int, cat_ref, cat_null, cat_rf, rf_some, rf_none, rf_null, rf_eq, rf_ref, ref_rf, ref_null, ref_ref, xOk_0, xOk_1, xOk_2r, xOk_2n, xOk_2f, vOpt_rf, vOpt_ref, vOpt_null, List.set_cons_zero, List.set_cons_succ, List.take_succ_cons, List.take_zero, List.drop_succ_cons, List.drop_zero, List.reverse_cons, List.reverse_nil, List.nil_append, List.cons_append, List.append_nil, List.length_cons, List.length_nil, List.map_cons, List.map_nil, List.sum_cons, List.sum_nil, Option.toList_some, Option.toList_none, xRecv_mk, true_and, and_true, true_implies, Nat.reduceAdd, Nat.reduceLeDiff, Nat.zero_le, Nat.le_refl, Nat.add_zero, Nat.zero_add, reduceIte, not_true_eq_false, not_false_eq_true, false_implies, and_self, implies_true, eq_self, Nat.reduceEqDiff, List.cons.injEq, xsn_1, xsn_2, false_and, and_false, or_false, false_or, or_true, true_or, xsn_3, xsn_4, cK_setI, cFr_setI, ↓spwX7_stageIn, spcX7_stageIn, ↓spwJx4a65c_size_8abf5, spcJx4a65c_size_8abf5, ↓spwJx4a65c_get_915e3, spcJx4a65c_get_915e3, ↓spwX1_beginHour, spcX1_beginHour, g0, g5, g1, g2, e8]
      try simp only [xif_e]
      exact ⟨rfl, hE⟩)
  have c29 : ∀ lv st S2 cs ss, (lv = [some (.ref (d 9 0)), none] ∧ st = [] ∧ hQ d S M 0 S2 ∧ cs = 0 ∧ ss = 0) → G 29 lv st S2 cs ss := by
    rintro lv st S2 cs ss ⟨rfl, rfl, hq, rfl, rfl⟩
    refine xgo hG (mb := [true, true]) (l1 0 (Nat.zero_le _)) (fun fu hfu => ?_)
    simp only [↓calen, ↓callX7_beginHour_0, ↓callX7_beginHour_1, ↓callX7_beginHour_2, ↓callX7_beginHour_3, ↓cast_0, ↓cg_8_4, ↓cg_8_5, ↓cg_8_7, cisa, ↓cp_8_7, ↓cp_8_8, kb_24, kc_24, ki_0, ki_1, ↓vm_aload_n, ↓vm_arraylength, ↓vm_bipush, ↓vm_checkcast, ↓vm_dup, ↓vm_getfield, ↓vm_goto, ↓vm_iadd, ↓vm_iastore, ↓vm_iconst, ↓vm_ifCond_ne, ↓vm_if_icmp_ge, ↓vm_iinc, ↓vm_iload_n, ↓vm_invokevirtual, ↓vm_irem, ↓vm_istore_n, ↓vm_putfield, ↓vm_return_, ↓xc_1, ↓xc_2, ↓tbX7_beginHour_0, ↓tbX7_beginHour_1, ↓tbX7_beginHour_2, ↓tbX7_beginHour_5, ↓tbX7_beginHour_6, ↓tbX7_beginHour_7, ↓tbX7_beginHour_10, ↓tbX7_beginHour_11, ↓tbX7_beginHour_14, ↓tbX7_beginHour_16, ↓tbX7_beginHour_17, ↓tbX7_beginHour_20, ↓tbX7_beginHour_21, ↓tbX7_beginHour_22, ↓tbX7_beginHour_23, ↓tbX7_beginHour_26, ↓tbX7_beginHour_29, ↓tbX7_beginHour_30, ↓tbX7_beginHour_31, ↓tbX7_beginHour_32, ↓tbX7_beginHour_33, ↓tbX7_beginHour_36, ↓tbX7_beginHour_37, ↓tbX7_beginHour_40, ↓tbX7_beginHour_41, ↓tbX7_beginHour_44, ↓tbX7_beginHour_45, ↓tbX7_beginHour_46, ↓tbX7_beginHour_47, ↓tbX7_beginHour_50, ↓tbX7_beginHour_53, ↓tbX7_beginHour_54, ↓tbX7_beginHour_55, ↓tbX7_beginHour_56, ↓tbX7_beginHour_57, ↓tbX7_beginHour_60, ↓tbX7_beginHour_63, ↓tbX7_beginHour_66, ↓tbX7_beginHour_67, ↓tbX7_beginHour_70, ↓tbX7_beginHour_71, ↓tbX7_beginHour_74, ↓tbX7_beginHour_77, ↓tbX7_beginHour_80, ↓tbX7_beginHour_83, ↓tbX7_beginHour_86, hfu, xstep0, xJ1_hit, xJ1_go, xJ2_hit1, xJ2_hit2, xJ2_go, ↓xif_t, ↓xif_f, seval, ↓xca_eq, ↓xre_l, ↓xre_r, xmask_t, xmask_f, xmask_nil, ↓xst_eq, xX_eq, eI_eq, eMc_eq, eMs_eq, eF_eq, eThr_eq, ↓xS1_mk, ↓xSI_mk, ↓xSR_mk, ↓xLI_0, ↓xLI_s, ↓xLR_0, ↓xLR_s, vRef_ref, vRef_null, vRef_rf, cat_int, cat_ref, cat_null, cat_rf, rf_some, rf_none, rf_null, rf_eq, rf_ref, ref_rf, ref_null, ref_ref, xOk_0, xOk_1, xOk_2r, xOk_2n, xOk_2f, vOpt_rf, vOpt_ref, vOpt_null, List.set_cons_zero, List.set_cons_succ, List.take_succ_cons, List.take_zero, List.drop_succ_cons, List.drop_zero, List.reverse_cons, List.reverse_nil, List.nil_append, List.cons_append, List.append_nil, List.length_cons, List.length_nil, List.map_cons, List.map_nil, List.sum_cons, List.sum_nil, Option.toList_some, Option.toList_none, xRecv_mk, true_and, and_true, true_implies, Nat.reduceAdd, Nat.reduceLeDiff, Nat.zero_le, Nat.le_refl, Nat.add_zero, Nat.zero_add, reduceIte, not_true_eq_false, not_false_eq_true, false_implies, and_self, implies_true, eq_self, Nat.reduceEqDiff, List.cons.injEq, xsn_1, xsn_2, false_and, and_false, or_false, false_or, or_true, true_or, xsn_3, xsn_4, cK_setI, cFr_setI, ↓spwX7_stageIn, spcX7_stageIn, ↓spwJx4a65c_size_8abf5, spcJx4a65c_size_8abf5, ↓spwJx4a65c_get_915e3, spcJx4a65c_get_915e3, ↓spwX1_beginHour, spcX1_beginHour]
    try simp only [xif_e]
    exact ⟨rfl, hq⟩
  refine xgo hG (mb := [true, false]) c29 (pc := 0) (fun fu hfu => ?_)
  simp only [↓calen, ↓callX7_beginHour_0, ↓callX7_beginHour_1, ↓callX7_beginHour_2, ↓callX7_beginHour_3, ↓cast_0, ↓cg_8_4, ↓cg_8_5, ↓cg_8_7, cisa, ↓cp_8_7, ↓cp_8_8, kb_24, kc_24, ki_0, ki_1, ↓vm_aload_n, ↓vm_arraylength, ↓vm_bipush, ↓vm_checkcast, ↓vm_dup, ↓vm_getfield, ↓vm_goto, ↓vm_iadd, ↓vm_iastore, ↓vm_iconst, ↓vm_ifCond_ne, ↓vm_if_icmp_ge, ↓vm_iinc, ↓vm_iload_n, ↓vm_invokevirtual, ↓vm_irem, ↓vm_istore_n, ↓vm_putfield, ↓vm_return_, ↓xc_1, ↓xc_2, ↓tbX7_beginHour_0, ↓tbX7_beginHour_1, ↓tbX7_beginHour_2, ↓tbX7_beginHour_5, ↓tbX7_beginHour_6, ↓tbX7_beginHour_7, ↓tbX7_beginHour_10, ↓tbX7_beginHour_11, ↓tbX7_beginHour_14, ↓tbX7_beginHour_16, ↓tbX7_beginHour_17, ↓tbX7_beginHour_20, ↓tbX7_beginHour_21, ↓tbX7_beginHour_22, ↓tbX7_beginHour_23, ↓tbX7_beginHour_26, ↓tbX7_beginHour_29, ↓tbX7_beginHour_30, ↓tbX7_beginHour_31, ↓tbX7_beginHour_32, ↓tbX7_beginHour_33, ↓tbX7_beginHour_36, ↓tbX7_beginHour_37, ↓tbX7_beginHour_40, ↓tbX7_beginHour_41, ↓tbX7_beginHour_44, ↓tbX7_beginHour_45, ↓tbX7_beginHour_46, ↓tbX7_beginHour_47, ↓tbX7_beginHour_50, ↓tbX7_beginHour_53, ↓tbX7_beginHour_54, ↓tbX7_beginHour_55, ↓tbX7_beginHour_56, ↓tbX7_beginHour_57, ↓tbX7_beginHour_60, ↓tbX7_beginHour_63, ↓tbX7_beginHour_66, ↓tbX7_beginHour_67, ↓tbX7_beginHour_70, ↓tbX7_beginHour_71, ↓tbX7_beginHour_74, ↓tbX7_beginHour_77, ↓tbX7_beginHour_80, ↓tbX7_beginHour_83, ↓tbX7_beginHour_86, hfu, xstep0, xJ1_hit, xJ1_go, xJ2_hit1, xJ2_hit2, xJ2_go, ↓xif_t, ↓xif_f, seval, ↓xca_eq, ↓xre_l, ↓xre_r, xmask_t, xmask_f, xmask_nil, ↓xst_eq, xX_eq, eI_eq, eMc_eq, eMs_eq, eF_eq, eThr_eq, ↓xS1_mk, ↓xSI_mk, ↓xSR_mk, ↓xLI_0, ↓xLI_s, ↓xLR_0, ↓xLR_s, vRef_ref, vRef_null, vRef_rf, cat_int, cat_ref, cat_null, cat_rf, rf_some, rf_none, rf_null, rf_eq, rf_ref, ref_rf, ref_null, ref_ref, xOk_0, xOk_1, xOk_2r, xOk_2n, xOk_2f, vOpt_rf, vOpt_ref, vOpt_null, List.set_cons_zero, List.set_cons_succ, List.take_succ_cons, List.take_zero, List.drop_succ_cons, List.drop_zero, List.reverse_cons, List.reverse_nil, List.nil_append, List.cons_append, List.append_nil, List.length_cons, List.length_nil, List.map_cons, List.map_nil, List.sum_cons, List.sum_nil, Option.toList_some, Option.toList_none, xRecv_mk, true_and, and_true, true_implies, Nat.reduceAdd, Nat.reduceLeDiff, Nat.zero_le, Nat.le_refl, Nat.add_zero, Nat.zero_add, reduceIte, not_true_eq_false, not_false_eq_true, false_implies, and_self, implies_true, eq_self, Nat.reduceEqDiff, List.cons.injEq, xsn_1, xsn_2, false_and, and_false, or_false, false_or, or_true, true_or, xsn_3, xsn_4, cK_setI, cFr_setI, ↓spwX7_stageIn, spcX7_stageIn, ↓spwJx4a65c_size_8abf5, spcJx4a65c_size_8abf5, ↓spwJx4a65c_get_915e3, spcJx4a65c_get_915e3, ↓spwX1_beginHour, spcX1_beginHour, a0, held_eq, cFi_setI]
  try simp only [xif_e]
  have k2 : (mH0 M).1 2 = if M.1 1 + 1 - (M.1 1 + 1) / 24 * 24 = 0 then mHeld (M.1 2 - M.1 3) else M.1 2 := rfl
  refine ⟨fun z => ⟨(chg.rf.sI (Or.inl rfl)).sI (Or.inl rfl), ?_, ?_, fun g x1 x2 => ?_, rfl, fun p hp => by omega⟩, fun z => ⟨chg.rf.sI (Or.inl rfl), ?_, ?_, fun g x1 x2 => ?_, rfl, fun p hp => by omega⟩⟩
  · rw [cFi_setI, if_neg (by omega), cFi_setI, if_pos ⟨rfl, rfl⟩, a807]
    rfl
  · rw [cFi_setI, if_pos ⟨rfl, rfl⟩, a808, a809, k2, if_pos (by rw [a807] at z; exact z), Int32.one_mul]
  · rw [cFi_setI, if_neg (fun y => x2 y.2), cFi_setI, if_neg (fun y => x1 y.2)]
  · rw [cFi_setI, if_pos ⟨rfl, rfl⟩, a807]
    rfl
  · rw [cFi_setI, if_neg (by omega), a808, k2, if_neg (by rw [a807] at z; exact z)]
  · rw [cFi_setI, if_neg (fun y => x1 y.2)]

/-! answers, by what was thrown -/
abbrev eB : String := "java/lang/IndexOutOfBoundsException"
abbrev eA : String := "java/lang/IllegalArgumentException"
abbrev eS : String := "java/lang/IllegalStateException"
def rZ (L : List String) (z v : Int32) : xRes := if z = 0 then rI v else rX (L.getD (z.toNatClampNeg - 1) "")
def ans (L : List String) (W9 : xWd) (B a : Nat) (o : Int32 × mS) (r : xRes) (S2 : cS) : Prop := RR W9 B a S2 o.2 ∧ r = rZ L (o.2.1 0) o.1
theorem R0_M {W9 : xWd} {d : Nat → Nat → Nat} {S : cS} {M M2 : mS} (h : R0 W9 d S M) (c : ∀ k, k ≠ 0 → M2.1 k = M.1 k) (m : M2.2 = M.2) : R0 W9 d S M2 := by
  obtain ⟨h1, h2, h3, h4, h5, h6, h7, h8, h9, h10, h11⟩ := h
  have m := fun k => congrFun m k
  have c := fun k => c (k + 1) (by omega)
  exact ⟨h1.mono (fun s z => sm.rf) (m _) (m _) (m _) (m _) (m _) (m _) (m _) (m _) (m _) (m _) (m _) (m _), h2.mono (fun s z => sm.rf) (m _), h3.mono (fun s z => sm.rf) (m _) (c _), h4.mono (fun s z => sm.rf) (m _) (m _) (m _) (m _) (m _) (m _) (c _), h5.mono (fun s z => sm.rf) (m _) (m _) (m _) (m _) (m _) (m _) (m _) (m _) (m _) (m _) (m _) (c _) (c _), h6.mono (fun s z => sm.rf) (m _) (m _) (m _) (m _) (m _) (m _) (m _) (m _) (m _) (m _) (m _) (c _), h7.mono (fun s z => sm.rf) (m _) (c _), h8.mono (fun s z => sm.rf) (m _) (c _), h9.mono sm.rf (c _) (c _) (c _) (c _) (c _) (c _) (c _), h10.mono sm.rf (m _) (m _) (c _), h11.mono (fun k i z hc => ⟨hc, rfl, rfl, rfl⟩) (m _) (m _) (m _) (m _) (c _) (c _) (c _)⟩
theorem RR_set0 {W9 : xWd} {B a : Nat} {S : cS} {M : mS} {z : Int32} (h : RR W9 B a S M) : RR W9 B a S (mSet M 0 z) := by
  obtain ⟨d, np, N, h1, h2, h3, h4, h5, h6, h7, h8⟩ := h
  refine ⟨d, np, N, h1, h2, h3, R0_M h4 (fun k hk => mSet_ne hk) rfl, h5, h6, ?_, h8⟩
  have e : ways (mSet M 0 z) (nBt (mSet M 0 z)) = ways M (nBt M) := ways_same2 (M := M) rfl (fun _ _ => rfl)
  rw [e]
  exact h7
theorem ans_x {L : List String} {W9 : xWd} {B a : Nat} {S : cS} {M : mS} {z : Int32} {e : String} (h : RR W9 B a S M) (h0 : ¬ z = 0) (he : L.getD (z.toNatClampNeg - 1) "" = e) : ans L W9 B a (0, mSet M 0 z) (rX e) S := by
  refine ⟨RR_set0 h, ?_⟩
  show rX e = rZ L ((mSet M 0 z).1 0) 0
  rw [mSet_eq]
  unfold rZ
  rw [if_neg h0, he]
theorem ans_i {L : List String} {W9 : xWd} {B a : Nat} {S : cS} {M : mS} {v : Int32} (h : RR W9 B a S M) (h0 : M.1 0 = 0) : ans L W9 B a (v, M) (rI v) S := by
  refine ⟨h, ?_⟩
  show rI v = rZ L (M.1 0) v
  unfold rZ
  rw [if_pos h0]
theorem mHour_1 (M : mS) (k : Nat) (h : k ≠ 1) (h2 : k ≠ 2) : (mHour M).1 k = M.1 k := by
  unfold mHour
  rw [mSts_1, mSts_1, mH2_1, mH1_1]
  unfold mH0
  rw [mSet_ne h2, mSet_ne h]
theorem nBt_h1 (M : mS) (k : Nat) : nBt (mH1 M k) = nBt M := nBt_eq (by rw [mH1_1])
theorem nBt_h2 (M : mS) (k : Nat) : nBt (mH2 M k) = nBt M := nBt_eq (by rw [mH2_1])
theorem nBt_sts (M : mS) (u : Int32) (k : Nat) : nBt (mSts M u k) = nBt M := nBt_eq (by rw [mSts_1])
theorem nBt_h0 (M : mS) : nBt (mH0 M) = nBt M := nBt_eq (mH0_29 M)
theorem RR_k {W9 : xWd} {B a : Nat} {S : cS} {M : mS} (h : RR W9 B a S M) : cK S a = 9 := by
  obtain ⟨d, np, N, h⟩ := h
  rw [← h.2.1]
  exact h.2.2.2.1.2.2.2.2.2.2.2.2.1.1
theorem mPas_1 (M : mS) : ∀ n, (mPas M n).1 1 = M.1 1 + nI n ∧ ∀ k, k ≠ 1 → k ≠ 2 → (mPas M n).1 k = M.1 k
  | 0 => ⟨(Int32.add_zero _).symm, fun _ _ _ => rfl⟩
  | n + 1 => by
    obtain ⟨h1, h2⟩ := mPas_1 M n
    refine ⟨?_, fun k a b => ?_⟩
    · show (mHour (mPas M n)).1 1 = _
      unfold mHour
      rw [mSts_1, mSts_1, mH2_1, mH1_1]
      unfold mH0
      rw [mSet_ne (by omega), mSet_eq, h1, Int32.add_assoc, nI1]
    · show (mHour (mPas M n)).1 k = _
      rw [mHour_1 _ _ a b]
      exact h2 k a b

def tbX7_pass : List (Nat × xHint) := [(0, .iload_n 1, 1, 0, 0, []), (1, .iconst 1, 0, 0, 0, []), (2, .bipush 48, 0, 0, 0, []), (4, .invokestatic 57, 0, 3, 0, []), (7, .aload_n 0, 0, 0, 0, []), (8, .getfield 193, 8, 7, 0, []), (11, .iload_n 1, 1, 0, 0, []), (12, .iadd, 0, 0, 0, []), (13, .sipush 5000, 0, 0, 0, []), (16, .if_icmp .gt 7, 23, 0, 0, []), (19, .iconst 1, 0, 0, 0, []), (20, .goto 4, 24, 0, 0, []), (23, .iconst 0, 0, 0, 0, []), (24, .invokestatic 77, 1, 1, 0, []), (27, .iconst 0, 0, 0, 0, []), (28, .istore_n 2, 2, 0, 0, []), (29, .iload_n 2, 2, 0, 0, []), (30, .iload_n 1, 1, 0, 0, []), (31, .if_icmp .ge 27, 58, 0, 0, []), (34, .aload_n 0, 0, 0, 0, []), (35, .invokevirtual 281, 2, 1, 8, []), (38, .aload_n 0, 0, 0, 0, []), (39, .invokevirtual 284, 3, 1, 8, []), (42, .aload_n 0, 0, 0, 0, []), (43, .iconst 0, 0, 0, 0, []), (44, .invokevirtual 287, 4, 2, 8, []), (47, .aload_n 0, 0, 0, 0, []), (48, .iconst 1, 0, 0, 0, []), (49, .invokevirtual 287, 4, 2, 8, []), (52, .iinc 2 1, 2, 0, 0, []), (55, .goto (-26), 29, 0, 0, []), (58, .aload_n 0, 0, 0, 0, []), (59, .getfield 193, 8, 7, 0, []), (62, .ireturn, 0, 0, 0, [])]
def clX7_pass : List (Instr × Nat × Nat × Nat) := [(.invokestatic 57, 0, 3, 0), (.invokestatic 77, 1, 1, 0), (.invokevirtual 281, 2, 1, 8), (.invokevirtual 284, 3, 1, 8), (.invokevirtual 287, 4, 2, 8)]
def thX7_pass : List (Nat × Nat) := []
theorem ckX7_pass : tbX7_pass.all (xRow RX7 cX7_pass wsX7_pass vwCl [8] clX7_pass thX7_pass 3 (yX7_pass.name == "<init>") (some .int)) = true := xRow_q 0xacc100b42ae6ffa70102841f01b6042a1f01b6032a1c01b62a1901b62a1b00a21b1c3d034d00b8030400a7040700a3881311601bc100b42a3900b83010041b 63 (by decide +kernel) (by decide +kernel)
theorem usX7_pass : xUse wsX7_pass vwCl [8] = true := xUse_g rfl (lw_good lwl_X7_pass lwl_X70 (by decide +kernel)) xUse_n
theorem tbX7_pass_0 {k : Instr → Nat → Nat → Nat → List Nat → Prop} : xse (xFind tbX7_pass 0) k = k (.iload_n 1) 1 0 0 [] := rfl
theorem tbX7_pass_1 {k : Instr → Nat → Nat → Nat → List Nat → Prop} : xse (xFind tbX7_pass 1) k = k (.iconst 1) 0 0 0 [] := rfl
theorem tbX7_pass_2 {k : Instr → Nat → Nat → Nat → List Nat → Prop} : xse (xFind tbX7_pass 2) k = k (.bipush 48) 0 0 0 [] := rfl
theorem tbX7_pass_4 {k : Instr → Nat → Nat → Nat → List Nat → Prop} : xse (xFind tbX7_pass 4) k = k (.invokestatic 57) 0 3 0 [] := rfl
theorem tbX7_pass_7 {k : Instr → Nat → Nat → Nat → List Nat → Prop} : xse (xFind tbX7_pass 7) k = k (.aload_n 0) 0 0 0 [] := rfl
theorem tbX7_pass_8 {k : Instr → Nat → Nat → Nat → List Nat → Prop} : xse (xFind tbX7_pass 8) k = k (.getfield 193) 8 7 0 [] := rfl
theorem tbX7_pass_11 {k : Instr → Nat → Nat → Nat → List Nat → Prop} : xse (xFind tbX7_pass 11) k = k (.iload_n 1) 1 0 0 [] := rfl
theorem tbX7_pass_12 {k : Instr → Nat → Nat → Nat → List Nat → Prop} : xse (xFind tbX7_pass 12) k = k (.iadd) 0 0 0 [] := rfl
theorem tbX7_pass_13 {k : Instr → Nat → Nat → Nat → List Nat → Prop} : xse (xFind tbX7_pass 13) k = k (.sipush 5000) 0 0 0 [] := rfl
theorem tbX7_pass_16 {k : Instr → Nat → Nat → Nat → List Nat → Prop} : xse (xFind tbX7_pass 16) k = k (.if_icmp .gt 7) 23 0 0 [] := rfl
theorem tbX7_pass_19 {k : Instr → Nat → Nat → Nat → List Nat → Prop} : xse (xFind tbX7_pass 19) k = k (.iconst 1) 0 0 0 [] := rfl
theorem tbX7_pass_20 {k : Instr → Nat → Nat → Nat → List Nat → Prop} : xse (xFind tbX7_pass 20) k = k (.goto 4) 24 0 0 [] := rfl
theorem tbX7_pass_23 {k : Instr → Nat → Nat → Nat → List Nat → Prop} : xse (xFind tbX7_pass 23) k = k (.iconst 0) 0 0 0 [] := rfl
theorem tbX7_pass_24 {k : Instr → Nat → Nat → Nat → List Nat → Prop} : xse (xFind tbX7_pass 24) k = k (.invokestatic 77) 1 1 0 [] := rfl
theorem tbX7_pass_27 {k : Instr → Nat → Nat → Nat → List Nat → Prop} : xse (xFind tbX7_pass 27) k = k (.iconst 0) 0 0 0 [] := rfl
theorem tbX7_pass_28 {k : Instr → Nat → Nat → Nat → List Nat → Prop} : xse (xFind tbX7_pass 28) k = k (.istore_n 2) 2 0 0 [] := rfl
theorem tbX7_pass_29 {k : Instr → Nat → Nat → Nat → List Nat → Prop} : xse (xFind tbX7_pass 29) k = k (.iload_n 2) 2 0 0 [] := rfl
theorem tbX7_pass_30 {k : Instr → Nat → Nat → Nat → List Nat → Prop} : xse (xFind tbX7_pass 30) k = k (.iload_n 1) 1 0 0 [] := rfl
theorem tbX7_pass_31 {k : Instr → Nat → Nat → Nat → List Nat → Prop} : xse (xFind tbX7_pass 31) k = k (.if_icmp .ge 27) 58 0 0 [] := rfl
theorem tbX7_pass_34 {k : Instr → Nat → Nat → Nat → List Nat → Prop} : xse (xFind tbX7_pass 34) k = k (.aload_n 0) 0 0 0 [] := rfl
theorem tbX7_pass_35 {k : Instr → Nat → Nat → Nat → List Nat → Prop} : xse (xFind tbX7_pass 35) k = k (.invokevirtual 281) 2 1 8 [] := rfl
theorem tbX7_pass_38 {k : Instr → Nat → Nat → Nat → List Nat → Prop} : xse (xFind tbX7_pass 38) k = k (.aload_n 0) 0 0 0 [] := rfl
theorem tbX7_pass_39 {k : Instr → Nat → Nat → Nat → List Nat → Prop} : xse (xFind tbX7_pass 39) k = k (.invokevirtual 284) 3 1 8 [] := rfl
theorem tbX7_pass_42 {k : Instr → Nat → Nat → Nat → List Nat → Prop} : xse (xFind tbX7_pass 42) k = k (.aload_n 0) 0 0 0 [] := rfl
theorem tbX7_pass_43 {k : Instr → Nat → Nat → Nat → List Nat → Prop} : xse (xFind tbX7_pass 43) k = k (.iconst 0) 0 0 0 [] := rfl
theorem tbX7_pass_44 {k : Instr → Nat → Nat → Nat → List Nat → Prop} : xse (xFind tbX7_pass 44) k = k (.invokevirtual 287) 4 2 8 [] := rfl
theorem tbX7_pass_47 {k : Instr → Nat → Nat → Nat → List Nat → Prop} : xse (xFind tbX7_pass 47) k = k (.aload_n 0) 0 0 0 [] := rfl
theorem tbX7_pass_48 {k : Instr → Nat → Nat → Nat → List Nat → Prop} : xse (xFind tbX7_pass 48) k = k (.iconst 1) 0 0 0 [] := rfl
theorem tbX7_pass_49 {k : Instr → Nat → Nat → Nat → List Nat → Prop} : xse (xFind tbX7_pass 49) k = k (.invokevirtual 287) 4 2 8 [] := rfl
theorem tbX7_pass_52 {k : Instr → Nat → Nat → Nat → List Nat → Prop} : xse (xFind tbX7_pass 52) k = k (.iinc 2 1) 2 0 0 [] := rfl
theorem tbX7_pass_55 {k : Instr → Nat → Nat → Nat → List Nat → Prop} : xse (xFind tbX7_pass 55) k = k (.goto (-26)) 29 0 0 [] := rfl
theorem tbX7_pass_58 {k : Instr → Nat → Nat → Nat → List Nat → Prop} : xse (xFind tbX7_pass 58) k = k (.aload_n 0) 0 0 0 [] := rfl
theorem tbX7_pass_59 {k : Instr → Nat → Nat → Nat → List Nat → Prop} : xse (xFind tbX7_pass 59) k = k (.getfield 193) 8 7 0 [] := rfl
theorem tbX7_pass_62 {k : Instr → Nat → Nat → Nat → List Nat → Prop} : xse (xFind tbX7_pass 62) k = k (.ireturn) 0 0 0 [] := rfl

def spX7_pass (W9 : xWd) : xSp cS := (fun av S => (290, 9660), fun av S K => ∃ (a : Nat) (n : Int32), av = [.ref a, .int n] ∧ (∃ (B : Nat) (M : mS), RR W9 B a S M ∧ ∀ r S2, ans [eA, eS] W9 B a (oPass M n) r S2 → K r S2))
theorem spcX7_pass {av : List Value} {S : cS} {W9 : xWd} : (spX7_pass W9).1 av S = (290, 9660) := rfl
theorem spwX7_pass {S : cS} {W9 : xWd} {K : xRes → cS → Prop} {a : Nat} {n : Int32} : (spX7_pass W9).2 [.ref a, .int n] S K = (∃ (B : Nat) (M : mS), RR W9 B a S M ∧ ∀ r S2, ans [eA, eS] W9 B a (oPass M n) r S2 → K r S2) :=
  propext ⟨fun h => by
    simp only [spX7_pass] at h
    obtain ⟨_, _, e, h⟩ := h
    simp only [List.cons.injEq, Value.int.injEq, Value.ref.injEq, rf_eq, and_true, true_and] at e
    obtain ⟨rfl, rfl⟩ := e
    exact h, fun h => ⟨_, _, rfl, h⟩⟩

def callX7_pass (W9 : xWd) : Nat → Option (xSp cS) := fun n => match n with | 0 => some (spX7_needWithin W9) | 1 => some (spX7_needState W9) | 2 => some (spX7_beginHour W9) | 3 => some (spX7_travel W9) | 4 => some (spX7_sendOff W9) | _ => none

theorem callX7_pass_0 {W9 : xWd} {k : xSp cS → Prop} : xcs (callX7_pass W9 0) k = k (spX7_needWithin W9) := rfl

theorem callX7_pass_1 {W9 : xWd} {k : xSp cS → Prop} : xcs (callX7_pass W9 1) k = k (spX7_needState W9) := rfl

theorem callX7_pass_2 {W9 : xWd} {k : xSp cS → Prop} : xcs (callX7_pass W9 2) k = k (spX7_beginHour W9) := rfl

theorem callX7_pass_3 {W9 : xWd} {k : xSp cS → Prop} : xcs (callX7_pass W9 3) k = k (spX7_travel W9) := rfl

theorem callX7_pass_4 {W9 : xWd} {k : xSp cS → Prop} : xcs (callX7_pass W9 4) k = k (spX7_sendOff W9) := rfl

theorem crX7_pass (l : Launch) (hl : l.stackTraces = false) (W9 : xWd) : xCallsOK l W9 (cI) (callX7_pass W9) clX7_pass RX7 wsX7_pass 9 208 3 := by
  intro E A p e R s m args below meth c hI hF hL X
  exact List.forall_mem_cons.mpr ⟨⟨_, rfl, xCR_S X (by rw [hI]; exact (semX7_needWithin l hl W9)) gX7_pass_X7_needWithin rfl (by decide +kernel) (by rw [hF, hL]; decide)⟩,
    List.forall_mem_cons.mpr ⟨⟨_, rfl, xCR_S X (by rw [hI]; exact (semX7_needState l hl W9)) gX7_pass_X7_needState rfl (by decide +kernel) (by rw [hF, hL]; decide)⟩,
    List.forall_mem_cons.mpr ⟨⟨_, rfl, xCR_V X (by rw [hI]; exact (semX7_beginHour l hl W9)) gX7_pass_X7_beginHour rfl rfl (by decide +kernel) (by rw [hF, hL]; decide)⟩,
    List.forall_mem_cons.mpr ⟨⟨_, rfl, xCR_V X (by rw [hI]; exact (semX7_travel l hl W9)) gX7_pass_X7_travel rfl rfl (by decide +kernel) (by rw [hF, hL]; decide)⟩,
    List.forall_mem_cons.mpr ⟨⟨_, rfl, xCR_V X (by rw [hI]; exact (semX7_sendOff l hl W9)) gX7_pass_X7_sendOff rfl rfl (by decide +kernel) (by rw [hF, hL]; decide)⟩,
    fun _ h => nomatch h⟩⟩⟩⟩⟩

set_option maxHeartbeats 1200000 in
set_option maxRecDepth 20000 in
theorem semX7_pass (l : Launch) (hl : l.stackTraces = false) (W9 : xWd) : xSem l W9 (cI) yX7_pass wsX7_pass 9 208 (spX7_pass W9) := by
  refine xSem_of (call := callX7_pass W9) (thrf := fun _ => "") cI_law (by decide +kernel) rfl ckX7_pass usX7_pass (crX7_pass l hl W9) xThrOK_nil ?_ ?_
  · intro av S KF h
    obtain ⟨a, n, rfl, h⟩ := h
    exact ⟨by intro v hv; simp only [List.mem_cons, List.not_mem_nil, or_false] at hv; rcases hv with rfl | rfl <;> first | rfl | exact cat_rf, Nat.le_of_ble_eq_true rfl⟩
  intro av S KF h G hG
  obtain ⟨a, n, rfl, h⟩ := h
  rw [show (spX7_pass W9).1 _ S = _ from spcX7_pass] at hG
  try dsimp only at hG
  change G 0 [some (.ref a), some (.int n), none] [] S 0 0
  obtain ⟨B, M, hRR, hk⟩ := h
  have hRR2 := hRR
  obtain ⟨d, np, N, hRRd⟩ := hRR2
  have hiT := hRRd.2.2.1.2.2.2.2.2.2.2.2.2
  obtain ⟨hd, ha, hi, hR, -⟩ := hRRd
  have a0 : cK S a = 9 := by rw [← ha]; exact hR.2.2.2.2.2.2.2.2.1.1
  have a807 : cFi S a 807 = M.1 1 := by rw [← ha]; exact hR.2.2.2.2.2.2.2.2.1.2.2.1
  obtain ⟨⟨h, eh, hh⟩, -⟩ := hiT
  unfold oPass at hk
  by_cases c1 : 1 ≤ n ∧ n ≤ 48
  · rw [if_neg (fun z => z c1)] at hk
    by_cases c2 : 5000 < M.1 1 + n
    · rw [if_pos c2] at hk
      have hE := hk _ S (ans_x (L := [eA, eS]) (e := eS) hRR (by decide) rfl)
      refine xgo hG (mb := []) (head := 29) (P := fun _ _ _ _ _ => False) (fun _ _ _ _ _ q => q.elim) (pc := 0) (fun fu hfu => ?_)
      simp only [↓callX7_pass_0, ↓callX7_pass_1, ↓callX7_pass_2, ↓callX7_pass_3, ↓callX7_pass_4, ↓cg_8_7, cisa, kb_48, kc_48, ki_0, ki_1, ks_5000, kt_5000, ↓vm_aload_n, ↓vm_bipush, ↓vm_getfield, ↓vm_goto, ↓vm_iadd, ↓vm_iconst, ↓vm_if_icmp_ge, ↓vm_if_icmp_gt, ↓vm_iinc, ↓vm_iload_n, ↓vm_invokestatic, ↓vm_invokevirtual, ↓vm_ireturn, ↓vm_istore_n, ↓vm_sipush, ↓xc_1, ↓xc_2, ↓xc_3, ↓tbX7_pass_0, ↓tbX7_pass_1, ↓tbX7_pass_2, ↓tbX7_pass_4, ↓tbX7_pass_7, ↓tbX7_pass_8, ↓tbX7_pass_11, ↓tbX7_pass_12, ↓tbX7_pass_13, ↓tbX7_pass_16, ↓tbX7_pass_19, ↓tbX7_pass_20, ↓tbX7_pass_23, ↓tbX7_pass_24, ↓tbX7_pass_27, ↓tbX7_pass_28, ↓tbX7_pass_29, ↓tbX7_pass_30, ↓tbX7_pass_31, ↓tbX7_pass_34, ↓tbX7_pass_35, ↓tbX7_pass_38, ↓tbX7_pass_39, ↓tbX7_pass_42, ↓tbX7_pass_43, ↓tbX7_pass_44, ↓tbX7_pass_47, ↓tbX7_pass_48, ↓tbX7_pass_49, ↓tbX7_pass_52, ↓tbX7_pass_55, ↓tbX7_pass_58, ↓tbX7_pass_59, ↓tbX7_pass_62, hfu, xstep0, xJ1_hit, xJ1_go, xJ2_hit1, xJ2_hit2, xJ2_go, ↓xif_t, ↓xif_f, seval, ↓xca_eq, ↓xre_l, ↓xre_r, xmask_t, xmask_f, xmask_nil, ↓xst_eq, xX_eq, eI_eq, eMc_eq, eMs_eq, eF_eq, eThr_eq, ↓xS1_mk, ↓xSI_mk, ↓xSR_mk, ↓xLI_0, ↓xLI_s, ↓xLR_0, ↓xLR_s, vRef_ref, vRef_null, vRef_rf, cat_int, cat_ref, cat_null, cat_rf, rf_some, rf_none, rf_null, rf_eq, rf_ref, ref_rf, ref_null, ref_ref, xOk_0, xOk_1, xOk_2r, xOk_2n, xOk_2f, vOpt_rf, vOpt_ref, vOpt_null, List.set_cons_zero, List.set_cons_succ, List.take_succ_cons, List.take_zero, List.drop_succ_cons, List.drop_zero, List.reverse_cons, List.reverse_nil, List.nil_append, List.cons_append, List.append_nil, List.length_cons, List.length_nil, List.map_cons, List.map_nil, List.sum_cons, List.sum_nil, Option.toList_some, Option.toList_none, xRecv_mk, true_and, and_true, true_implies, Nat.reduceAdd, Nat.reduceLeDiff, Nat.zero_le, Nat.le_refl, Nat.add_zero, Nat.zero_add, reduceIte, not_true_eq_false, not_false_eq_true, false_implies, and_self, implies_true, eq_self, Nat.reduceEqDiff, List.cons.injEq, xsn_1, xsn_2, false_and, and_false, or_false, false_or, or_true, true_or, xsn_3, xsn_4, ↓spwX7_needWithin, spcX7_needWithin, ↓spwX7_needState, spcX7_needState, ↓spwX7_beginHour, spcX7_beginHour, ↓spwX7_travel, spcX7_travel, ↓spwX7_sendOff, spcX7_sendOff, c1, c2, a0, a807]
      try simp only [xif_e]
      exact hE
    · rw [if_neg c2] at hk
      obtain ⟨x, x1, x2, rfl⟩ := in_1n (a := 1) (b := 48) c1.1 c1.2 (by omega) (by omega)
      rw [ix_nI (by omega)] at hk
      have hx5 : h + x ≤ 5000 := by
        rw [eh, add_nI, Int32.lt_iff_toInt_lt, nI_toInt (by omega), show (5000 : Int32).toInt = 5000 by decide] at c2
        omega
      have hR0 : RR W9 B a S (mPas (mSet M 0 0) 0) := RR_set0 hRR
      have e1 : ∀ j, (mPas (mSet M 0 0) j).1 1 = nI (h + j) := fun j => by
        rw [(mPas_1 (mSet M 0 0) j).1, mSet_ne (by omega), eh, add_nI]
      have hEnd : ∀ S2, RR W9 B a S2 (mPas (mSet M 0 0) x) → KF (rI (nI (h + x))) S2 := fun S2 h2 => by
        have := hk _ S2 (ans_i (L := [eA, eS]) h2 (by rw [(mPas_1 (mSet M 0 0) x).2 0 (by omega) (by omega), mSet_eq]))
        rw [e1] at this
        exact this
      have loop := xloop hG 29 [true, true, true] (fun j lv st S2 cs ss => lv = [some (.ref a), some (.int (nI x)), some (.int (nI j))] ∧ st = [] ∧ RR W9 B a S2 (mPas (mSet M 0 0) j) ∧ cs = 2 + 6 * j ∧ ss = 12 + 201 * j) x (by
        rintro j hj lv st S2 cs ss ⟨rfl, rfl, hQ, rfl, rfl⟩ fu hfu
        have e0 := ge_nI hj (show x < 1000 by omega)
        have g0 : cK S2 a = 9 := by obtain ⟨d, np, N, hRRd⟩ := hQ; rw [← hRRd.2.1]; exact hRRd.2.2.2.1.2.2.2.2.2.2.2.2.1.1
        simp only [↓callX7_pass_0, ↓callX7_pass_1, ↓callX7_pass_2, ↓callX7_pass_3, ↓callX7_pass_4, ↓cg_8_7, cisa, kb_48, kc_48, ki_0, ki_1, ks_5000, kt_5000, ↓vm_aload_n, ↓vm_bipush, ↓vm_getfield, ↓vm_goto, ↓vm_iadd, ↓vm_iconst, ↓vm_if_icmp_ge, ↓vm_if_icmp_gt, ↓vm_iinc, ↓vm_iload_n, ↓vm_invokestatic, ↓vm_invokevirtual, ↓vm_ireturn, ↓vm_istore_n, ↓vm_sipush, ↓xc_1, ↓xc_2, ↓xc_3, ↓tbX7_pass_0, ↓tbX7_pass_1, ↓tbX7_pass_2, ↓tbX7_pass_4, ↓tbX7_pass_7, ↓tbX7_pass_8, ↓tbX7_pass_11, ↓tbX7_pass_12, ↓tbX7_pass_13, ↓tbX7_pass_16, ↓tbX7_pass_19, ↓tbX7_pass_20, ↓tbX7_pass_23, ↓tbX7_pass_24, ↓tbX7_pass_27, ↓tbX7_pass_28, ↓tbX7_pass_29, ↓tbX7_pass_30, ↓tbX7_pass_31, ↓tbX7_pass_34, ↓tbX7_pass_35, ↓tbX7_pass_38, ↓tbX7_pass_39, ↓tbX7_pass_42, ↓tbX7_pass_43, ↓tbX7_pass_44, ↓tbX7_pass_47, ↓tbX7_pass_48, ↓tbX7_pass_49, ↓tbX7_pass_52, ↓tbX7_pass_55, ↓tbX7_pass_58, ↓tbX7_pass_59, ↓tbX7_pass_62, hfu, xstep0, xJ1_hit, xJ1_go, xJ2_hit1, xJ2_hit2, xJ2_go, ↓xif_t, ↓xif_f, seval, ↓xca_eq, ↓xre_l, ↓xre_r, xmask_t, xmask_f, xmask_nil, ↓xst_eq, xX_eq, eI_eq, eMc_eq, eMs_eq, eF_eq, eThr_eq, ↓xS1_mk, ↓xSI_mk, ↓xSR_mk, ↓xLI_0, ↓xLI_s, ↓xLR_0, ↓xLR_s, vRef_ref, vRef_null, vRef_rf, cat_int, cat_ref, cat_null, cat_rf, rf_some, rf_none, rf_null, rf_eq, rf_ref, ref_rf, ref_null, ref_ref, xOk_0, xOk_1, xOk_2r, xOk_2n, xOk_2f, vOpt_rf, vOpt_ref, vOpt_null, List.set_cons_zero, List.set_cons_succ, List.take_succ_cons, List.take_zero, List.drop_succ_cons, List.drop_zero, List.reverse_cons, List.reverse_nil, List.nil_append, List.cons_append, List.append_nil, List.length_cons, List.length_nil, List.map_cons, List.map_nil, List.sum_cons, List.sum_nil, Option.toList_some, Option.toList_none, xRecv_mk, true_and, and_true, true_implies, Nat.reduceAdd, Nat.reduceLeDiff, Nat.zero_le, Nat.le_refl, Nat.add_zero, Nat.zero_add, reduceIte, not_true_eq_false, not_false_eq_true, false_implies, and_self, implies_true, eq_self, Nat.reduceEqDiff, List.cons.injEq, xsn_1, xsn_2, false_and, and_false, or_false, false_or, or_true, true_or, xsn_3, xsn_4, ↓spwX7_needWithin, spcX7_needWithin, ↓spwX7_needState, spcX7_needState, ↓spwX7_beginHour, spcX7_beginHour, ↓spwX7_travel, spcX7_travel, ↓spwX7_sendOff, spcX7_sendOff, g0, e0]
        try simp only [xif_e]
        refine ⟨by omega, by omega, B, _, hQ, ⟨h + j, e1 j, by omega⟩, fun S3 h3 => ⟨RR_k h3, by omega, by omega, B, _, h3, fun S4 h4 => ⟨RR_k h4, by omega, by omega, B, _, h4, fun S5 h5 => ⟨RR_k h5, by omega, by omega, B, _, h5, fun S6 h6 => ⟨by rw [nI1], ?_, by omega, by omega⟩⟩⟩⟩⟩
        simp only [nBt_sts, nBt_h2, nBt_h1, nBt_h0] at h6
        exact h6) (by
        rintro lv st S2 cs ss ⟨rfl, rfl, hQ, rfl, rfl⟩ fu hfu
        have g0 : cK S2 a = 9 ∧ cFi S2 a 807 = nI (h + x) := by obtain ⟨d, np, N, hRRd⟩ := hQ; rw [← hRRd.2.1, ← e1]; exact ⟨hRRd.2.2.2.1.2.2.2.2.2.2.2.2.1.1, hRRd.2.2.2.1.2.2.2.2.2.2.2.2.1.2.2.1⟩
        have hE := hEnd S2 hQ
        simp only [↓callX7_pass_0, ↓callX7_pass_1, ↓callX7_pass_2, ↓callX7_pass_3, ↓callX7_pass_4, ↓cg_8_7, cisa, kb_48, kc_48, ki_0, ki_1, ks_5000, kt_5000, ↓vm_aload_n, ↓vm_bipush, ↓vm_getfield, ↓vm_goto, ↓vm_iadd, ↓vm_iconst, ↓vm_if_icmp_ge, ↓vm_if_icmp_gt, ↓vm_iinc, ↓vm_iload_n, ↓vm_invokestatic, ↓vm_invokevirtual, ↓vm_ireturn, ↓vm_istore_n, ↓vm_sipush, ↓xc_1, ↓xc_2, ↓xc_3, ↓tbX7_pass_0, ↓tbX7_pass_1, ↓tbX7_pass_2, ↓tbX7_pass_4, ↓tbX7_pass_7, ↓tbX7_pass_8, ↓tbX7_pass_11, ↓tbX7_pass_12, ↓tbX7_pass_13, ↓tbX7_pass_16, ↓tbX7_pass_19, ↓tbX7_pass_20, ↓tbX7_pass_23, ↓tbX7_pass_24, ↓tbX7_pass_27, ↓tbX7_pass_28, ↓tbX7_pass_29, ↓tbX7_pass_30, ↓tbX7_pass_31, ↓tbX7_pass_34, ↓tbX7_pass_35, ↓tbX7_pass_38, ↓tbX7_pass_39, ↓tbX7_pass_42, ↓tbX7_pass_43, ↓tbX7_pass_44, ↓tbX7_pass_47, ↓tbX7_pass_48, ↓tbX7_pass_49, ↓tbX7_pass_52, ↓tbX7_pass_55, ↓tbX7_pass_58, ↓tbX7_pass_59, ↓tbX7_pass_62, hfu, xstep0, xJ1_hit, xJ1_go, xJ2_hit1, xJ2_hit2, xJ2_go, ↓xif_t, ↓xif_f, seval, ↓xca_eq, ↓xre_l, ↓xre_r, xmask_t, xmask_f, xmask_nil, ↓xst_eq, xX_eq, eI_eq, eMc_eq, eMs_eq, eF_eq, eThr_eq, ↓xS1_mk, ↓xSI_mk, ↓xSR_mk, ↓xLI_0, ↓xLI_s, ↓xLR_0, ↓xLR_s, vRef_ref, vRef_null, vRef_rf, cat_int, cat_ref, cat_null, cat_rf, rf_some, rf_none, rf_null, rf_eq, rf_ref, ref_rf, ref_null, ref_ref, xOk_0, xOk_1, xOk_2r, xOk_2n, xOk_2f, vOpt_rf, vOpt_ref, vOpt_null, List.set_cons_zero, List.set_cons_succ, List.take_succ_cons, List.take_zero, List.drop_succ_cons, List.drop_zero, List.reverse_cons, List.reverse_nil, List.nil_append, List.cons_append, List.append_nil, List.length_cons, List.length_nil, List.map_cons, List.map_nil, List.sum_cons, List.sum_nil, Option.toList_some, Option.toList_none, xRecv_mk, true_and, and_true, true_implies, Nat.reduceAdd, Nat.reduceLeDiff, Nat.zero_le, Nat.le_refl, Nat.add_zero, Nat.zero_add, reduceIte, not_true_eq_false, not_false_eq_true, false_implies, and_self, implies_true, eq_self, Nat.reduceEqDiff, List.cons.injEq, xsn_1, xsn_2, false_and, and_false, or_false, false_or, or_true, true_or, xsn_3, xsn_4, ↓spwX7_needWithin, spcX7_needWithin, ↓spwX7_needState, spcX7_needState, ↓spwX7_beginHour, spcX7_beginHour, ↓spwX7_travel, spcX7_travel, ↓spwX7_sendOff, spcX7_sendOff, g0.1, g0.2, le_nI_self]
        try simp only [xif_e]
        exact ⟨by omega, by omega, hE⟩)
      refine xgo hG (mb := [true, true, true]) (loop 0 (Nat.zero_le _)) (pc := 0) (fun fu hfu => ?_)
      simp only [↓callX7_pass_0, ↓callX7_pass_1, ↓callX7_pass_2, ↓callX7_pass_3, ↓callX7_pass_4, ↓cg_8_7, cisa, kb_48, kc_48, ki_0, ki_1, ks_5000, kt_5000, ↓vm_aload_n, ↓vm_bipush, ↓vm_getfield, ↓vm_goto, ↓vm_iadd, ↓vm_iconst, ↓vm_if_icmp_ge, ↓vm_if_icmp_gt, ↓vm_iinc, ↓vm_iload_n, ↓vm_invokestatic, ↓vm_invokevirtual, ↓vm_ireturn, ↓vm_istore_n, ↓vm_sipush, ↓xc_1, ↓xc_2, ↓xc_3, ↓tbX7_pass_0, ↓tbX7_pass_1, ↓tbX7_pass_2, ↓tbX7_pass_4, ↓tbX7_pass_7, ↓tbX7_pass_8, ↓tbX7_pass_11, ↓tbX7_pass_12, ↓tbX7_pass_13, ↓tbX7_pass_16, ↓tbX7_pass_19, ↓tbX7_pass_20, ↓tbX7_pass_23, ↓tbX7_pass_24, ↓tbX7_pass_27, ↓tbX7_pass_28, ↓tbX7_pass_29, ↓tbX7_pass_30, ↓tbX7_pass_31, ↓tbX7_pass_34, ↓tbX7_pass_35, ↓tbX7_pass_38, ↓tbX7_pass_39, ↓tbX7_pass_42, ↓tbX7_pass_43, ↓tbX7_pass_44, ↓tbX7_pass_47, ↓tbX7_pass_48, ↓tbX7_pass_49, ↓tbX7_pass_52, ↓tbX7_pass_55, ↓tbX7_pass_58, ↓tbX7_pass_59, ↓tbX7_pass_62, hfu, xstep0, xJ1_hit, xJ1_go, xJ2_hit1, xJ2_hit2, xJ2_go, ↓xif_t, ↓xif_f, seval, ↓xca_eq, ↓xre_l, ↓xre_r, xmask_t, xmask_f, xmask_nil, ↓xst_eq, xX_eq, eI_eq, eMc_eq, eMs_eq, eF_eq, eThr_eq, ↓xS1_mk, ↓xSI_mk, ↓xSR_mk, ↓xLI_0, ↓xLI_s, ↓xLR_0, ↓xLR_s, vRef_ref, vRef_null, vRef_rf, cat_int, cat_ref, cat_null, cat_rf, rf_some, rf_none, rf_null, rf_eq, rf_ref, ref_rf, ref_null, ref_ref, xOk_0, xOk_1, xOk_2r, xOk_2n, xOk_2f, vOpt_rf, vOpt_ref, vOpt_null, List.set_cons_zero, List.set_cons_succ, List.take_succ_cons, List.take_zero, List.drop_succ_cons, List.drop_zero, List.reverse_cons, List.reverse_nil, List.nil_append, List.cons_append, List.append_nil, List.length_cons, List.length_nil, List.map_cons, List.map_nil, List.sum_cons, List.sum_nil, Option.toList_some, Option.toList_none, xRecv_mk, true_and, and_true, true_implies, Nat.reduceAdd, Nat.reduceLeDiff, Nat.zero_le, Nat.le_refl, Nat.add_zero, Nat.zero_add, reduceIte, not_true_eq_false, not_false_eq_true, false_implies, and_self, implies_true, eq_self, Nat.reduceEqDiff, List.cons.injEq, xsn_1, xsn_2, false_and, and_false, or_false, false_or, or_true, true_or, xsn_3, xsn_4, ↓spwX7_needWithin, spcX7_needWithin, ↓spwX7_needState, spcX7_needState, ↓spwX7_beginHour, spcX7_beginHour, ↓spwX7_travel, spcX7_travel, ↓spwX7_sendOff, spcX7_sendOff, c1, c2, a0, a807]
      try simp only [xif_e]
      exact ⟨rfl, hR0⟩
  · rw [if_pos c1] at hk
    have hE := hk _ S (ans_x (L := [eA, eS]) (e := eA) hRR (by decide) rfl)
    refine xgo hG (mb := []) (head := 29) (P := fun _ _ _ _ _ => False) (fun _ _ _ _ _ q => q.elim) (pc := 0) (fun fu hfu => ?_)
    simp only [↓callX7_pass_0, ↓callX7_pass_1, ↓callX7_pass_2, ↓callX7_pass_3, ↓callX7_pass_4, ↓cg_8_7, cisa, kb_48, kc_48, ki_0, ki_1, ks_5000, kt_5000, ↓vm_aload_n, ↓vm_bipush, ↓vm_getfield, ↓vm_goto, ↓vm_iadd, ↓vm_iconst, ↓vm_if_icmp_ge, ↓vm_if_icmp_gt, ↓vm_iinc, ↓vm_iload_n, ↓vm_invokestatic, ↓vm_invokevirtual, ↓vm_ireturn, ↓vm_istore_n, ↓vm_sipush, ↓xc_1, ↓xc_2, ↓xc_3, ↓tbX7_pass_0, ↓tbX7_pass_1, ↓tbX7_pass_2, ↓tbX7_pass_4, ↓tbX7_pass_7, ↓tbX7_pass_8, ↓tbX7_pass_11, ↓tbX7_pass_12, ↓tbX7_pass_13, ↓tbX7_pass_16, ↓tbX7_pass_19, ↓tbX7_pass_20, ↓tbX7_pass_23, ↓tbX7_pass_24, ↓tbX7_pass_27, ↓tbX7_pass_28, ↓tbX7_pass_29, ↓tbX7_pass_30, ↓tbX7_pass_31, ↓tbX7_pass_34, ↓tbX7_pass_35, ↓tbX7_pass_38, ↓tbX7_pass_39, ↓tbX7_pass_42, ↓tbX7_pass_43, ↓tbX7_pass_44, ↓tbX7_pass_47, ↓tbX7_pass_48, ↓tbX7_pass_49, ↓tbX7_pass_52, ↓tbX7_pass_55, ↓tbX7_pass_58, ↓tbX7_pass_59, ↓tbX7_pass_62, hfu, xstep0, xJ1_hit, xJ1_go, xJ2_hit1, xJ2_hit2, xJ2_go, ↓xif_t, ↓xif_f, seval, ↓xca_eq, ↓xre_l, ↓xre_r, xmask_t, xmask_f, xmask_nil, ↓xst_eq, xX_eq, eI_eq, eMc_eq, eMs_eq, eF_eq, eThr_eq, ↓xS1_mk, ↓xSI_mk, ↓xSR_mk, ↓xLI_0, ↓xLI_s, ↓xLR_0, ↓xLR_s, vRef_ref, vRef_null, vRef_rf, cat_int, cat_ref, cat_null, cat_rf, rf_some, rf_none, rf_null, rf_eq, rf_ref, ref_rf, ref_null, ref_ref, xOk_0, xOk_1, xOk_2r, xOk_2n, xOk_2f, vOpt_rf, vOpt_ref, vOpt_null, List.set_cons_zero, List.set_cons_succ, List.take_succ_cons, List.take_zero, List.drop_succ_cons, List.drop_zero, List.reverse_cons, List.reverse_nil, List.nil_append, List.cons_append, List.append_nil, List.length_cons, List.length_nil, List.map_cons, List.map_nil, List.sum_cons, List.sum_nil, Option.toList_some, Option.toList_none, xRecv_mk, true_and, and_true, true_implies, Nat.reduceAdd, Nat.reduceLeDiff, Nat.zero_le, Nat.le_refl, Nat.add_zero, Nat.zero_add, reduceIte, not_true_eq_false, not_false_eq_true, false_implies, and_self, implies_true, eq_self, Nat.reduceEqDiff, List.cons.injEq, xsn_1, xsn_2, false_and, and_false, or_false, false_or, or_true, true_or, xsn_3, xsn_4, ↓spwX7_needWithin, spcX7_needWithin, ↓spwX7_needState, spcX7_needState, ↓spwX7_beginHour, spcX7_beginHour, ↓spwX7_travel, spcX7_travel, ↓spwX7_sendOff, spcX7_sendOff, c1]
    try simp only [xif_e]
    exact hE
