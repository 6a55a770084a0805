/-! The class's answers are the reference's: what is asked. -/
theorem idx {k : Int32} {n : Nat} (hn : n < 1000) : (0 ≤ k ∧ k < nI n) = ∃ w, w < n ∧ k = nI w := by
  refine propext ⟨fun ⟨a, b⟩ => ?_, fun ⟨w, hw, e⟩ => ?_⟩
  · have z1 := Int32.le_iff_toInt_le.mp a
    have z2 := Int32.lt_iff_toInt_lt.mp b
    rw [nI_toInt (by omega)] at z2
    have hin : vp_in k n := vp_in_iff.mpr ⟨z1, by omega⟩
    exact vp_in_of hin (by omega)
  · rw [e]
    exact ⟨pos_nI (by omega), lt0_nI hw hn⟩
theorem le_m1 {k : Int32} {n : Nat} (hn : n < 1000) : (0 ≤ k ∧ k ≤ nI n - 1) = (0 ≤ k ∧ k < nI n) := by
  cases n with
  | zero =>
    refine propext ⟨fun ⟨a, b⟩ => ?_, fun ⟨a, b⟩ => ?_⟩
    · have z1 := Int32.le_iff_toInt_le.mp a
      have z2 := Int32.le_iff_toInt_le.mp b
      have e : (nI 0 - 1).toInt = -1 := by decide
      have e2 : (0 : Int32).toInt = 0 := by decide
      rw [e] at z2
      rw [e2] at z1
      omega
    · have z1 := Int32.le_iff_toInt_le.mp a
      have z2 := Int32.lt_iff_toInt_lt.mp b
      have e : (nI 0).toInt = 0 := by decide
      have e2 : (0 : Int32).toInt = 0 := by decide
      rw [e] at z2
      rw [e2] at z1
      omega
  | succ n =>
    have e : nI (n + 1) - 1 = nI n := by rw [← nI1, Int32.add_sub_cancel]
    rw [e]
    refine propext (and_congr_right fun _ => ?_)
    rw [Int32.le_iff_toInt_le, Int32.lt_iff_toInt_lt, nI_toInt (by omega), nI_toInt (by omega)]
    omega
theorem idx1 {k : Int32} {n : Nat} (hn : n < 1000) : (0 ≤ k ∧ k ≤ nI n - 1) = ∃ w, w < n ∧ k = nI w := by rw [le_m1 hn, idx hn]
theorem idx6 {k : Int32} : (0 ≤ k ∧ k ≤ 6) = (0 ≤ k ∧ k < nI 7) := le_m1 (k := k) (n := 7) (by omega)
theorem idx7 {k : Int32} : (0 ≤ k ∧ k ≤ 7) = (0 ≤ k ∧ k < nI 8) := le_m1 (k := k) (n := 8) (by omega)
theorem rZ_i {L : List String} {v : Int32} : rZ L 0 v = rI v := rfl
/-- an answer that leaves all as it was -/
theorem ans_0 {L : List String} {W9 : xWd} {B a : Nat} {S : cS} {M : mS} {o : Int32 × mS} {v w : Int32} (h : RR W9 B a S (mSet M 0 0)) (ho : o = (v, mSet M 0 0)) (e : w = v) : ans L W9 B a o (rI w) S := by
  rw [ho, e]
  exact ans_i h (mSet_eq)
theorem ans_e {L : List String} {W9 : xWd} {B a : Nat} {S : cS} {M : mS} {o : Int32 × mS} {z : Int32} {e : String} (h : RR W9 B a S M) (ho : o = (0, mSet M 0 z)) (h0 : ¬ z = 0) (he : L.getD (z.toNatClampNeg - 1) "" = e) : ans L W9 B a o (rX e) S := by
  rw [ho]
  exact ans_x h h0 he

theorem Q_water {W9 : xWd} {B a : Nat} {S : cS} {M : mS} {k : Int32} {x : Int32} {K : xRes → cS → Prop} (h : RR W9 B a S M) (hk : ∀ r S2, ans [eB, eA] W9 B a (oWater M k x) r S2 → K r S2) : (spX7_water W9).2 [.ref a, .int k, .int x] S K := by
  have h0 := RR_set0 (z := 0) h
  have h00 := h0
  obtain ⟨d, np, N, hd, rfl, hi, hR, hp, hl, hN, hB⟩ := h00
  have g0 := hR.2.2.2.2.2.2.2.2.1.1
  obtain ⟨g7, g8, g9, g10, g11, g12, g13⟩ := hR.2.2.2.2.2.2.2.2.1.2.2
  have e29 : M.1 29 = nI (nBt M) := hi.1.1.1
  have e22 : M.1 22 = nI (nBg M) := hi.1.2.1.1
  have e46 : M.1 46 = nI (nCo M) := hi.1.2.2.1
  have b29 : nBt M ≤ 6 := hi.1.1.2
  have b22 : nBg M ≤ 24 := hi.1.2.1.2
  have b46 : nCo M ≤ 12 := hi.1.2.2.2
  have n29 : nBt (mSet M 0 0) = nBt M := rfl
  have n22 : nBg (mSet M 0 0) = nBg M := rfl
  have n46 : nCo (mSet M 0 0) = nCo M := rfl
  obtain ⟨f1, f2, f3, f4, f5, f6⟩ := R0_list hR
  have f5 : cFi S (d 6 0) 2 = nI 7 := f5
  rw [spwX7_water, f2, f5]
  refine ⟨g0, f1, f3, fun z => ⟨fun z2 => hk _ _ (ans_0 h0 (v := M.2 6 k.toNatClampNeg + mHeld (M.1 2 - x * M.1 3)) ?_ ?_), fun z2 => hk _ _ (ans_e h (z := 2) ?_ (by decide) rfl)⟩, fun z => hk _ _ (ans_e h (z := 1) ?_ (by decide) rfl)⟩
  · unfold oWater
    rw [if_neg (not_not_intro (by rw [idx6]; exact z)), if_pos z2]
  · rw [idx (by omega)] at z
    obtain ⟨w, hw, rfl⟩ := z
    obtain ⟨-, -, s601, -⟩ := hR.1 w hw
    rw [ix_nI (by omega), f6 w hw, s601, g8, g9, held_eq]
    rfl
  · unfold oWater
    rw [if_neg (not_not_intro (by rw [idx6]; exact z)), if_neg z2]
  · unfold oWater
    rw [if_pos (by rw [idx6]; exact z)]

theorem Q_most {W9 : xWd} {B a : Nat} {S : cS} {M : mS} {k : Int32} {u : Int32} {K : xRes → cS → Prop} (h : RR W9 B a S M) (hu : u = 0 ∨ u = 1) (hk : ∀ r S2, ans [eB] W9 B a (oMost M k u) r S2 → K r S2) : (spX7_most W9).2 [.ref a, .int k, .int u] S K := by
  have h0 := RR_set0 (z := 0) h
  have h00 := h0
  obtain ⟨d, np, N, hd, rfl, hi, hR, hp, hl, hN, hB⟩ := h00
  have g0 := hR.2.2.2.2.2.2.2.2.1.1
  obtain ⟨g7, g8, g9, g10, g11, g12, g13⟩ := hR.2.2.2.2.2.2.2.2.1.2.2
  have e29 : M.1 29 = nI (nBt M) := hi.1.1.1
  have e22 : M.1 22 = nI (nBg M) := hi.1.2.1.1
  have e46 : M.1 46 = nI (nCo M) := hi.1.2.2.1
  have b29 : nBt M ≤ 6 := hi.1.1.2
  have b22 : nBg M ≤ 24 := hi.1.2.1.2
  have b46 : nCo M ≤ 12 := hi.1.2.2.2
  have n29 : nBt (mSet M 0 0) = nBt M := rfl
  have n22 : nBg (mSet M 0 0) = nBg M := rfl
  have n46 : nCo (mSet M 0 0) = nCo M := rfl
  obtain ⟨f1, f2, f3, f4, f5, f6⟩ := R0_boats hR
  rw [n29] at f4 f5 f6
  rw [spwX7_most, f2, f5]
  refine ⟨hu, g0, f1, f3, fun z => hk _ _ (ans_0 h0 (v := mMost (mSet M 0 0) k u) ?_ ?_), fun z => hk _ _ (ans_e h (z := 1) ?_ (by decide) rfl)⟩
  · unfold oMost
    rw [if_pos (by rw [e29, le_m1 (by omega)]; exact z)]
  · rw [idx (by omega)] at z
    obtain ⟨w, hw, rfl⟩ := z
    obtain ⟨-, -, b201, -⟩ := hR.2.2.2.2.2.1 w hw
    unfold cPsh mMost
    rw [ix_nI (by omega), f6 w hw, b201, g8]
    congr 1
    split
    · rfl
    · exact Int32.mul_zero
  · unfold oMost
    rw [if_neg (by rw [e29, le_m1 (by omega)]; exact z)]

theorem Q_bars {W9 : xWd} {B a : Nat} {S : cS} {M : mS} {k : Int32} {K : xRes → cS → Prop} (h : RR W9 B a S M) (hk : ∀ r S2, ans [eB] W9 B a (oBars M k) r S2 → K r S2) : (spX7_bars W9).2 [.ref a, .int k] S K := by
  have h0 := RR_set0 (z := 0) h
  have h00 := h0
  obtain ⟨d, np, N, hd, rfl, hi, hR, hp, hl, hN, hB⟩ := h00
  have g0 := hR.2.2.2.2.2.2.2.2.1.1
  obtain ⟨g7, g8, g9, g10, g11, g12, g13⟩ := hR.2.2.2.2.2.2.2.2.1.2.2
  have e29 : M.1 29 = nI (nBt M) := hi.1.1.1
  have e22 : M.1 22 = nI (nBg M) := hi.1.2.1.1
  have e46 : M.1 46 = nI (nCo M) := hi.1.2.2.1
  have b29 : nBt M ≤ 6 := hi.1.1.2
  have b22 : nBg M ≤ 24 := hi.1.2.1.2
  have b46 : nCo M ≤ 12 := hi.1.2.2.2
  have n29 : nBt (mSet M 0 0) = nBt M := rfl
  have n22 : nBg (mSet M 0 0) = nBg M := rfl
  have n46 : nCo (mSet M 0 0) = nCo M := rfl
  obtain ⟨f1, f2, f3, f4, f5, f6⟩ := R0_boats hR
  rw [n29] at f4 f5 f6
  obtain ⟨s1, s2, s3, s4, s5, s6⟩ := R0_list hR
  have s5 : cFi S (d 6 0) 2 = nI 7 := s5
  have hba := R0_bAll hR hi
  rw [spwX7_bars, f2, f5, s2]
  refine ⟨g0, ⟨s1, s3⟩, hba, f1, f3, fun z => hk _ _ ?_, fun z => hk _ _ (ans_e h (z := 1) ?_ (by decide) rfl)⟩
  · have z1 : (0 ≤ k ∧ k ≤ M.1 29 - 1) := by rw [e29, le_m1 (by omega)]; exact z
    rw [idx (by omega)] at z
    obtain ⟨w, hw, rfl⟩ := z
    obtain ⟨x1, x2⟩ := R0_nx hR hi hw
    rw [ix_nI (by omega), f6 w hw]
    by_cases c : M.2 34 w = -1 ∧ ¬ M.2 37 w = -1
    · have hc := R0_cs hR hi hd hw c.1 c.2
      refine ans_0 h0 (v := mBar (mSet M 0 0) (nI w) (nBt (mSet M 0 0))) ?_ ?_
      · unfold oBars
        rw [if_neg (not_not_intro z1), ix_nI (by omega), if_neg (fun y => y.elim (fun q => q c.1) (fun q => c.2 q))]
      · rw [(x1 c).2]
        exact hc
    · refine ans_0 h0 (v := -1) ?_ ?_
      · unfold oBars
        rw [if_neg (not_not_intro z1), ix_nI (by omega), if_pos]
        by_cases q : M.2 34 w = -1
        · exact Or.inr (Classical.byContradiction (fun y => c ⟨q, y⟩))
        · exact Or.inl q
      · rw [x2 c]
  · unfold oBars
    rw [if_pos (by rw [e29, le_m1 (by omega)]; exact z)]

theorem Q_ofBoat {W9 : xWd} {B a : Nat} {S : cS} {M : mS} {k : Int32} {x : Int32} {K : xRes → cS → Prop} (h : RR W9 B a S M) (hk : ∀ r S2, ans [eB] W9 B a (oOfBoat M k x) r S2 → K r S2) : (spX7_ofBoat W9).2 [.ref a, .int k, .int x] S K := by
  have h0 := RR_set0 (z := 0) h
  have h00 := h0
  obtain ⟨d, np, N, hd, rfl, hi, hR, hp, hl, hN, hB⟩ := h00
  have g0 := hR.2.2.2.2.2.2.2.2.1.1
  obtain ⟨g7, g8, g9, g10, g11, g12, g13⟩ := hR.2.2.2.2.2.2.2.2.1.2.2
  have e29 : M.1 29 = nI (nBt M) := hi.1.1.1
  have e22 : M.1 22 = nI (nBg M) := hi.1.2.1.1
  have e46 : M.1 46 = nI (nCo M) := hi.1.2.2.1
  have b29 : nBt M ≤ 6 := hi.1.1.2
  have b22 : nBg M ≤ 24 := hi.1.2.1.2
  have b46 : nCo M ≤ 12 := hi.1.2.2.2
  have n29 : nBt (mSet M 0 0) = nBt M := rfl
  have n22 : nBg (mSet M 0 0) = nBg M := rfl
  have n46 : nCo (mSet M 0 0) = nCo M := rfl
  obtain ⟨f1, f2, f3, f4, f5, f6⟩ := R0_boats hR
  rw [n29] at f4 f5 f6
  have hba := R0_bAll hR hi
  rw [spwX7_ofBoat, f2, f5]
  refine ⟨g0, hba, f1, f3, fun z => ⟨fun z2 => hk _ _ (ans_0 h0 (v := mTold (mSet M 0 0) k x) ?_ ?_), fun z2 => hk _ _ (ans_e h (z := 1) ?_ (by decide) rfl)⟩, fun z => hk _ _ (ans_e h (z := 1) ?_ (by decide) rfl)⟩
  · unfold oOfBoat
    rw [if_pos ⟨by rw [e29, le_m1 (by omega)]; exact z, z2⟩]
  · rw [idx (by omega)] at z
    obtain ⟨w, hw, rfl⟩ := z
    obtain ⟨-, -, -, -, -, b204, b205, b206, b207, -, b209, b210, -, b213, -⟩ := hR.2.2.2.2.2.1 w hw
    obtain ⟨t1, -, -, t4, -⟩ := R0_tow hR hi hw
    obtain ⟨w1, w2⟩ := R0_wt hR hi hw
    have w3 := R0_wd hR hi hw
    have w4 := (hi.2.2.2.1 w hw).1.1
    unfold cTlb mTold
    rw [ix_nI (by omega), f6 w hw, t1, w1, w2, w3, t4, b204, b205, b206, b207, b209, b210, b213, ← w4]
  · unfold oOfBoat
    rw [if_neg (fun y => z2 y.2)]
  · unfold oOfBoat
    rw [if_neg (fun y => z (by rw [← le_m1 (by omega), ← e29]; exact y.1))]

theorem Q_waited {W9 : xWd} {B a : Nat} {S : cS} {M : mS} {k : Int32} {x : Int32} {K : xRes → cS → Prop} (h : RR W9 B a S M) (hk : ∀ r S2, ans [eB] W9 B a (oWaited M k x) r S2 → K r S2) : (spX7_waited W9).2 [.ref a, .int k, .int x] S K := by
  have h0 := RR_set0 (z := 0) h
  have h00 := h0
  obtain ⟨d, np, N, hd, rfl, hi, hR, hp, hl, hN, hB⟩ := h00
  have g0 := hR.2.2.2.2.2.2.2.2.1.1
  obtain ⟨g7, g8, g9, g10, g11, g12, g13⟩ := hR.2.2.2.2.2.2.2.2.1.2.2
  have e29 : M.1 29 = nI (nBt M) := hi.1.1.1
  have e22 : M.1 22 = nI (nBg M) := hi.1.2.1.1
  have e46 : M.1 46 = nI (nCo M) := hi.1.2.2.1
  have b29 : nBt M ≤ 6 := hi.1.1.2
  have b22 : nBg M ≤ 24 := hi.1.2.1.2
  have b46 : nCo M ≤ 12 := hi.1.2.2.2
  have n29 : nBt (mSet M 0 0) = nBt M := rfl
  have n22 : nBg (mSet M 0 0) = nBg M := rfl
  have n46 : nCo (mSet M 0 0) = nCo M := rfl
  obtain ⟨f1, f2, f3, f4, f5, f6⟩ := R0_boats hR
  rw [n29] at f4 f5 f6
  rw [spwX7_waited, f2, f5]
  have hbw : bWt S (d 6 4) := fun j hj => by
    rw [f4] at hj
    rw [f6 j hj]
    obtain ⟨-, w2, w3, w4⟩ := R0_wait_f hR hj
    rw [w3]
    exact ⟨w2, w4⟩
  refine ⟨g0, hbw, f1, f3, fun z => ⟨fun z2 => hk _ _ (ans_0 h0 (v := M.2 44 (10 * k + x).toNatClampNeg) ?_ ?_), fun z2 => hk _ _ (ans_e h (z := 1) ?_ (by decide) rfl)⟩, fun z => hk _ _ (ans_e h (z := 1) ?_ (by decide) rfl)⟩
  · unfold oWaited
    rw [if_pos ⟨by rw [e29, le_m1 (by omega)]; exact z, z2⟩]
  · rw [idx (by omega)] at z
    obtain ⟨w, hw, rfl⟩ := z
    obtain ⟨c, c1, c2, rfl⟩ := in_1n (a := 1) (b := 9) z2.1 z2.2 (by omega) (by omega)
    obtain ⟨-, w2, w3, w4⟩ := R0_wait_f hR hw
    rw [ix_nI (by omega), f6 w hw, w3, ix_nI (by omega), (hR.2.2.2.2.2.2.2.1 w hw).2.2 c (by omega), m10_nI, add_nI, ix_nI (by omega)]
    rfl
  · unfold oWaited
    rw [if_neg (fun y => z2 y.2)]
  · unfold oWaited
    rw [if_neg (fun y => z (by rw [← le_m1 (by omega), ← e29]; exact y.1))]

theorem Q_ofContract {W9 : xWd} {B a : Nat} {S : cS} {M : mS} {k : Int32} {x : Int32} {K : xRes → cS → Prop} (h : RR W9 B a S M) (hk : ∀ r S2, ans [eB] W9 B a (oOfContract M k x) r S2 → K r S2) : (spX7_ofContract W9).2 [.ref a, .int k, .int x] S K := by
  have h0 := RR_set0 (z := 0) h
  have h00 := h0
  obtain ⟨d, np, N, hd, rfl, hi, hR, hp, hl, hN, hB⟩ := h00
  have g0 := hR.2.2.2.2.2.2.2.2.1.1
  obtain ⟨g7, g8, g9, g10, g11, g12, g13⟩ := hR.2.2.2.2.2.2.2.2.1.2.2
  have e29 : M.1 29 = nI (nBt M) := hi.1.1.1
  have e22 : M.1 22 = nI (nBg M) := hi.1.2.1.1
  have e46 : M.1 46 = nI (nCo M) := hi.1.2.2.1
  have b29 : nBt M ≤ 6 := hi.1.1.2
  have b22 : nBg M ≤ 24 := hi.1.2.1.2
  have b46 : nCo M ≤ 12 := hi.1.2.2.2
  have n29 : nBt (mSet M 0 0) = nBt M := rfl
  have n22 : nBg (mSet M 0 0) = nBg M := rfl
  have n46 : nCo (mSet M 0 0) = nCo M := rfl
  obtain ⟨f1, f2, f3, f4, f5, f6⟩ := R0_cons hR
  rw [n46] at f4 f5 f6
  rw [spwX7_ofContract, f2, f5]
  refine ⟨g0, f1, f3, fun z => ⟨fun z2 => hk _ _ (ans_0 h0 (v := mTelc (mSet M 0 0) k x) ?_ ?_), fun z2 => hk _ _ (ans_e h (z := 1) ?_ (by decide) rfl)⟩, fun z => hk _ _ (ans_e h (z := 1) ?_ (by decide) rfl)⟩
  · unfold oOfContract
    rw [if_pos ⟨by rw [e46, le_m1 (by omega)]; exact z, z2⟩]
  · rw [idx (by omega)] at z
    obtain ⟨w, hw, rfl⟩ := z
    obtain ⟨-, -, -, -, c303, c304, -, -, c307, c308, c309, c310⟩ := hR.2.2.2.2.1 w hw
    unfold cTlc mTelc
    rw [ix_nI (by omega), f6 w hw, c303, c304, c307, c308, c309, c310]
  · unfold oOfContract
    rw [if_neg (fun y => z2 y.2)]
  · unfold oOfContract
    rw [if_neg (fun y => z (by rw [← le_m1 (by omega), ← e46]; exact y.1))]

