/-! The reference's rows through an hour: what they owe stays; the notes still to come. -/
theorem iAll_hr {M M2 : mS} (h : iAll M) (c : ∀ k, k = 1 ∨ k = 4 ∨ k = 22 ∨ k = 29 ∨ k = 46 → M2.1 k = M.1 k) (m : ∀ k, k ≠ 15 → k ≠ 16 → k ≠ 32 → k ≠ 33 → k ≠ 34 → k ≠ 35 → k ≠ 36 → k ≠ 37 → k ≠ 38 → k ≠ 39 → k ≠ 43 → k ≠ 44 → k ≠ 45 → M2.2 k = M.2 k)
    (h15 : ∀ s, s < 7 → M2.2 15 s = 0 ∨ M2.2 15 s = 1) (hb : iBoa M2) (ha : iAgr M2) (hz : ∀ w, w < 6 → nBt M ≤ w → M2.2 32 w = M.2 32 w ∧ M2.2 39 w = M.2 39 w ∧ (M2.2 43 w = M.2 43 w ∧ M2.2 35 w = M.2 35 w) ∧ ∀ c, c < 10 → M2.2 44 (10 * w + c) = M.2 44 (10 * w + c)) : iAll M2 := by
  obtain ⟨⟨i1, i2, i3⟩, i4, i5, i6, i7, i8, i9, i10, ⟨i11, i12⟩, i13⟩ := h
  have c1 := c 1 (by omega)
  have c4 := c 4 (by omega)
  have c22 := c 22 (by omega)
  have c29 := c 29 (by omega)
  have c46 := c 46 (by omega)
  have n22 : nBg M2 = nBg M := by unfold nBg; rw [c22]
  have n29 : nBt M2 = nBt M := by unfold nBt; rw [c29]
  have n46 : nCo M2 = nCo M := by unfold nCo; rw [c46]
  have q := fun k a b c d e f g h i j l o p => m k a b c d e f g h i j l o p
  have m5 : M2.2 5 = M.2 5 := m 5 (by omega) (by omega) (by omega) (by omega) (by omega) (by omega) (by omega) (by omega) (by omega) (by omega) (by omega) (by omega) (by omega)
  have m7 : M2.2 7 = M.2 7 := m 7 (by omega) (by omega) (by omega) (by omega) (by omega) (by omega) (by omega) (by omega) (by omega) (by omega) (by omega) (by omega) (by omega)
  have m9 : M2.2 9 = M.2 9 := m 9 (by omega) (by omega) (by omega) (by omega) (by omega) (by omega) (by omega) (by omega) (by omega) (by omega) (by omega) (by omega) (by omega)
  have m17 : M2.2 17 = M.2 17 := m 17 (by omega) (by omega) (by omega) (by omega) (by omega) (by omega) (by omega) (by omega) (by omega) (by omega) (by omega) (by omega) (by omega)
  have m18 : M2.2 18 = M.2 18 := m 18 (by omega) (by omega) (by omega) (by omega) (by omega) (by omega) (by omega) (by omega) (by omega) (by omega) (by omega) (by omega) (by omega)
  have m19 : M2.2 19 = M.2 19 := m 19 (by omega) (by omega) (by omega) (by omega) (by omega) (by omega) (by omega) (by omega) (by omega) (by omega) (by omega) (by omega) (by omega)
  have m20 : M2.2 20 = M.2 20 := m 20 (by omega) (by omega) (by omega) (by omega) (by omega) (by omega) (by omega) (by omega) (by omega) (by omega) (by omega) (by omega) (by omega)
  have m23 : M2.2 23 = M.2 23 := m 23 (by omega) (by omega) (by omega) (by omega) (by omega) (by omega) (by omega) (by omega) (by omega) (by omega) (by omega) (by omega) (by omega)
  have m24 : M2.2 24 = M.2 24 := m 24 (by omega) (by omega) (by omega) (by omega) (by omega) (by omega) (by omega) (by omega) (by omega) (by omega) (by omega) (by omega) (by omega)
  have m25 : M2.2 25 = M.2 25 := m 25 (by omega) (by omega) (by omega) (by omega) (by omega) (by omega) (by omega) (by omega) (by omega) (by omega) (by omega) (by omega) (by omega)
  have m27 : M2.2 27 = M.2 27 := m 27 (by omega) (by omega) (by omega) (by omega) (by omega) (by omega) (by omega) (by omega) (by omega) (by omega) (by omega) (by omega) (by omega)
  have m28 : M2.2 28 = M.2 28 := m 28 (by omega) (by omega) (by omega) (by omega) (by omega) (by omega) (by omega) (by omega) (by omega) (by omega) (by omega) (by omega) (by omega)
  have m40 : M2.2 40 = M.2 40 := m 40 (by omega) (by omega) (by omega) (by omega) (by omega) (by omega) (by omega) (by omega) (by omega) (by omega) (by omega) (by omega) (by omega)
  have m41 : M2.2 41 = M.2 41 := m 41 (by omega) (by omega) (by omega) (by omega) (by omega) (by omega) (by omega) (by omega) (by omega) (by omega) (by omega) (by omega) (by omega)
  have m42 : M2.2 42 = M.2 42 := m 42 (by omega) (by omega) (by omega) (by omega) (by omega) (by omega) (by omega) (by omega) (by omega) (by omega) (by omega) (by omega) (by omega)
  have m47 : M2.2 47 = M.2 47 := m 47 (by omega) (by omega) (by omega) (by omega) (by omega) (by omega) (by omega) (by omega) (by omega) (by omega) (by omega) (by omega) (by omega)
  have m48 : M2.2 48 = M.2 48 := m 48 (by omega) (by omega) (by omega) (by omega) (by omega) (by omega) (by omega) (by omega) (by omega) (by omega) (by omega) (by omega) (by omega)
  have m49 : M2.2 49 = M.2 49 := m 49 (by omega) (by omega) (by omega) (by omega) (by omega) (by omega) (by omega) (by omega) (by omega) (by omega) (by omega) (by omega) (by omega)
  have m51 : M2.2 51 = M.2 51 := m 51 (by omega) (by omega) (by omega) (by omega) (by omega) (by omega) (by omega) (by omega) (by omega) (by omega) (by omega) (by omega) (by omega)
  have m53 : M2.2 53 = M.2 53 := m 53 (by omega) (by omega) (by omega) (by omega) (by omega) (by omega) (by omega) (by omega) (by omega) (by omega) (by omega) (by omega) (by omega)
  have m54 : M2.2 54 = M.2 54 := m 54 (by omega) (by omega) (by omega) (by omega) (by omega) (by omega) (by omega) (by omega) (by omega) (by omega) (by omega) (by omega) (by omega)
  have m55 : M2.2 55 = M.2 55 := m 55 (by omega) (by omega) (by omega) (by omega) (by omega) (by omega) (by omega) (by omega) (by omega) (by omega) (by omega) (by omega) (by omega)
  have eT : ∀ t, nT M2 t = nT M t := fun t => by unfold nT; rw [m18]
  have eW : ∀ w, nW M2 w = nW M w := fun w => by unfold nW; rw [m42]
  refine ⟨⟨by rw [c29, n29]; exact i1, by rw [c22, n22]; exact i2, by rw [c46, n46]; exact i3⟩, fun s hs => ?_, fun t ht => ?_, fun w hw => ?_, fun g hg => ?_, fun c hc => ?_, hb, ha, ⟨fun w hw hn => ?_, fun c hc hn => ?_⟩, ?_⟩
  · rw [m9, m7, m5]; exact ⟨(i4 s hs).1, (i4 s hs).2.1, h15 s hs⟩
  · rw [eT, m17, m18, m19, m28, m27, n22]; exact i5 t ht
  · rw [n29] at hw
    unfold mWk
    rw [eW, m42, m40, m41, m28, n22]; exact i6 w hw
  · rw [n22] at hg
    rw [m28, m27, m19, m41, m24, m25, m23, n29, n46]
    simp only [eT, eW]
    exact i7 g hg
  · rw [n46] at hc
    rw [m47, m48, m49, m51]; exact i8 c hc
  · rw [n29] at hn
    obtain ⟨z1, z2, z3, z4⟩ := hz w hw hn
    obtain ⟨y1, y2, y3, y4, y5⟩ := i11 w hw hn
    exact ⟨z1.trans y1, z2.trans y2, by rw [m42]; exact y3, ⟨z3.1.trans y4.1, z3.2.trans y4.2⟩, fun c hc => (z4 c hc).trans (y5 c hc)⟩
  · rw [n46] at hn
    rw [m53, m54, m55]; exact i12 c hc hn
  · obtain ⟨t1, t2, t3⟩ := i13
    exact ⟨by rw [c1]; exact t1, by rw [c4]; exact t2, fun p hp => by rw [m20, c1]; exact t3 p hp⟩
theorem iBoa_of {M M2 : mS} (h : iBoa M) (c : M2.1 29 = M.1 29) (m : ∀ k, k = 33 ∨ k = 34 ∨ k = 35 ∨ k = 36 ∨ k = 37 → M2.2 k = M.2 k) : iBoa M2 := by
  intro w hw
  have n29 : nBt M2 = nBt M := by unfold nBt; rw [c]
  rw [n29] at hw
  rw [m 33 (by omega), m 34 (by omega), m 35 (by omega), m 36 (by omega), m 37 (by omega)]
  exact h w hw
theorem iAgr_of {M M2 : mS} (h : iAgr M) (c : M2.1 29 = M.1 29) (m : M2.2 45 = M.2 45) : iAgr M2 := by
  intro w v hw hv
  have n29 : nBt M2 = nBt M := by unfold nBt; rw [c]
  rw [m, n29]
  exact h w v hw hv
/-! the notes still to come -/
def gD (a b : Int32) : Nat := (a.toInt - b.toInt).natAbs
def way (M : mS) (w : Nat) : Nat := if M.2 34 w = -1 then (if M.2 37 w = -1 then 0 else 2 * gD (M.2 37 w) (M.2 33 w)) else 1 + (if M.2 37 w = -1 then 0 else 2 * gD (M.2 37 w) (mPtA M w))
def ways (M : mS) : Nat → Nat
  | 0 => 0
  | k + 1 => ways M k + way M k
theorem ways_same {M M2 : mS} : ∀ n, (∀ v, v < n → way M2 v = way M v) → ways M2 n = ways M n
  | 0, _ => rfl
  | n + 1, h => by
    show ways M2 n + way M2 n = ways M n + way M n
    rw [ways_same n (fun v hv => h v (by omega)), h n (by omega)]
theorem ways_at {M M2 : mS} {w : Nat} : ∀ n, w < n → (∀ v, v < n → v ≠ w → way M2 v = way M v) → ways M2 n + way M w = ways M n + way M2 w
  | 0, h, _ => by omega
  | n + 1, h, hs => by
    show ways M2 n + way M2 n + way M w = ways M n + way M n + way M2 w
    by_cases c : w = n
    · subst c
      rw [ways_same w (fun v hv => hs v (by omega) (by omega))]
      omega
    · have ih := ways_at n (by omega) (fun v hv hn => hs v (by omega) hn) (M := M) (M2 := M2)
      rw [hs n (by omega) (fun z => c z.symm)]
      omega
theorem way_of {M M2 : mS} {w : Nat} (h34 : M2.2 34 w = M.2 34 w) (h37 : M2.2 37 w = M.2 37 w) (h33 : M2.2 33 w = M.2 33 w) (h35 : M2.2 35 w = M.2 35 w) : way M2 w = way M w := by
  unfold way mPtA
  rw [h34, h37, h33, h35]
theorem gD_nI {a b : Nat} (ha : a < 1000) (hb : b < 1000) : gD (nI a) (nI b) = (Int.natAbs ((a : Int) - (b : Int))) := by unfold gD; rw [nI_toInt (by omega), nI_toInt (by omega)]
/-! to enter a section -/
theorem mEnt_k {M : mS} {w k : Nat} (h : k ≠ 32 ∧ k ≠ 36 ∧ k ≠ 34 ∧ k ≠ 35 ∧ k ≠ 16 ∧ k ≠ 15) : (mEnt M w).2 k = M.2 k := by
  unfold mEnt
  split
  · rw [mAst_ne h.2.2.2.1, mAst_ne h.2.2.1, mAst_ne h.2.1, mAst_ne h.1]
  · rw [mAst_ne h.2.2.2.2.2, mAst_ne h.2.2.2.2.1, mAst_ne h.2.2.2.1, mAst_ne h.2.2.1, mAst_ne h.2.1, mAst_ne h.1]
theorem mEnt_v {M : mS} {w v : Nat} : (mEnt M w).2 34 v = (if v = w then mNext M (nI w) else M.2 34 v) ∧ (mEnt M w).2 35 v = (if v = w then mUp M (nI w) else M.2 35 v) ∧ (mEnt M w).2 36 v = (if v = w then mHrs M (mNext M (nI w)) (nI w) (mUp M (nI w)) else M.2 36 v) ∧ (mEnt M w).2 32 v = (if v = w then M.2 32 w - M.2 30 w * mHrs M (mNext M (nI w)) (nI w) (mUp M (nI w)) else M.2 32 v) := by
  unfold mEnt
  split
  · refine ⟨?_, ?_, ?_, ?_⟩
    · rw [mAst_ne (by omega), mAst_eq, mAst_ne (by omega), mAst_ne (by omega)]
    · rw [mAst_eq, mAst_ne (by omega), mAst_ne (by omega), mAst_ne (by omega)]
    · rw [mAst_ne (by omega), mAst_ne (by omega), mAst_eq, mAst_ne (by omega)]
    · rw [mAst_ne (by omega), mAst_ne (by omega), mAst_ne (by omega), mAst_eq]
  · refine ⟨?_, ?_, ?_, ?_⟩
    · rw [mAst_ne (by omega), mAst_ne (by omega), mAst_ne (by omega), mAst_eq, mAst_ne (by omega), mAst_ne (by omega)]
    · rw [mAst_ne (by omega), mAst_ne (by omega), mAst_eq, mAst_ne (by omega), mAst_ne (by omega), mAst_ne (by omega)]
    · rw [mAst_ne (by omega), mAst_ne (by omega), mAst_ne (by omega), mAst_ne (by omega), mAst_eq, mAst_ne (by omega)]
    · rw [mAst_ne (by omega), mAst_ne (by omega), mAst_ne (by omega), mAst_ne (by omega), mAst_ne (by omega), mAst_eq]
theorem mEnt_s {M : mS} {w s : Nat} : (mEnt M w).2 15 s = (if ¬ M.2 5 (mNext M (nI w)).toNatClampNeg = 0 ∧ s = (mNext M (nI w)).toNatClampNeg then mUp M (nI w) else M.2 15 s) ∧ (mEnt M w).2 16 s = (if ¬ M.2 5 (mNext M (nI w)).toNatClampNeg = 0 ∧ s = (mNext M (nI w)).toNatClampNeg then (if M.2 15 s = mUp M (nI w) then M.2 16 s + 1 else 1) else M.2 16 s) := by
  unfold mEnt
  by_cases c : M.2 5 (mNext M (nI w)).toNatClampNeg = 0
  · rw [if_pos c, if_neg (fun z => z.1 c), if_neg (fun z => z.1 c)]
    rw [mAst_ne (by omega), mAst_ne (by omega), mAst_ne (by omega), mAst_ne (by omega), mAst_ne (by omega), mAst_ne (by omega), mAst_ne (by omega), mAst_ne (by omega)]
    exact ⟨rfl, rfl⟩
  · rw [if_neg c]
    rw [mAst_eq]
    constructor
    · by_cases c2 : s = (mNext M (nI w)).toNatClampNeg
      · rw [if_pos c2, if_pos ⟨c, c2⟩]
      · rw [if_neg c2, mAst_ne (by omega), mAst_ne (by omega), mAst_ne (by omega), mAst_ne (by omega), mAst_ne (by omega), if_neg (fun z => c2 z.2)]
    · rw [mAst_ne (by omega), mAst_eq]
      by_cases c2 : s = (mNext M (nI w)).toNatClampNeg
      · subst c2
        rw [if_pos rfl]
        exact (if_pos ⟨c, rfl⟩).symm
      · rw [if_neg c2, mAst_ne (by omega), mAst_ne (by omega), mAst_ne (by omega), mAst_ne (by omega)]
        exact (if_neg (fun z => c2 z.2)).symm
theorem hrs_dec1 : ∀ h, h < 9 → ∀ i, i < 4 → decide (1 ≤ nI (h + 1) * 1 + nI i ∧ nI (h + 1) * 1 + nI i ≤ 100 ∧ 1 ≤ nI (h + 1) * 2 + nI i ∧ nI (h + 1) * 2 + nI i ≤ 100) = true := by decide +kernel
theorem hrs_dec2 : ∀ i, i < 4 → decide ((1 ≤ 1 + nI i ∧ 1 + nI i ≤ 100) ∧ (1 ≤ 3 + nI i ∧ 3 + nI i ≤ 100) ∧ 1 ≤ 2 + nI i ∧ 2 + nI i ≤ 100) = true := by decide +kernel
theorem in_1n {x : Int32} {a b : Nat} (h1 : nI a ≤ x) (h2 : x ≤ nI b) (hb : b < 900) (ha : a < 900) : ∃ j, a ≤ j ∧ j ≤ b ∧ x = nI j := by
  have z1 := Int32.le_iff_toInt_le.mp h1
  have z2 := Int32.le_iff_toInt_le.mp h2
  rw [nI_toInt (by omega)] at z1 z2
  have hin : vp_in x (b + 1) := vp_in_iff.mpr (by omega)
  obtain ⟨j, hj, rfl⟩ := vp_in_of hin (by omega)
  rw [nI_toInt (by omega)] at z1
  exact ⟨j, by omega, by omega, rfl⟩
theorem mHrs_in {M : mS} (hi : iSec M) {s : Nat} (hs : s < 7) (b u : Int32) : 1 ≤ mHrs M (nI s) b u ∧ mHrs M (nI s) b u ≤ 100 := by
  obtain ⟨⟨⟨h1, h2⟩, h3, h4⟩, -⟩ := hi s hs
  obtain ⟨a, a1, a2, ea⟩ := in_1n (a := 1) (b := 9) h1 h2 (by omega) (by omega)
  obtain ⟨i, i1, i2, ei⟩ := in_1n (a := 0) (b := 3) h3 h4 (by omega) (by omega)
  obtain ⟨h, rfl⟩ : ∃ h, a = h + 1 := ⟨a - 1, by omega⟩
  obtain ⟨q1, q2, q3, q4⟩ := of_decide_eq_true (hrs_dec1 h (by omega) i (by omega))
  obtain ⟨p3, p4, p5⟩ := of_decide_eq_true (hrs_dec2 i (by omega))
  have p1 := And.intro q1 q2
  have p2 := And.intro q3 q4
  unfold mHrs
  rw [ix_nI (by omega), ea, ei]
  split
  · split
    · exact p1
    · exact p2
  · split
    · exact p3
    · split
      · exact p4
      · exact p5
theorem iAll_ent {M : mS} (h : iAll M) {w : Nat} (hw : w < nBt M) (hs : M.2 34 w = -1) (hg : ¬ M.2 37 w = -1) : iAll (mEnt M w) ∧ ways (mEnt M w) (nBt M) + 1 = ways M (nBt M) := by
  have hb := h.1.1.2
  have hin := mNext_in (show w < 6 by omega) ((iAll_h h).2.1 w hw) hs hg
  obtain ⟨j, hj, ej, ej2⟩ := nx_nat hin (by omega)
  obtain ⟨b1, b2, b3⟩ := h.2.2.2.2.2.2.1 w hw
  obtain ⟨b4, b5, b6⟩ := b3.resolve_right (fun z => vin_m1 (hs ▸ z.1))
  obtain ⟨p, hp, ep⟩ := vp_in_of b5 (by omega)
  obtain ⟨g, hgg, eg⟩ := vp_in_of (b1.resolve_left hg) (by omega)
  have hu01 : mUp M (nI w) = 0 ∨ mUp M (nI w) = 1 := bi_01 _
  refine ⟨iAll_hr h (fun k _ => by rw [mEnt_1]) (fun k a1 a2 a3 _ a5 a6 a7 _ _ _ _ _ _ => mEnt_k ⟨a3, a7, a5, a6, a2, a1⟩) (fun s hs2 => ?_) (fun v hv => ?_) (iAgr_of h.2.2.2.2.2.2.2.1 (by rw [mEnt_1]) (mEnt_k (by omega))) (fun v hv hn => ?_), ?_⟩
  · rw [mEnt_s.1]
    split
    · exact hu01
    · exact (h.2.1 s hs2).2.2
  · have n29 : nBt (mEnt M w) = nBt M := nBt_eq (by rw [mEnt_1])
    rw [n29] at hv
    rw [mEnt_k (k := 37) (by omega), mEnt_k (k := 33) (by omega), mEnt_v.1, mEnt_v.2.1, mEnt_v.2.2.1]
    by_cases c : v = w
    · subst c
      rw [if_pos rfl, if_pos rfl, if_pos rfl]
      exact ⟨b1, hu01, Or.inr ⟨hin, by rw [ej]; exact mHrs_in h.2.1 hj _ _⟩⟩
    · rw [if_neg c, if_neg c, if_neg c]
      exact h.2.2.2.2.2.2.1 v hv
  · rw [mEnt_k (k := 39) (by omega), mEnt_k (k := 43) (by omega), mEnt_k (k := 44) (by omega), mEnt_v.2.2.2, if_neg (by omega), mEnt_v.2.1, if_neg (by omega)]
    exact ⟨rfl, rfl, ⟨rfl, rfl⟩, fun _ _ => rfl⟩
  · have hat := ways_at (M := M) (M2 := mEnt M w) (w := w) (nBt M) hw (fun v hv hne => way_of (by rw [mEnt_v.1, if_neg hne]) (by rw [mEnt_k (by omega)]) (by rw [mEnt_k (by omega)]) (by rw [mEnt_v.2.1, if_neg hne]))
    have e1 : way M w = 2 * Int.natAbs ((g : Int) - (p : Int)) := by
      unfold way
      rw [if_pos hs, if_neg hg, eg, ep, gD_nI (by omega) (by omega)]
    have e2 : way (mEnt M w) w + 1 = 2 * Int.natAbs ((g : Int) - (p : Int)) := by
      unfold way mPtA
      rw [mEnt_v.1, mEnt_v.2.1, if_pos rfl, if_pos rfl, mEnt_k (k := 37) (by omega), if_neg (by rw [ej]; exact nI_m1 (by omega)), if_neg hg, eg]
      have hm : mNext M (nI w) = if nI p < nI g then nI p else nI p - 1 := by
        unfold mNext
        rw [ix_nI (by omega), eg, ep]
      have hup : mUp M (nI w) = bi (nI p < nI g) := by
        unfold mUp
        rw [ix_nI (by omega), eg, ep]
      have hne : g ≠ p := fun z => b6 (by rw [eg, ep, z])
      by_cases c : p < g
      · have c2 : nI p < nI g := nI_lt c (by omega)
        rw [hm, if_pos c2, hup, bi_t c2, if_neg (by decide), nI1, gD_nI (by omega) (by omega)]
        omega
      · have c2 : ¬ nI p < nI g := fun z => c (by rw [lt_nI (by omega) (by omega)] at z; exact z)
        rw [hm, if_neg c2, hup, bi_f c2, if_pos rfl, sub1_nI (by omega), gD_nI (by omega) (by omega)]
        omega
    omega
/-! to come to a point -/
theorem mAgr_45 {M : mS} {w : Nat} (hw : w < 6) : ∀ n, n ≤ 6 → ∀ a b, a < 6 → b < 6 → (mAgr M w n).2 45 (6 * a + b) = if (a = w ∧ b < n) ∨ (b = w ∧ a < n) then 0 else M.2 45 (6 * a + b)
  | 0, _, a, b, _, _ => by rw [if_neg (by omega)]; rfl
  | n + 1, hn, a, b, ha, hb => by
    show (mAst (mAst (mAgr M w n) 45 (6 * w + n) 0) 45 (6 * n + w) 0).2 45 (6 * a + b) = _
    rw [mAst_eq, mAst_eq, mAgr_45 hw n (by omega) a b ha hb]
    by_cases c1 : a = n ∧ b = w
    · rw [if_pos (by omega), if_pos (Or.inr ⟨c1.2, by omega⟩)]
    · rw [if_neg (by omega)]
      by_cases c2 : a = w ∧ b = n
      · rw [if_pos (by omega), if_pos (Or.inl ⟨c2.1, by omega⟩)]
      · rw [if_neg (by omega)]
        by_cases c3 : (a = w ∧ b < n) ∨ (b = w ∧ a < n)
        · rw [if_pos c3, if_pos (by omega)]
        · rw [if_neg c3, if_neg (by omega)]
theorem mCome_k {M : mS} {w k : Nat} (h : k ≠ 33 ∧ k ≠ 34 ∧ k ≠ 38 ∧ k ≠ 37 ∧ k ≠ 45) : (mCome M w).2 k = M.2 k := by
  unfold mCome
  rw [mAgr_2 _ _ _ _ h.2.2.2.2]
  unfold mCm1
  rw [mAst_ne h.2.2.2.1, mAst_ne h.2.2.1, mAst_ne h.2.1, mAst_ne h.1]
theorem mCome_v {M : mS} {w v : Nat} : (mCome M w).2 34 v = (if v = w then -1 else M.2 34 v) ∧ (mCome M w).2 33 v = (if v = w then mPtA M w else M.2 33 v) ∧ (mCome M w).2 38 v = (if v = w then M.1 1 else M.2 38 v) ∧ (mCome M w).2 37 v = (if v = w then (if M.2 37 w = mPtA M w then -1 else M.2 37 w) else M.2 37 v) := by
  unfold mCome
  rw [mAgr_2 _ _ _ 34 (by omega), mAgr_2 _ _ _ 33 (by omega), mAgr_2 _ _ _ 38 (by omega), mAgr_2 _ _ _ 37 (by omega)]
  unfold mCm1
  refine ⟨?_, ?_, ?_, ?_⟩
  · rw [mAst_ne (by omega), mAst_ne (by omega), mAst_eq, mAst_ne (by omega)]
  · rw [mAst_ne (by omega), mAst_ne (by omega), mAst_ne (by omega), mAst_eq]
  · rw [mAst_ne (by omega), mAst_eq, mAst_ne (by omega), mAst_ne (by omega)]
  · rw [mAst_eq, mAst_ne (by omega), mAst_ne (by omega), mAst_ne (by omega)]
theorem mCome_45 {M : mS} {w : Nat} (hw : w < 6) (hb : nBt M ≤ 6) {a b : Nat} (ha : a < 6) (hb2 : b < 6) : (mCome M w).2 45 (6 * a + b) = if (a = w ∧ b < nBt M) ∨ (b = w ∧ a < nBt M) then 0 else M.2 45 (6 * a + b) := by
  unfold mCome
  rw [mAgr_45 hw _ hb a b ha hb2]
  unfold mCm1
  rw [mAst_ne (by omega), mAst_ne (by omega), mAst_ne (by omega), mAst_ne (by omega)]
theorem ptA_in {M : mS} (h : iAll M) {w : Nat} (hw : w < nBt M) (hs : ¬ M.2 34 w = -1) : ∃ p, p < 8 ∧ mPtA M w = nI p := by
  obtain ⟨b1, b2, b3⟩ := h.2.2.2.2.2.2.1 w hw
  obtain ⟨b4, -⟩ := b3.resolve_left (fun z => hs z.1)
  obtain ⟨j, hj, ej⟩ := vp_in_of b4 (by omega)
  unfold mPtA
  rw [ej]
  split
  · exact ⟨j, by omega, rfl⟩
  · exact ⟨j + 1, by omega, nI1⟩
theorem iAll_come {M : mS} (h : iAll M) {w : Nat} (hw : w < nBt M) (hs : ¬ M.2 34 w = -1) : iAll (mCome M w) ∧ ways (mCome M w) (nBt M) + 1 = ways M (nBt M) := by
  have hb := h.1.1.2
  obtain ⟨b1, b2, b3⟩ := h.2.2.2.2.2.2.1 w hw
  obtain ⟨p, hp, ep⟩ := ptA_in h hw hs
  have n29 : nBt (mCome M w) = nBt M := nBt_eq (by rw [mCome_1])
  refine ⟨iAll_hr h (fun k _ => by rw [mCome_1]) (fun k a1 a2 a3 a4 a5 a6 a7 a8 a9 _ _ _ a13 => mCome_k ⟨a4, a5, a9, a8, a13⟩) (fun s hs2 => ?_) (fun v hv => ?_) (fun a b ha hb2 => ?_) (fun v hv hn => ?_), ?_⟩
  · rw [mCome_k (by omega)]
    exact (h.2.1 s hs2).2.2
  · rw [n29] at hv
    rw [mCome_v.1, mCome_v.2.1, mCome_v.2.2.2, mCome_k (k := 35) (by omega), mCome_k (k := 36) (by omega)]
    by_cases c : v = w
    · subst c
      simp only [if_true]
      refine ⟨?_, b2, Or.inl ⟨trivial, by rw [ep]; exact xin_nI hp (by omega), ?_⟩⟩
      · split
        · exact Or.inl rfl
        · exact b1
      · by_cases c2 : M.2 37 v = mPtA M v
        · rw [if_pos c2, ep]
          exact fun z => nI_m1 (by omega) z.symm
        · rw [if_neg c2]
          exact c2
    · simp only [c, if_false]
      exact h.2.2.2.2.2.2.1 v hv
  · obtain ⟨z1, z2, z3⟩ := h.2.2.2.2.2.2.2.1 a b ha hb2
    rw [mCome_45 (by omega) hb ha hb2, mCome_45 (by omega) hb hb2 ha, n29]
    by_cases c : (a = w ∧ b < nBt M) ∨ (b = w ∧ a < nBt M)
    · rw [if_pos c, if_pos (by omega)]
      exact ⟨Or.inl rfl, rfl, fun _ => rfl⟩
    · rw [if_neg c, if_neg (by omega)]
      exact ⟨z1, z2, z3⟩
  · rw [mCome_k (k := 32) (by omega), mCome_k (k := 39) (by omega), mCome_k (k := 43) (by omega), mCome_k (k := 44) (by omega), mCome_k (k := 35) (by omega)]
    exact ⟨rfl, rfl, ⟨rfl, rfl⟩, fun _ _ => rfl⟩
  · have hat := ways_at (M := M) (M2 := mCome M w) (w := w) (nBt M) hw (fun v hv hne => way_of (by rw [mCome_v.1, if_neg hne]) (by rw [mCome_v.2.2.2, if_neg hne]) (by rw [mCome_v.2.1, if_neg hne]) (by rw [mCome_k (by omega)]))
    have e2 : way (mCome M w) w + 1 = way M w := by
      unfold way
      rw [mCome_v.1, mCome_v.2.1, mCome_v.2.2.2, if_pos rfl, if_pos rfl, if_pos rfl, if_pos rfl, if_neg hs]
      by_cases c : M.2 37 w = mPtA M w
      · rw [if_pos c, if_pos rfl, c, ep, if_neg (nI_m1 (by omega)), gD_nI (by omega) (by omega)]
        omega
      · rw [if_neg c]
        by_cases c2 : M.2 37 w = -1
        · rw [if_pos c2]
        · rw [if_neg c2]
          omega
    omega
theorem iAll_ast {M : mS} (h : iAll M) {k i : Nat} {x : Int32} (hi : i < nBt M) (hk : k = 32 ∨ k = 38 ∨ k = 39 ∨ k = 43) : iAll (mAst M k i x) ∧ ways (mAst M k i x) (nBt M) = ways M (nBt M) := by
  refine ⟨iAll_hr h (fun _ _ => rfl) (fun j a1 a2 a3 a4 a5 a6 a7 a8 a9 a10 a11 a12 a13 => mAst_ne (by omega)) (fun s hs => by rw [mAst_ne (by omega)]; exact (h.2.1 s hs).2.2) (iBoa_of h.2.2.2.2.2.2.1 rfl (fun j hj => mAst_ne (by omega))) (iAgr_of h.2.2.2.2.2.2.2.1 rfl (mAst_ne (by omega))) (fun v hv hn => ?_), ways_same _ (fun v hv => way_of (by rw [mAst_ne (by omega)]) (by rw [mAst_ne (by omega)]) (by rw [mAst_ne (by omega)]) (by rw [mAst_ne (by omega)]))⟩
  have hz : ∀ j, (mAst M k i x).2 j v = M.2 j v := fun j => by
    rw [mAst_2]
    exact if_neg (fun z => by omega)
  refine ⟨hz 32, hz 39, ⟨hz 43, hz 35⟩, fun c hc => ?_⟩
  rw [mAst_ne (by omega)]
theorem iAll_wts {M : mS} (h : iAll M) {w : Nat} {c : Int32} (hw : w < nBt M) (hc : vp_in c 10) : iAll (mWts M (nI w) c) ∧ ways (mWts M (nI w) c) (nBt M) = ways M (nBt M) := by
  have hb := h.1.1.2
  obtain ⟨j, hj, rfl⟩ := vp_in_of hc (by omega)
  have e5 : (nI w).toNatClampNeg = w := ix_nI (by omega)
  have e6 : (10 * nI w + nI j).toNatClampNeg = 10 * w + j := by rw [m10_nI, add_nI, ix_nI (by omega)]
  unfold mWts
  rw [e5, e6]
  refine ⟨iAll_hr h (fun _ _ => rfl) (fun k a1 a2 a3 a4 a5 a6 a7 a8 a9 a10 a11 a12 a13 => by rw [mAst_ne a12, mAst_ne a11]) (fun s hs => by rw [mAst_ne (by omega), mAst_ne (by omega)]; exact (h.2.1 s hs).2.2) (iBoa_of h.2.2.2.2.2.2.1 rfl (fun k hk => by rw [mAst_ne (by omega), mAst_ne (by omega)])) (iAgr_of h.2.2.2.2.2.2.2.1 rfl (by rw [mAst_ne (by omega), mAst_ne (by omega)])) (fun v hv hn => ?_), ways_same _ (fun v hv => way_of (by rw [mAst_ne (by omega), mAst_ne (by omega)]) (by rw [mAst_ne (by omega), mAst_ne (by omega)]) (by rw [mAst_ne (by omega), mAst_ne (by omega)]) (by rw [mAst_ne (by omega), mAst_ne (by omega)]))⟩
  refine ⟨by rw [mAst_ne (by omega), mAst_ne (by omega)], by rw [mAst_ne (by omega), mAst_ne (by omega)], ⟨by rw [mAst_ne (by omega), mAst_eq, if_neg (by omega)], by rw [mAst_ne (by omega), mAst_ne (by omega)]⟩, fun i hi => ?_⟩
  rw [mAst_eq, if_neg (by omega), mAst_ne (by omega)]
theorem iAll_left {M : mS} (h : iAll M) {w : Nat} (hw : w < nBt M) (hs : ¬ M.2 34 w = -1) (h1 : ¬ M.2 36 w - 1 = 0) : iAll (mAst M 36 w (M.2 36 w - 1)) ∧ ways (mAst M 36 w (M.2 36 w - 1)) (nBt M) = ways M (nBt M) := by
  obtain ⟨b1, b2, b3⟩ := h.2.2.2.2.2.2.1 w hw
  obtain ⟨b4, b5, b6⟩ := b3.resolve_left (fun z => hs z.1)
  obtain ⟨j, j1, j2, ej⟩ := in_1n (a := 1) (b := 100) b5 b6 (by omega) (by omega)
  refine ⟨iAll_hr h (fun _ _ => rfl) (fun k a1 a2 a3 a4 a5 a6 a7 a8 a9 a10 a11 a12 a13 => mAst_ne a7) (fun s hs2 => by rw [mAst_ne (by omega)]; exact (h.2.1 s hs2).2.2) (fun v hv => ?_) (iAgr_of h.2.2.2.2.2.2.2.1 rfl (mAst_ne (by omega))) (fun v hv hn => ?_), ways_same _ (fun v hv => way_of (by rw [mAst_ne (by omega)]) (by rw [mAst_ne (by omega)]) (by rw [mAst_ne (by omega)]) (by rw [mAst_ne (by omega)]))⟩
  · rw [mAst_ne (by omega), mAst_ne (by omega), mAst_ne (by omega), mAst_ne (by omega), mAst_eq]
    by_cases c : v = w
    · subst c
      rw [if_pos rfl]
      refine ⟨b1, b2, Or.inr ⟨b4, ?_⟩⟩
      rw [ej, sub1_nI (by omega)] at h1 ⊢
      have : j - 1 ≠ 0 := fun z => h1 (by rw [z]; rfl)
      exact ⟨nI_le (a := 1) (b := j - 1) (by omega) (by omega), nI_le (a := j - 1) (b := 100) (by omega) (by omega)⟩
    · rw [if_neg c]
      exact h.2.2.2.2.2.2.1 v hv
  · rw [mAst_ne (by omega), mAst_ne (by omega), mAst_ne (by omega), mAst_ne (by omega), mAst_ne (by omega)]
    exact ⟨rfl, rfl, ⟨rfl, rfl⟩, fun _ _ => rfl⟩
