/-! The class's answers are the reference's: what is asked of barges, of all; hours. -/
theorem srch_rPl {S : cS} {r b : Nat} : ∀ (n k p : Nat), k ≤ p → p < k + n → rB S r p = b → (∀ q, k ≤ q → q < p → rB S r q ≠ b) → rPl S r b n k = nI p
  | 0, k, p, h1, h2, _, _ => by omega
  | n + 1, k, p, h1, h2, h3, h4 => by
    show (if rB S r k = b then nI k else rPl S r b n (k + 1)) = nI p
    by_cases c : k = p
    · subst c
      rw [if_pos h3]
    · rw [if_neg (h4 k (Nat.le_refl _) (by omega))]
      exact srch_rPl n (k + 1) p (by omega) (by omega) h3 (fun q a b => h4 q (by omega) b)
theorem rCt_0 {S : cS} {r p : Nat} : ∀ n, rCt S r 0 p n = nI n
  | 0 => rfl
  | n + 1 => by
    show rCt S r 0 p n + (if (0 : Int32) &&& cBit S (rB S r (p + n)) = 0 then 1 else 0) = nI (n + 1)
    rw [rCt_0 n, Int32.zero_and, if_pos rfl, nI1]
theorem iTie_n {M : mS} (h : iTie M) {t : Nat} (ht : t < 16) : nT M t ≤ 5 := by
  obtain ⟨a1, ⟨a2, a3⟩, a4, -⟩ := h t ht
  have z := Int32.le_iff_toInt_le.mp (Int32.le_trans a4 a3)
  have e5 : (5 : Int32).toInt = 5 := by decide
  rw [e5] at z
  unfold nT
  have : ((M.2 18 t).toNatClampNeg : Int) = max (M.2 18 t).toInt 0 := by
    rw [Int32.toNatClampNeg, ← Int.toNat_eq_max]
  omega
theorem nI_half : ∀ {t : Nat}, t < 16 → nI t / 2 = nI (t / 2) := by
  have h : ∀ t, t < 16 → nI t / 2 = nI (t / 2) := by decide +kernel
  exact fun {t} ht => h t ht
theorem nI_odd : ∀ {t : Nat}, t < 16 → nI t - nI t / 2 * 2 = nI (t % 2) := by
  have h : ∀ t, t < 16 → nI t - nI t / 2 * 2 = nI (t % 2) := by decide +kernel
  exact fun {t} ht => h t ht
/-- a tier -/
theorem R0_tier {W9 : xWd} {d : Nat → Nat → Nat} {S : cS} {M : mS} (hR : R0 W9 d S M) (hi : iAll M) {t : Nat} (ht : t < 16) : cK S (d 1 t) = 6 ∧ rL S (d 1 t) = d 7 t ∧ rN S (d 1 t) = nT M t ∧ (∀ k, k < nT M t → rB S (d 1 t) k = d 2 (M.2 19 (5 * t + k)).toNatClampNeg) ∧ rOk S (d 1 t) := by
  obtain ⟨-, hW, -, hG, -, -, -, -, -, -, ⟨-, l7, -⟩⟩ := hR
  obtain ⟨a0, -, -, -, -, a5⟩ := hW t ht
  obtain ⟨c1, c2, c3⟩ := l7 t ht
  obtain ⟨-, -, -, i4⟩ := hi.2.2.1 t ht
  have e2 : rL S (d 1 t) = d 7 t := by unfold rL cRf; rw [a5]; rfl
  have e3 : rN S (d 1 t) = nT M t := by unfold rN; rw [e2]; exact c2
  have e4 : ∀ k, k < nT M t → rB S (d 1 t) k = d 2 (M.2 19 (5 * t + k)).toNatClampNeg := fun k hk => by unfold rB; rw [e2, c3 k hk]; rfl
  refine ⟨a0, e2, e3, e4, a0, ⟨by show cFr S (d 1 t) 505 = some (rL S (d 1 t)); rw [e2]; exact a5, by show cK S (rL S (d 1 t)) = 1; rw [e2]; exact c1.1⟩, by rw [e2]; exact c1.ok, fun k hk => ?_⟩
  rw [e3] at hk
  rw [e4 k hk, e2, c3 k hk]
  obtain ⟨g, hg, e, -⟩ := i4 k hk
  refine ⟨rfl, ?_⟩
  rw [e, ix_nI (by have := hi.1.2.1.2; omega)]
  exact (hG g hg).1
/-- where a barge lies -/
theorem R0_gp {W9 : xWd} {d : Nat → Nat → Nat} {S : cS} {M : mS} (hd : dInj d) (hR : R0 W9 d S M) (hi : iAll M) {g : Nat} (hg : g < nBg M) : ∃ r p, cFr S (d 2 g) 102 = some r ∧ rOk S r ∧ rPl S r (d 2 g) (rN S r) 0 = nI p ∧ p < rN S r ∧ rB S r p = d 2 g ∧ mPl M (nI g) p ∧ mPlc M (nI g) = p ∧
    ((M.2 28 g = -1 ∧ ∃ t, t < 16 ∧ M.2 27 g = nI t ∧ r = d 1 t ∧ rN S r = nT M t ∧ M.2 19 (5 * t + p) = nI g) ∨ (∃ w, w < nBt M ∧ M.2 28 g = nI w ∧ r = d 5 w ∧ rN S r = nW M w ∧ M.2 41 (12 * w + p) = nI g)) := by
  have hb := hi.1.1.2
  have hg24 := hi.1.2.1.2
  obtain ⟨h1, -, -⟩ := hi.2.2.2.2.1 g hg
  have h102 := (hR.2.2.2.1 g hg).2.2.2.1
  have eg : (nI g).toNatClampNeg = g := ix_nI (by omega)
  rcases h1 with ⟨z, t, p, ht, et, hp, ep, hu⟩ | ⟨w, p, hw, ew, hp, ep, hu⟩
  · obtain ⟨-, e2, e3, e4, e5⟩ := R0_tier hR hi ht
    rw [if_pos z, et, ix_nI (by omega)] at h102
    have hn5 := iTie_n hi.2.2.1 ht
    have eb : rB S (d 1 t) p = d 2 g := by rw [e4 p hp, ep, eg]
    have hne : ∀ q, q < p → rB S (d 1 t) q ≠ d 2 g := fun q hq y => by
      rw [e4 q (by omega)] at y
      obtain ⟨g2, hg2, eg2, -⟩ := (hi.2.2.1 t ht).2.2.2 q (by omega)
      have := (hd _ _ _ _ y).2
      rw [eg2, ix_nI (by omega)] at this
      have := hu q (by omega) (by rw [eg2, this])
      omega
    have hpl : mPl M (nI g) p := ⟨xin_nI (by omega) (by omega), Or.inl ⟨by rw [eg]; exact z, by omega, t, by rw [eg]; exact et, ht, fun q hq y => by have := hu q (by omega) y; omega, ep⟩⟩
    exact ⟨d 1 t, p, h102, e5, srch_rPl _ 0 p (by omega) (by omega) eb (fun q _ hq => hne q hq), by omega, eb, hpl, mPlc_of hpl, Or.inl ⟨z, t, ht, et, rfl, e3, ep⟩⟩
  · obtain ⟨t1, t2, e2, e3, e4⟩ := R0_tow hR hi hw
    have hz : ¬ M.2 28 g = -1 := by rw [ew]; exact nI_m1 (by omega)
    rw [if_neg hz, ew, ix_nI (by omega)] at h102
    have hn := (hi.2.2.2.1 w hw).1.2
    have tok : rOk S (d 5 w) := by have := t2.2.2; rw [t1] at this; exact this
    have eb : rB S (d 5 w) p = d 2 g := by rw [e4 p hp, ep, eg]
    have hne : ∀ q, q < p → rB S (d 5 w) q ≠ d 2 g := fun q hq y => by
      rw [e4 q (by omega)] at y
      obtain ⟨g2, hg2, eg2, -⟩ := (hi.2.2.2.1 w hw).2.2 q (by omega)
      have := (hd _ _ _ _ y).2
      rw [eg2, ix_nI (by omega)] at this
      have := hu q (by omega) (by rw [eg2, this])
      omega
    have hpl : mPl M (nI g) p := ⟨xin_nI (by omega) (by omega), Or.inr ⟨by rw [eg]; exact hz, by omega, w, by rw [eg]; exact ew, by omega, fun q hq y => by have := hu q (by omega) y; omega, ep⟩⟩
    exact ⟨d 5 w, p, h102, tok, srch_rPl _ 0 p (by omega) (by omega) eb (fun q _ hq => hne q hq), by omega, eb, hpl, mPlc_of hpl, Or.inr ⟨w, hw, ew, rfl, e3, ep⟩⟩
theorem R0_gOk {W9 : xWd} {d : Nat → Nat → Nat} {S : cS} {M : mS} (hd : dInj d) (hR : R0 W9 d S M) (hi : iAll M) {g : Nat} (hg : g < nBg M) : gOk S (d 2 g) := by
  obtain ⟨r, p, h1, h2, h3, h4, h5, -, -, h6⟩ := R0_gp hd hR hi hg
  have e : cRf S (d 2 g) 102 = r := by unfold cRf; rw [h1]; rfl
  have hn : p < 1000 := by have := h2.2.2.1.2.2.1; unfold rN at h4; omega
  have e2 : rP S r (d 2 g) = p := by unfold rP; rw [h3, ix_nI hn]
  refine ⟨⟨by rw [e]; exact h1, by rw [e]; exact h2.1⟩, by rw [e]; exact h2, by rw [e]; exact ⟨by rw [e2]; exact h3, by rw [e2]; exact h4⟩, fun c hc => ?_⟩
  rw [(hR.2.2.2.1 g hg).2.2.2.2.2.1] at hc
  obtain ⟨-, i2, -⟩ := hi.2.2.2.2.1 g hg
  have hb := hi.1.2.2.2
  rcases i2 with ⟨-, z⟩ | ⟨-, c2, hc2, ec2⟩
  · rw [if_pos z] at hc
    cases hc
  · rw [if_neg (by rw [ec2]; exact nI_m1 (by omega)), ec2, ix_nI (by omega)] at hc
    obtain rfl := Option.some.inj hc
    exact (hR.2.2.2.2.1 c2 hc2).1
theorem R0_bh {W9 : xWd} {d : Nat → Nat → Nat} {S : cS} {M : mS} (hd : dInj d) (hR : R0 W9 d S M) (hi : iAll M) {g : Nat} (hg : g < nBg M) : (M.2 28 g = -1 → rBh S (cRf S (d 2 g) 102) (d 2 g) 0 = mOut M (nI g) (mPlc M (nI g)) ∧ cFi S (cRf S (d 2 g) 102) 500 = -1 ∧ cFi S (cRf S (d 2 g) 102) 501 = M.2 27 g / 2) ∧ (¬ M.2 28 g = -1 → mOut M (nI g) (mPlc M (nI g)) = 0 ∧ cFi S (cRf S (d 2 g) 102) 500 = M.2 28 g ∧ ¬ cFi S (cRf S (d 2 g) 102) 500 = -1) := by
  obtain ⟨r, p, h1, h2, h3, h4, h5, -, h7, h6⟩ := R0_gp hd hR hi hg
  have hg24 := hi.1.2.1.2
  have hb := hi.1.1.2
  have e : cRf S (d 2 g) 102 = r := by unfold cRf; rw [h1]; rfl
  have hn : p < 1000 := by have := h2.2.2.1.2.2.1; unfold rN at h4; omega
  have e2 : rP S r (d 2 g) = p := by unfold rP; rw [h3, ix_nI hn]
  have eg : (nI g).toNatClampNeg = g := ix_nI (by omega)
  rw [e, h7]
  refine ⟨fun z => ?_, fun z => ?_⟩
  · obtain ⟨-, t, ht, et, er, en, -⟩ := h6.resolve_right (fun ⟨w, hw, ew, _⟩ => nI_m1 (show w < 1000 by omega) (by rw [← ew]; exact z))
    obtain ⟨-, a500, a501, -⟩ := hR.2.1 t ht
    refine ⟨?_, by rw [er]; exact a500, by rw [er, a501, et, nI_half ht]⟩
    unfold rBh mOut
    rw [e2, rCt_0, eg, if_pos z, et, ix_nI (by omega), (hi.2.2.1 t ht).1, ← en]
    obtain ⟨m, hm⟩ : ∃ m, rN S r = p + 1 + m := ⟨rN S r - (p + 1), by omega⟩
    rw [hm, show p + 1 + m - (p + 1) = m by omega, show p + 1 + m = m + p + 1 by omega, ← nI1, Int32.add_sub_cancel, ← add_nI, Int32.add_sub_cancel]
  · obtain ⟨w, hw, ew, er, en, -⟩ := h6.resolve_left (fun y => z y.1)
    obtain ⟨-, a500, -⟩ := hR.2.2.1 w hw
    refine ⟨by unfold mOut; rw [eg, if_neg z], by rw [er, a500, ew], by rw [er, a500]; exact nI_m1 (by omega)⟩

theorem R0_wh {W9 : xWd} {d : Nat → Nat → Nat} {S : cS} {M : mS} (hd : dInj d) (hR : R0 W9 d S M) (hi : iAll M) {g : Nat} (hg : g < nBg M) : cWh S (d 6 4) (cRf S (d 2 g) 102) = mWh M (nI g) := by
  obtain ⟨-, -, -, l4, l5, l6⟩ := R0_boats hR
  obtain ⟨x1, x2⟩ := R0_bh hd hR hi hg
  have hg24 := hi.1.2.1.2
  have hb := hi.1.1.2
  have eg : (nI g).toNatClampNeg = g := ix_nI (by omega)
  unfold cWh mWh
  rw [eg, l5]
  by_cases z : M.2 28 g = -1
  · obtain ⟨-, a2, a3⟩ := x1 z
    rw [a2, if_neg (fun y => by have := y.1; exact absurd this (by decide)), if_pos z, a3]
  · obtain ⟨-, a2, a3⟩ := x2 z
    rw [if_neg z, a2]
    obtain ⟨w, hw, ew⟩ : ∃ w, w < nBt M ∧ M.2 28 g = nI w := by
      rcases (hi.2.2.2.2.1 g hg).1 with ⟨y, -⟩ | ⟨w, p, hw, ew, -⟩
      · exact absurd y z
      · exact ⟨w, hw, ew⟩
    obtain ⟨b7, -, b6, -⟩ := R0_bfld hR hw
    rw [ew, if_pos ⟨pos_nI (by omega), lt0_nI hw (by omega)⟩, ix_nI (by omega), l6 w hw, b7]
    by_cases c : M.2 34 w = -1
    · rw [if_pos c, if_pos c, (b6 c).1]
    · rw [if_neg c, if_neg c]

theorem Q_ofBarge {W9 : xWd} {B a : Nat} {S : cS} {M : mS} {k : Int32} {x : Int32} {K : xRes → cS → Prop} (h : RR W9 B a S M) (hk : ∀ r S2, ans [eB] W9 B a (oOfBarge M k x) r S2 → K r S2) : (spX7_ofBarge W9).2 [.ref a, .int k, .int x] S K := by
  have h0 := RR_set0 (z := 0) h
  have h00 := h0
  obtain ⟨d, np, N, hd, rfl, hi, hR, hp, hl, hN, hB⟩ := h00
  have g0 := hR.2.2.2.2.2.2.2.2.1.1
  obtain ⟨g7, g8, g9, g10, g11, g12, g13⟩ := hR.2.2.2.2.2.2.2.2.1.2.2
  have e29 : M.1 29 = nI (nBt M) := hi.1.1.1
  have e22 : M.1 22 = nI (nBg M) := hi.1.2.1.1
  have e46 : M.1 46 = nI (nCo M) := hi.1.2.2.1
  have b29 : nBt M ≤ 6 := hi.1.1.2
  have b22 : nBg M ≤ 24 := hi.1.2.1.2
  have b46 : nCo M ≤ 12 := hi.1.2.2.2
  have n29 : nBt (mSet M 0 0) = nBt M := rfl
  have n22 : nBg (mSet M 0 0) = nBg M := rfl
  have n46 : nCo (mSet M 0 0) = nCo M := rfl
  obtain ⟨f1, f2, f3, f4, f5, f6⟩ := R0_barges hR
  rw [n22] at f4 f5 f6
  obtain ⟨s1, s2, s3, s4, s5, s6⟩ := R0_boats hR
  rw [n29] at s4 s5 s6
  rw [spwX7_ofBarge, f2, f5, s2]
  have hgo : ∀ j, j < lCn S (d 6 2) → gOk S (lG S (d 6 2) j) := fun j hj => by
    rw [f4] at hj
    rw [f6 j hj]
    exact R0_gOk hd hR hi hj
  refine ⟨g0, ⟨s1, s3⟩, hgo, f1, f3, fun z => ⟨fun z2 => hk _ _ (ans_0 h0 (v := mTell (mSet M 0 0) k x) ?_ ?_), fun z2 => hk _ _ (ans_e h (z := 1) ?_ (by decide) rfl)⟩, fun z => hk _ _ (ans_e h (z := 1) ?_ (by decide) rfl)⟩
  · unfold oOfBarge
    rw [if_pos ⟨by rw [e22, le_m1 (by omega)]; exact z, z2⟩]
  · rw [idx (by omega)] at z
    obtain ⟨g, hg, rfl⟩ := z
    obtain ⟨-, -, -, -, b103, b104, b105⟩ := hR.2.2.2.1 g hg
    have hwh := R0_wh hd hR hi hg
    obtain ⟨x1, x2⟩ := R0_bh hd hR hi hg
    obtain ⟨r, p, y1, y2, y3, y4, y5, -, y7, y6⟩ := R0_gp hd hR hi hg
    have er : cRf S (d 2 g) 102 = r := by unfold cRf; rw [y1]; rfl
    have e104 : (if cFr S (d 2 g) 104 = none then -1 else cFi S (cRf S (d 2 g) 104) 300) = (mSet M 0 0).2 25 g := by
      obtain ⟨-, i2, -⟩ := hi.2.2.2.2.1 g hg
      rcases i2 with ⟨-, q⟩ | ⟨-, c, hc, ec⟩
      · rw [if_pos q] at b104
        rw [if_pos b104]
        exact q.symm
      · rw [if_neg (by rw [ec]; exact nI_m1 (by omega)), ec, ix_nI (by omega)] at b104
        rw [if_neg (by rw [b104]; exact fun y => nomatch y)]
        have e : cRf S (d 2 g) 104 = d 3 c := by unfold cRf; rw [b104]; rfl
        rw [e, (hR.2.2.2.2.1 c hc).2.1]
        exact ec.symm
    have e502 : cFi S (cRf S (d 2 g) 102) 502 = if (mSet M 0 0).2 28 g = -1 then (mSet M 0 0).2 27 g - (mSet M 0 0).2 27 g / 2 * 2 else -1 := by
      rw [er]
      rcases y6 with ⟨q, t, ht, et, er2, -⟩ | ⟨w, hw, ew, er2, -⟩
      · rw [if_pos q, er2, (hR.2.1 t ht).2.2.2.1, et, nI_odd ht]
      · rw [if_neg (by rw [ew]; exact nI_m1 (by omega)), er2, (hR.2.2.1 w hw).2.2.2.1]
    have e6 : (if cFi S (cRf S (d 2 g) 102) 500 = -1 then rBh S (cRf S (d 2 g) 102) (d 2 g) 0 else 0) = mOut (mSet M 0 0) (nI g) (mPlc (mSet M 0 0) (nI g)) := by
      by_cases q : M.2 28 g = -1
      · obtain ⟨a1, a2, a3⟩ := x1 q
        rw [if_pos a2, a1]
      · obtain ⟨a1, a2, a3⟩ := x2 q
        rw [if_neg a3, a1]
    have e5 : rPl S (cRf S (d 2 g) 102) (d 2 g) (rN S (cRf S (d 2 g) 102)) 0 = nI (mPlc (mSet M 0 0) (nI g)) := by rw [er, y3, y7]
    unfold cTlg mTell
    rw [ix_nI (by omega), f6 g hg, s2, hwh, b103, e104, b105, e502, e5, e6]
  · unfold oOfBarge
    rw [if_neg (fun y => z2 y.2)]
  · unfold oOfBarge
    rw [if_neg (fun y => z (by rw [← le_m1 (by omega), ← e22]; exact y.1))]

theorem note_dec2 : ∀ e, e < 4 → ((nI e = 0) = (e = 0)) ∧ ((nI e = 2) = (e = 2)) := fun e he => by
  rw [show (0 : Int32) = nI 0 from rfl, show (2 : Int32) = nI 2 from rfl, eq_nI (by omega) (by omega), eq_nI (by omega) (by omega)]
  exact ⟨rfl, rfl⟩
theorem Q_placeAnew {W9 : xWd} {B a : Nat} {S : cS} {M : mS} {k : Int32} {K : xRes → cS → Prop} (h : RR W9 B a S M) (hk : ∀ r S2, ans [eB] W9 B a (oPlaceAnew M k) r S2 → K r S2) : (spX7_placeAnew W9).2 [.ref a, .int k] S K := by
  have h0 := RR_set0 (z := 0) h
  have h00 := h0
  obtain ⟨d, np, N, hd, rfl, hi, hR, hp, hl, hN, hB⟩ := h00
  have g0 := hR.2.2.2.2.2.2.2.2.1.1
  obtain ⟨g7, g8, g9, g10, g11, g12, g13⟩ := hR.2.2.2.2.2.2.2.2.1.2.2
  have e29 : M.1 29 = nI (nBt M) := hi.1.1.1
  have e22 : M.1 22 = nI (nBg M) := hi.1.2.1.1
  have e46 : M.1 46 = nI (nCo M) := hi.1.2.2.1
  have b29 : nBt M ≤ 6 := hi.1.1.2
  have b22 : nBg M ≤ 24 := hi.1.2.1.2
  have b46 : nCo M ≤ 12 := hi.1.2.2.2
  have n29 : nBt (mSet M 0 0) = nBt M := rfl
  have n22 : nBg (mSet M 0 0) = nBg M := rfl
  have n46 : nCo (mSet M 0 0) = nCo M := rfl
  obtain ⟨f1, f2, f3, f4, f5, f6⟩ := R0_barges hR
  rw [n22] at f4 f5 f6
  have a806 := hR.2.2.2.2.2.2.2.2.1.2.1.2.2.2.2.2.2
  have e806 : cRf S (d 9 0) 806 = d 9 2 := by unfold cRf; rw [a806]; rfl
  obtain ⟨p1, p2⟩ := rPg_st hp
  rw [spwX7_placeAnew, e806, f2, f5]
  refine ⟨g0, ⟨by rw [e806]; exact a806, by rw [e806]; exact hp.1.1⟩, np, p1, f1, f3, fun z => hk _ _ (ans_0 h0 (v := mWh (mSet M 0 0) k) ?_ ?_), fun z => hk _ _ (ans_e h (z := 1) ?_ (by decide) rfl)⟩
  · unfold oPlaceAnew
    rw [if_pos (by rw [e22, le_m1 (by omega)]; exact z)]
  · rw [idx (by omega)] at z
    obtain ⟨g, hg, rfl⟩ := z
    have eg : (nI g).toNatClampNeg = g := ix_nI (by omega)
    obtain ⟨-, b100, -⟩ := hR.2.2.2.1 g hg
    unfold cPA
    rw [eg, f6 g hg, b100, p2, p2, hl.1 g hg]
    unfold mWh
    rw [eg]
    have m28 : (mSet M 0 0).2 28 g = M.2 28 g := rfl
    have m27 : (mSet M 0 0).2 27 g = M.2 27 g := rfl
    rw [m28, m27]
    rcases (hi.2.2.2.2.1 g hg).1 with ⟨y, t, p, ht, et, -⟩ | ⟨w, p, hw, ew, -⟩
    · have y : M.2 28 g = -1 := y
      have et : M.2 27 g = nI t := et
      rw [if_pos y, if_pos y, et, nI_half ht]
      obtain ⟨z1, z2, z3⟩ := note_dec 0 (by omega) g (by omega) (t / 2) (by omega)
      have z1 : cNote 0 (nI g) (nI (t / 2)) >>> (16 &&& 31) = 0 := z1
      have z3 : cNote 0 (nI g) (nI (t / 2)) &&& 255 = nI (t / 2) := z3
      rw [if_pos z1, z3]
    · have ew : M.2 28 g = nI w := ew
      have hz : ¬ M.2 28 g = -1 := by rw [ew]; exact nI_m1 (by omega)
      rw [if_neg hz, if_neg hz, ew]
      obtain ⟨z1, z2, z3⟩ := note_dec 1 (by omega) g (by omega) w (by omega)
      have z1 : cNote 1 (nI g) (nI w) >>> (16 &&& 31) = nI 1 := z1
      have z3 : cNote 1 (nI g) (nI w) &&& 255 = nI w := z3
      rw [if_neg (by rw [z1]; decide), z3, hl.2 w hw, ix_nI (by omega)]
      obtain ⟨-, -, bb⟩ := hi.2.2.2.2.2.2.1 w hw
      by_cases c : (mSet M 0 0).2 34 w = -1
      · obtain ⟨-, v1, -⟩ := bb.resolve_right (fun q => vin_m1 (c ▸ q.1))
        obtain ⟨j, hj, ej, -⟩ := nx_nat v1 (by omega)
        rw [if_pos c, if_pos c, ej]
        obtain ⟨w1, w2, w3⟩ := note_dec 2 (by omega) w (by omega) j hj
        have w1 : cNote 2 (nI w) (nI j) >>> (16 &&& 31) = nI 2 := w1
        have w3 : cNote 2 (nI w) (nI j) &&& 255 = nI j := w3
        rw [w1, w3, if_pos (by decide)]
      · obtain ⟨v1, -⟩ := bb.resolve_left (fun q => c q.1)
        obtain ⟨j, hj, ej, -⟩ := nx_nat v1 (by omega)
        rw [if_neg c, if_neg c, ej]
        obtain ⟨w1, w2, w3⟩ := note_dec 3 (by omega) w (by omega) j (by omega)
        have w1 : cNote 3 (nI w) (nI j) >>> (16 &&& 31) = nI 3 := w1
        have w3 : cNote 3 (nI w) (nI j) &&& 255 = nI j := w3
        rw [w1, w3, if_neg (by decide)]
  · unfold oPlaceAnew
    rw [if_neg (by rw [e22, le_m1 (by omega)]; exact z)]

