/-! The class's answers are the reference's: shifts, both ways. -/
section SHG
set_option maxHeartbeats 400000 in
theorem mShO_eq {M : mS} (hi : iAll M) {t n : Nat} (ht : t < 16) (hn : n < 2147483648) : ∀ j, j ≤ nT M t → mShO M (nI n) t (nT M t) j = nI (ow (gT M t) n (nT M t - j) j)
  | 0, _ => rfl
  | j + 1, hj => by
    have ih := mShO_eq hi ht hn j (by omega)
    have hg24 := hi.1.2.1.2
    obtain ⟨g, hg, eg, eg2, -⟩ := tie_at hi ht (show nT M t - 1 - j < nT M t by omega)
    show mShO M (nI n) t (nT M t) j + (if mHas (nI n) (M.2 19 (5 * t + (nT M t - 1 - j))) then 0 else 1) = _
    have eh : mHas (nI n) (nI g) = (n.testBit g = true) := by
      rw [zb_has hn (by omega), Nat.testBit_eq_decide_div_mod_eq]
      simp
    rw [ih, eg, ow_s, show nT M t - (j + 1) = nT M t - 1 - j by omega, eg2, show nT M t - 1 - j + 1 = nT M t - j by omega]
    by_cases c : n.testBit g = true
    · rw [if_pos (by rw [eh]; exact c), if_pos c, Nat.zero_add]
      exact Int32.add_zero _
    · rw [if_neg (by rw [eh]; exact c), if_neg c, nI1, Nat.add_comm]
set_option maxHeartbeats 400000 in
theorem mShN_eq {M : mS} (hi : iAll M) {t n z : Nat} (ht : t < 16) (hn : n < 2147483648) : ∀ j, j ≤ nT M t → mShN M (nI n) t (nT M t) (nI z) j = nI (z + smN (fun i => if n.testBit (gT M t (nT M t - 1 - i)) then bwM M (gT M t (nT M t - 1 - i)) n else 0) j)
  | 0, _ => rfl
  | j + 1, hj => by
    have ih := mShN_eq hi (z := z) ht hn j (by omega)
    have hg24 := hi.1.2.1.2
    obtain ⟨g, hg, eg, eg2, -, -, et, ep⟩ := tie_at hi ht (show nT M t - 1 - j < nT M t by omega)
    show mShN M (nI n) t (nT M t) (nI z) j + (if mHas (nI n) (M.2 19 (5 * t + (nT M t - 1 - j))) then mShO M (nI n) t (nT M t) j else 0) = nI (z + (smN (fun i => if n.testBit (gT M t (nT M t - 1 - i)) then bwM M (gT M t (nT M t - 1 - i)) n else 0) j + (if n.testBit (gT M t (nT M t - 1 - j)) then bwM M (gT M t (nT M t - 1 - j)) n else 0)))
    have eh : mHas (nI n) (nI g) = (n.testBit g = true) := by
      rw [zb_has hn (by omega), Nat.testBit_eq_decide_div_mod_eq]
      simp
    rw [ih, eg, eg2, mShO_eq hi ht hn j (by omega)]
    have eb : bwM M g n = ow (gT M t) n (nT M t - j) j := by
      unfold bwM
      rw [et, ep, show nT M t - 1 - j + 1 = nT M t - j by omega, show nT M t - (nT M t - j) = j by omega]
    by_cases c : n.testBit g = true
    · rw [if_pos (by rw [eh]; exact c), if_pos c, add_nI, eb, Nat.add_assoc]
    · rw [if_neg (by rw [eh]; exact c), if_neg c, Int32.add_zero]
      rfl
set_option maxHeartbeats 400000 in
theorem mShT_eq {M : mS} (hi : iAll M) {t n z : Nat} (ht : t < 16) (hn : n < 2147483648) : mShT M (nI n) t (nI z) = nI (z + ((((List.range (nT M t)).map (gT M t)).filter (fun x => n.testBit x)).map (fun k => bwM M k n)).sum) := by
  unfold mShT
  rw [mShN_eq hi ht hn _ (Nat.le_refl _), smN_rev (fun i => if n.testBit (gT M t i) then bwM M (gT M t i) n else 0), smN_l n (gT M t) (fun k => bwM M k n)]
set_option maxHeartbeats 400000 in
/-- the reference's sum, over the chosen -/
theorem mSh_sum {M : mS} (hi : iAll M) {n y : Nat} (hy : y < 8) (hn : n < 2147483648) (h : ∀ j, j < 31 → n.testBit j = true → j < nBg M ∧ M.2 28 j = -1 ∧ M.2 27 j / 2 = nI y) : mShT M (nI n) (2 * y + 1) (mShT M (nI n) (2 * y) 0) = nI (((nCh n (nBg M)).map (fun k => bwM M k n)).sum) := by
  have hg24 := hi.1.2.1.2
  rw [show (0 : Int32) = nI 0 from rfl, mShT_eq hi (by omega) hn, mShT_eq hi (by omega) hn, Nat.zero_add, ← List.sum_append_nat, ← List.map_append, ← List.filter_append]
  congr 1
  refine (perm_sum ?_ _).symm
  have inj : ∀ t, t < 16 → ((List.range (nT M t)).map (gT M t)).Nodup := fun t ht => by
    unfold List.Nodup
    rw [List.pairwise_map]
    refine List.Pairwise.imp_of_mem ?_ (List.pairwise_lt_range (n := nT M t))
    intro i j hi1 hj1 hlt e
    have hi1 := List.mem_range.mp hi1
    have hj1 := List.mem_range.mp hj1
    obtain ⟨g, -, -, eg, -, -, -, ep⟩ := tie_at hi ht hi1
    obtain ⟨g2, -, -, eg2, -, -, -, ep2⟩ := tie_at hi ht hj1
    rw [eg, eg2] at e
    subst e
    omega
  refine (List.perm_ext_iff_of_nodup nCh_nd (List.Pairwise.filter _ ?_)).mpr ?_
  · refine List.nodup_append.mpr ⟨inj _ (by omega), inj _ (by omega), ?_⟩
    intro a ha b hb e
    subst e
    obtain ⟨i, hi1, e1⟩ := List.mem_map.mp ha
    obtain ⟨j, hj1, e2⟩ := List.mem_map.mp hb
    obtain ⟨g, -, -, eg, -, -, et, -⟩ := tie_at hi (show 2 * y < 16 by omega) (List.mem_range.mp hi1)
    obtain ⟨g2, -, -, eg2, -, -, et2, -⟩ := tie_at hi (show 2 * y + 1 < 16 by omega) (List.mem_range.mp hj1)
    rw [eg] at e1
    rw [eg2] at e2
    subst e1
    subst e2
    omega
  · intro k
    rw [nCh_mem, List.mem_filter, List.mem_append, List.mem_map, List.mem_map]
    constructor
    · rintro ⟨hk, hb⟩
      refine ⟨?_, hb⟩
      obtain ⟨-, h28, h27⟩ := h k (by omega) hb
      obtain ⟨t, p, ht, et, -, hp, ep, -⟩ := tie_of hi hk h28
      rw [et, nI_half ht, eq_nI (by omega) (by omega)] at h27
      rcases (show t = 2 * y ∨ t = 2 * y + 1 by omega) with rfl | rfl
      · exact Or.inl ⟨p, List.mem_range.mpr hp, ep⟩
      · exact Or.inr ⟨p, List.mem_range.mpr hp, ep⟩
    · rintro ⟨h1, hb⟩
      refine ⟨?_, hb⟩
      rcases h1 with ⟨i, hi1, e⟩ | ⟨i, hi1, e⟩
      · obtain ⟨g, hg, -, eg, -⟩ := tie_at hi (show 2 * y < 16 by omega) (List.mem_range.mp hi1)
        rw [← e, eg]
        exact hg
      · obtain ⟨g, hg, -, eg, -⟩ := tie_at hi (show 2 * y + 1 < 16 by omega) (List.mem_range.mp hi1)
        rw [← e, eg]
        exact hg
set_option maxHeartbeats 400000 in
theorem bwM_le {M : mS} (hi : iAll M) {k u : Nat} (hk : k < nBg M) (h28 : M.2 28 k = -1) : bwM M k u ≤ 5 := by
  obtain ⟨t, p, ht, -, et, hp, -, -, h5⟩ := tie_of hi hk h28
  unfold bwM
  rw [et]
  exact Nat.le_trans (ow_le _ _ _ _) (by omega)
set_option maxHeartbeats 400000 in
/-- of those not taken one lies outermost -/
theorem out_ex {M : mS} (hi : iAll M) {n : Nat} {p : Int32} (h : ∀ j, j < 31 → n.testBit j = true → j < nBg M ∧ M.2 28 j = -1 ∧ M.2 27 j / 2 = p) {u : Nat} (hu : ∀ i, u.testBit i = true → n.testBit i = true) : ∀ m k, k ∈ nCh n (nBg M) → u.testBit k = false → nT M (tTi M k) - mPlc M (nI k) ≤ m → ∃ k ∈ nCh n (nBg M), u.testBit k = false ∧ bwM M k u = bwM M k n := by
  intro m
  have hg24 := hi.1.2.1.2
  induction m with
  | zero =>
    intro k hk hb hm
    obtain ⟨hk1, hk2⟩ := nCh_mem.mp hk
    obtain ⟨t, p2, ht, -, et, hp, -, ep, -⟩ := tie_of hi hk1 (h k (by omega) hk2).2.1
    rw [et, ep] at hm
    omega
  | succ m ih =>
    intro k hk hb hm
    obtain ⟨hk1, hk2⟩ := nCh_mem.mp hk
    obtain ⟨t, p2, ht, -, et, hp, eg, ep, -⟩ := tie_of hi hk1 (h k (by omega) hk2).2.1
    rw [et, ep] at hm
    by_cases c : ∃ i, p2 < i ∧ i < nT M t ∧ n.testBit (gT M t i) = true ∧ u.testBit (gT M t i) = false
    · obtain ⟨i, c1, c2, c3, c4⟩ := c
      obtain ⟨g, hg, -, eg2, -, -, et2, ep2⟩ := tie_at hi ht c2
      rw [eg2] at c3 c4
      exact ih g (nCh_mem.mpr ⟨hg, c3⟩) c4 (by rw [et2, ep2]; omega)
    · refine ⟨k, hk, hb, ?_⟩
      unfold bwM
      rw [et, ep]
      refine ow_eq _ (fun i hi2 => ?_)
      cases q : n.testBit (gT M t (p2 + 1 + i))
      · cases q2 : u.testBit (gT M t (p2 + 1 + i))
        · rfl
        · rw [hu _ q2] at q
          cases q
      · cases q2 : u.testBit (gT M t (p2 + 1 + i))
        · exact absurd ⟨p2 + 1 + i, by omega, by omega, q, q2⟩ c
        · rfl
set_option maxHeartbeats 400000 in
/-- what both ways answer, over a list of the chosen -/
theorem R0_sh {W9 : xWd} {d : Nat → Nat → Nat} {S : cS} {M : mS} {q n y : Nat} (hd : dInj d) (hR : R0 W9 d S M) (hi : iAll M) (hy : y < 8) (hn : n < 2147483648) (h : ∀ j, j < 31 → n.testBit j = true → j < nBg M ∧ M.2 28 j = -1 ∧ M.2 27 j / 2 = nI y) (h6 : (nCh n (nBg M)).length ≤ 6)
    (hl : lAll S q 2 ∧ lCn S q = ((nCh n (nBg M)).map (d 2)).length ∧ ∀ (j : Nat) (x : Nat), ((nCh n (nBg M)).map (d 2))[j]? = some x → lG S q j = x) : lRw S q ∧ cSf S q (nI n) (lCn S q) = mShT M (nI n) (2 * y + 1) (mShT M (nI n) (2 * y) 0) ∧ cFw S q 6 0 = mShT M (nI n) (2 * y + 1) (mShT M (nI n) (2 * y) 0) := by
  have hg24 := hi.1.2.1.2
  obtain ⟨l1, l2, l3⟩ := hl
  rw [List.length_map] at l2
  have hat : ∀ j k : Nat, (nCh n (nBg M))[j]? = some k → lG S q j = d 2 k ∧ k < nBg M ∧ n.testBit k = true ∧ M.2 28 k = -1 := fun j k hk => by
    have h1 := nCh_mem.mp (List.mem_of_getElem? hk)
    exact ⟨l3 j _ (by rw [List.getElem?_map, hk]; rfl), h1.1, h1.2, (h k (by omega) h1.2).2.1⟩
  have hbw : ∀ (j k u : Nat), (nCh n (nBg M))[j]? = some k → rBh S (cRf S (lG S q j) 102) (lG S q j) (nI u) = nI (bwM M k u) := fun j k u hk => by
    obtain ⟨a1, a2, -, a4⟩ := hat j k hk
    rw [a1]
    exact R0_bw hd hR hi a2 a4 u
  have hmem : ∀ k ∈ nCh n (nBg M), k < nBg M ∧ n.testBit k = true ∧ M.2 28 k = -1 := fun k hk => by
    have h1 := nCh_mem.mp hk
    exact ⟨h1.1, h1.2, (h k (by omega) h1.2).2.1⟩
  refine ⟨⟨l1, fun j hj => ?_⟩, ?_, ?_⟩
  · rw [l2] at hj
    obtain ⟨a1, a2, -, -⟩ := hat j _ (List.getElem?_eq_getElem hj)
    rw [a1]
    obtain ⟨g1, g2, g3, -⟩ := R0_gOk hd hR hi a2
    exact ⟨g1, g2, g3⟩
  · rw [l2, cSf_eq (n := n) l2 hbw _ (Nat.le_refl _), List.take_length, tS_all, mSh_sum hi hy hn h]
  · have he := cFw_eq (S := S) (l := q) (n := n) (c := nCh n (nBg M)) (bw := bwM M) (o := fun k => bwM M k n) l2 (by omega) (fun j k hk => by
      obtain ⟨a1, a2, -, -⟩ := hat j k hk
      rw [a1]
      exact (hR.2.2.2.1 k a2).2.1) hbw (fun k hk => by have := (hmem k hk).1; omega) (fun k hk => (hmem k hk).2.1) nCh_nd (fun k hk u hu => ow_mono hu _)
      (fun u hu ⟨k, hk, hb⟩ => out_ex hi h hu _ k hk hb (Nat.le_refl _)) (fun k hk u => bwM_le hi (hmem k hk).1 (hmem k hk).2.2) (fun k hk => bwM_le hi (hmem k hk).1 (hmem k hk).2.2)
    have h1 := he 6 0 (fun i hi => by rw [Nat.zero_testBit] at hi; cases hi) (by
      have h9 := tS_le (f := fun _ => 1) (u := 0) (B := 1) (c := nCh n (nBg M)) (fun _ _ => Nat.le_refl _)
      omega)
    rw [tS_all] at h1
    rw [mSh_sum hi hy hn h]
    exact h1
end SHG

set_option maxHeartbeats 400000 in
theorem ans_e0 {L : List String} {W9 : xWd} {B a : Nat} {S : cS} {M : mS} {o : Int32 × mS} {z : Int32} {e : String} (h : RR W9 B a S (mSet M 0 0)) (ho : o = (0, mSet M 0 z)) (h0 : ¬ z = 0) (he : L.getD (z.toNatClampNeg - 1) "" = e) : ans L W9 B a o (rX e) S := by
  have h1 := RR_set0 (z := z) h
  have e1 : mSet (mSet M 0 0) 0 z = mSet M 0 z := Prod.ext (funext fun j => by
    show (if j = 0 then z else if j = 0 then 0 else M.1 j) = if j = 0 then z else M.1 j
    split <;> rfl) rfl
  rw [e1] at h1
  rw [ho]
  refine ⟨h1, ?_⟩
  show rX e = rZ L ((mSet M 0 z).1 0) 0
  rw [mSet_eq]
  unfold rZ
  rw [if_neg h0, he]

set_option maxHeartbeats 400000 in
theorem Q_shifts {W9 : xWd} {B a : Nat} {S : cS} {M : mS} {p : Int32} {s : Int32} {K : xRes → cS → Prop} (h : RR W9 B a S M) (hk : ∀ r S2, ans [eB, eA] W9 B a (oShifts M p s) r S2 → K r S2) : (spX7_shifts W9).2 [.ref a, .int p, .int s] S K := by
  have h9 := h
  have h0 := RR_set0 (z := 0) h
  have h00 := h0
  obtain ⟨d, np, N, h0d⟩ := h00
  have h0e := h0d
  obtain ⟨hd, rfl, hi, hR, hp, hl, hN, hB⟩ := h0e
  have g0 := hR.2.2.2.2.2.2.2.2.1.1
  obtain ⟨g7, g8, g9, g10, g11, g12, g13⟩ := hR.2.2.2.2.2.2.2.2.1.2.2
  have e29 : M.1 29 = nI (nBt M) := hi.1.1.1
  have e22 : M.1 22 = nI (nBg M) := hi.1.2.1.1
  have e46 : M.1 46 = nI (nCo M) := hi.1.2.2.1
  have b29 : nBt M ≤ 6 := hi.1.1.2
  have b22 : nBg M ≤ 24 := hi.1.2.1.2
  have b46 : nCo M ≤ 12 := hi.1.2.2.2
  have n29 : nBt (mSet M 0 0) = nBt M := rfl
  have n22 : nBg (mSet M 0 0) = nBg M := rfl
  have n46 : nCo (mSet M 0 0) = nCo M := rfl
  obtain ⟨f1, f2, f3, f4, f5, f6⟩ := R0_barges hR
  rw [n22] at f4 f5 f6
  have hcap := rLst.isCap hR.2.2.2.2.2.2.2.2.2.2 (show isL (mSet M 0 0) 6 2 from Or.inl ⟨rfl, by omega⟩)
  rw [spwX7_shifts, f2]
  have e8 : (0 ≤ p ∧ p < 8) = (0 ≤ p ∧ p ≤ 7) := by rw [idx7]; rfl
  refine ⟨g0, f1, ⟨f3, hcap, fun j hj => ?_⟩, fun z => hk _ _ (ans_e h (z := 1) ?_ (by decide) rfl), fun z => ?_⟩
  · rw [f4] at hj
    rw [f6 j hj]
    exact (R0_gOk hd hR hi hj).1
  · unfold oShifts
    rw [if_pos (by rw [← e8]; exact z)]
  obtain ⟨y, hy, rfl⟩ : ∃ y, y < 8 ∧ p = nI y := by
    have z2 := z
    rw [show (8 : Int32) = nI 8 from rfl, idx (by omega)] at z2
    exact z2
  have ey : (nI y).toNatClampNeg = y := ix_nI (by omega)
  have hbad : ¬ mIsr M (nI y) s → oShifts M (nI y) s = (0, mSet M 0 2) := fun w => by
    unfold oShifts
    rw [if_neg (not_not_intro (by rw [← e8]; exact z)), if_pos w]
  have hgood : mIsr M (nI y) s → oShifts M (nI y) s = (mShT M s (2 * y + 1) (mShT M s (2 * y) 0), mSet M 0 0) := fun w => by
    unfold oShifts
    rw [if_neg (not_not_intro (by rw [← e8]; exact z)), if_neg (not_not_intro w), ey]
  obtain ⟨-, -, -, -, -, hiM, -⟩ := h
  by_cases hs0 : 0 ≤ s
  · obtain ⟨n, hn, rfl⟩ := zb_of hs0
    obtain ⟨c1, c2, c3, c4, c5⟩ := R0_set hd hR hi (p := nI y) hn
    have hiff := mIs_iff hiM (p := nI y) hn 31 (Nat.le_refl _)
    have hiff0 := mIs_iff hi (p := nI y) hn 31 (Nat.le_refl _)
    have him : mIs (mSet M 0 0) (nI y) (nI n) 31 = true ↔ mIs M (nI y) (nI n) 31 = true := by rw [hiff, hiff0]; rfl
    have e6 : (cBc (nI n) ≤ 6) = (mSn (nI n) 31 ≤ 6) := by rw [c1, c3]
    refine ⟨fun w => hk _ _ (ans_e h9 (z := 2) (hbad (fun v => w ⟨hs0, by rw [e6]; exact v.2⟩)) (by decide) rfl), fun w q S2 hI => ⟨fun v => ?_, fun v => ?_⟩⟩
    · rw [f4] at hI v
      refine hk _ _ (ans_e0 ⟨d, np, N, RRd_tI h0d hI⟩ (z := 2) (hbad (fun w2 => v (c4.mpr (him.mpr w2.1)))) (by decide) rfl)
    · rw [f4] at hI v
      have hm0 := c4.mp v
      have hm := him.mp hm0
      obtain ⟨d1, d2⟩ := c5 hm0
      have d1 : cCh S (d 6 2) (nI y) (nI n) (nBg M) = (nCh n (nBg (mSet M 0 0))).map (d 2) := d1
      rw [d1] at hI
      have hR2 := R0_fr hR hI.1 (fun k i z => hI.2.1 _ (rLst.isCap hR.2.2.2.2.2.2.2.2.2.2 z))
      have h31 := hiff0.mp hm0
      have hle6 : (nCh n (nBg (mSet M 0 0))).length ≤ 6 := by
        have w2 := w.2
        rw [c1, show (6 : Int32) = nI 6 from rfl, le_nI (by omega) (by omega)] at w2
        omega
      obtain ⟨s1, s2, s3⟩ := R0_sh hd hR2 hi hy hn h31 hle6 hI.own
      have eM : mShT (mSet M 0 0) (nI n) (2 * y + 1) (mShT (mSet M 0 0) (nI n) (2 * y) 0) = mShT M (nI n) (2 * y + 1) (mShT M (nI n) (2 * y) 0) := by
        rw [mSh_sum hi hy hn h31, mSh_sum hiM hy hn (hiff.mp hm)]
        rfl
      refine ⟨s1, hk _ _ (ans_0 ⟨d, np, N, RRd_tI h0d hI⟩ (hgood ⟨hm, by rw [← e6]; exact w.2⟩) ?_)⟩
      rw [s2, eM]
  · refine ⟨fun _ => hk _ _ (ans_e h9 (z := 2) (hbad (fun v => ?_)) (by decide) rfl), fun w => absurd w.1 hs0⟩
    have h1 := mIs_f (M := M) (p := nI y) (s := s) (j := 0) (decide_eq_false hs0) 31 (by omega)
    have v1 := v.1
    rw [h1] at v1
    cases v1

set_option maxHeartbeats 400000 in
theorem Q_shiftsAnew {W9 : xWd} {B a : Nat} {S : cS} {M : mS} {p : Int32} {s : Int32} {K : xRes → cS → Prop} (h : RR W9 B a S M) (hk : ∀ r S2, ans [eB, eA] W9 B a (oShifts M p s) r S2 → K r S2) : (spX7_shiftsAnew W9).2 [.ref a, .int p, .int s] S K := by
  have h9 := h
  have h0 := RR_set0 (z := 0) h
  have h00 := h0
  obtain ⟨d, np, N, h0d⟩ := h00
  have h0e := h0d
  obtain ⟨hd, rfl, hi, hR, hp, hl, hN, hB⟩ := h0e
  have g0 := hR.2.2.2.2.2.2.2.2.1.1
  obtain ⟨g7, g8, g9, g10, g11, g12, g13⟩ := hR.2.2.2.2.2.2.2.2.1.2.2
  have e29 : M.1 29 = nI (nBt M) := hi.1.1.1
  have e22 : M.1 22 = nI (nBg M) := hi.1.2.1.1
  have e46 : M.1 46 = nI (nCo M) := hi.1.2.2.1
  have b29 : nBt M ≤ 6 := hi.1.1.2
  have b22 : nBg M ≤ 24 := hi.1.2.1.2
  have b46 : nCo M ≤ 12 := hi.1.2.2.2
  have n29 : nBt (mSet M 0 0) = nBt M := rfl
  have n22 : nBg (mSet M 0 0) = nBg M := rfl
  have n46 : nCo (mSet M 0 0) = nCo M := rfl
  obtain ⟨f1, f2, f3, f4, f5, f6⟩ := R0_barges hR
  rw [n22] at f4 f5 f6
  have hcap := rLst.isCap hR.2.2.2.2.2.2.2.2.2.2 (show isL (mSet M 0 0) 6 2 from Or.inl ⟨rfl, by omega⟩)
  rw [spwX7_shiftsAnew, f2]
  have e8 : (0 ≤ p ∧ p < 8) = (0 ≤ p ∧ p ≤ 7) := by rw [idx7]; rfl
  refine ⟨g0, f1, ⟨f3, hcap, fun j hj => ?_⟩, fun z => hk _ _ (ans_e h (z := 1) ?_ (by decide) rfl), fun z => ?_⟩
  · rw [f4] at hj
    rw [f6 j hj]
    exact (R0_gOk hd hR hi hj).1
  · unfold oShifts
    rw [if_pos (by rw [← e8]; exact z)]
  obtain ⟨y, hy, rfl⟩ : ∃ y, y < 8 ∧ p = nI y := by
    have z2 := z
    rw [show (8 : Int32) = nI 8 from rfl, idx (by omega)] at z2
    exact z2
  have ey : (nI y).toNatClampNeg = y := ix_nI (by omega)
  have hbad : ¬ mIsr M (nI y) s → oShifts M (nI y) s = (0, mSet M 0 2) := fun w => by
    unfold oShifts
    rw [if_neg (not_not_intro (by rw [← e8]; exact z)), if_pos w]
  have hgood : mIsr M (nI y) s → oShifts M (nI y) s = (mShT M s (2 * y + 1) (mShT M s (2 * y) 0), mSet M 0 0) := fun w => by
    unfold oShifts
    rw [if_neg (not_not_intro (by rw [← e8]; exact z)), if_neg (not_not_intro w), ey]
  obtain ⟨-, -, -, -, -, hiM, -⟩ := h
  by_cases hs0 : 0 ≤ s
  · obtain ⟨n, hn, rfl⟩ := zb_of hs0
    obtain ⟨c1, c2, c3, c4, c5⟩ := R0_set hd hR hi (p := nI y) hn
    have hiff := mIs_iff hiM (p := nI y) hn 31 (Nat.le_refl _)
    have hiff0 := mIs_iff hi (p := nI y) hn 31 (Nat.le_refl _)
    have him : mIs (mSet M 0 0) (nI y) (nI n) 31 = true ↔ mIs M (nI y) (nI n) 31 = true := by rw [hiff, hiff0]; rfl
    have e6 : (cBc (nI n) ≤ 6) = (mSn (nI n) 31 ≤ 6) := by rw [c1, c3]
    refine ⟨fun w => hk _ _ (ans_e h9 (z := 2) (hbad (fun v => w ⟨hs0, by rw [e6]; exact v.2⟩)) (by decide) rfl), fun w q S2 hI => ⟨fun v => ?_, fun v => ?_⟩⟩
    · rw [f4] at hI v
      refine hk _ _ (ans_e0 ⟨d, np, N, RRd_tI h0d hI⟩ (z := 2) (hbad (fun w2 => v (c4.mpr (him.mpr w2.1)))) (by decide) rfl)
    · rw [f4] at hI v
      have hm0 := c4.mp v
      have hm := him.mp hm0
      obtain ⟨d1, d2⟩ := c5 hm0
      have d1 : cCh S (d 6 2) (nI y) (nI n) (nBg M) = (nCh n (nBg (mSet M 0 0))).map (d 2) := d1
      rw [d1] at hI
      have hR2 := R0_fr hR hI.1 (fun k i z => hI.2.1 _ (rLst.isCap hR.2.2.2.2.2.2.2.2.2.2 z))
      have h31 := hiff0.mp hm0
      have hle6 : (nCh n (nBg (mSet M 0 0))).length ≤ 6 := by
        have w2 := w.2
        rw [c1, show (6 : Int32) = nI 6 from rfl, le_nI (by omega) (by omega)] at w2
        omega
      obtain ⟨s1, s2, s3⟩ := R0_sh hd hR2 hi hy hn h31 hle6 hI.own
      have eM : mShT (mSet M 0 0) (nI n) (2 * y + 1) (mShT (mSet M 0 0) (nI n) (2 * y) 0) = mShT M (nI n) (2 * y + 1) (mShT M (nI n) (2 * y) 0) := by
        rw [mSh_sum hi hy hn h31, mSh_sum hiM hy hn (hiff.mp hm)]
        rfl
      refine ⟨s1, hk _ _ (ans_0 ⟨d, np, N, RRd_tI h0d hI⟩ (hgood ⟨hm, by rw [← e6]; exact w.2⟩) ?_)⟩
      rw [s3, eM]
  · refine ⟨fun _ => hk _ _ (ans_e h9 (z := 2) (hbad (fun v => ?_)) (by decide) rfl), fun w => absurd w.1 hs0⟩
    have h1 := mIs_f (M := M) (p := nI y) (s := s) (j := 0) (decide_eq_false hs0) 31 (by omega)
    have v1 := v.1
    rw [h1] at v1
    cases v1

