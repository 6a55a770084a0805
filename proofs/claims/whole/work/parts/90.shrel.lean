/-! The class's answers are the reference's: what is shifted. -/
section SHF

set_option maxHeartbeats 400000 in
theorem R0_fr {W9 : xWd} {d : Nat → Nat → Nat} {S S2 : cS} {M : mS} (hR : R0 W9 d S M) (f : fr1 S S2) (hs : ∀ k i, isL M k i → lSame S S2 (d k i)) : R0 W9 d S2 M :=
  ⟨hR.1.mono (fun z hz => f.sm (R0_live hR (us0 hz))) rfl rfl rfl rfl rfl rfl rfl rfl rfl rfl rfl rfl , hR.2.1.mono (fun z hz => f.sm (R0_live hR (us1 hz))) rfl , hR.2.2.1.mono (fun z hz => f.sm (R0_live hR (us5 hz))) rfl rfl , hR.2.2.2.1.mono (fun z hz => f.sm (R0_live hR (us2 hz))) rfl rfl rfl rfl rfl rfl rfl , hR.2.2.2.2.1.mono (fun z hz => f.sm (R0_live hR (us3 hz))) rfl rfl rfl rfl rfl rfl rfl rfl rfl rfl rfl rfl rfl , hR.2.2.2.2.2.1.mono (fun z hz => f.sm (R0_live hR (us4 hz))) rfl rfl rfl rfl rfl rfl rfl rfl rfl rfl rfl rfl , hR.2.2.2.2.2.2.1.mono (fun z hz => f.sm (R0_live hR (us4 hz))) rfl rfl , hR.2.2.2.2.2.2.2.1.mono (fun z hz => f.sm (R0_live hR (us10 hz))) rfl rfl , hR.2.2.2.2.2.2.2.2.1.mono (f.sm (R0_live hR (us9 (by omega)))) rfl rfl rfl rfl rfl rfl rfl , hR.2.2.2.2.2.2.2.2.2.1.mono (f.sm (R0_live hR (us9 (by omega)))) rfl rfl rfl , hR.2.2.2.2.2.2.2.2.2.2.mono (fun k i z hc => ⟨hc.mono f (hs k i z), hs k i z⟩) rfl rfl rfl rfl rfl rfl rfl⟩

set_option maxHeartbeats 400000 in
theorem RRd_tI {W9 : xWd} {B a : Nat} {d : Nat → Nat → Nat} {S S2 : cS} {M : mS} {np N q : Nat} {w : List Nat} (h : RRd W9 B a d S M np N) (hI : tI W9 S S2 q w) : RRd W9 B a d S2 M np N :=
  RRd_new h h.1 rfl (R0_fr h.2.2.2.1 hI.1 (fun k i z => hI.2.1 _ (rLst.isCap h.2.2.2.1.2.2.2.2.2.2.2.2.2.2 z))) h.2.2.1 rfl hI.1 rfl (fun _ _ => rfl) (fun _ _ => rfl) rfl rfl rfl rfl rfl rfl
def gT (M : mS) (t i : Nat) : Nat := (M.2 19 (5 * t + i)).toNatClampNeg
def tTi (M : mS) (k : Nat) : Nat := (M.2 27 k).toNatClampNeg
def bwM (M : mS) (k u : Nat) : Nat := ow (gT M (tTi M k)) u (mPlc M (nI k) + 1) (nT M (tTi M k) - (mPlc M (nI k) + 1))
set_option maxHeartbeats 400000 in
theorem tie_of {M : mS} (hi : iAll M) {k : Nat} (hk : k < nBg M) (h28 : M.2 28 k = -1) : ∃ t p, t < 16 ∧ M.2 27 k = nI t ∧ tTi M k = t ∧ p < nT M t ∧ gT M t p = k ∧ mPlc M (nI k) = p ∧ nT M t ≤ 5 := by
  have hb := hi.1.1.2
  have hg24 := hi.1.2.1.2
  have eg : (nI k).toNatClampNeg = k := ix_nI (by omega)
  rcases (hi.2.2.2.2.1 k hk).1 with ⟨z, t, p, ht, et, hp, ep, hu⟩ | ⟨w, p, hw, ew, -⟩
  · have hn5 := iTie_n hi.2.2.1 ht
    have hpl : mPl M (nI k) p := ⟨xin_nI (by omega) (by omega), Or.inl ⟨by rw [eg]; exact z, by omega, t, by rw [eg]; exact et, ht, fun q hq y => by have := hu q (by omega) y; omega, ep⟩⟩
    exact ⟨t, p, ht, et, by unfold tTi; rw [et, ix_nI (by omega)], hp, by unfold gT; rw [ep, eg], mPlc_of hpl, by omega⟩
  · rw [ew] at h28
    exact absurd h28 (nI_m1 (by omega))
set_option maxHeartbeats 400000 in
theorem tie_at {M : mS} (hi : iAll M) {t i : Nat} (ht : t < 16) (hit : i < nT M t) : ∃ g, g < nBg M ∧ M.2 19 (5 * t + i) = nI g ∧ gT M t i = g ∧ M.2 28 g = -1 ∧ M.2 27 g = nI t ∧ tTi M g = t ∧ mPlc M (nI g) = i := by
  have hg24 := hi.1.2.1.2
  obtain ⟨g, hg, eg, e28, e27⟩ := (hi.2.2.1 t ht).2.2.2 i hit
  have hgg : (nI g).toNatClampNeg = g := ix_nI (by omega)
  obtain ⟨t2, p2, a1, a2, a3, a4, a5, a6, -⟩ := tie_of hi hg e28
  have et : t2 = t := by
    rw [a2] at e27
    exact (nI_eq (by omega) (by omega)).mp e27
  subst et
  refine ⟨g, hg, eg, by unfold gT; rw [eg, hgg], e28, e27, a3, ?_⟩
  rw [a6]
  rcases (hi.2.2.2.2.1 g hg).1 with ⟨z, t3, p3, b1, b2, b3, b4, b5⟩ | ⟨w, p3, hw, ew, -⟩
  · have et3 : t3 = t2 := by
      rw [b2] at e27
      exact (nI_eq (by omega) (by omega)).mp e27
    subst et3
    have h1 := b5 i hit eg
    have e5 : M.2 19 (5 * t3 + p2) = nI g := by
      obtain ⟨g3, hg3, eg3, -⟩ := (hi.2.2.1 t3 ht).2.2.2 p2 a4
      unfold gT at a5
      rw [eg3, ix_nI (by omega)] at a5
      rw [eg3, a5]
    have h2 := b5 p2 a4 e5
    omega
  · rw [ew] at e28
    have := hi.1.1.2
    exact absurd e28 (nI_m1 (by omega))
set_option maxHeartbeats 400000 in
theorem R0_bw {W9 : xWd} {d : Nat → Nat → Nat} {S : cS} {M : mS} (hd : dInj d) (hR : R0 W9 d S M) (hi : iAll M) {k : Nat} (hk : k < nBg M) (h28 : M.2 28 k = -1) (u : Nat) : rBh S (cRf S (d 2 k) 102) (d 2 k) (nI u) = nI (bwM M k u) := by
  have hb := hi.1.1.2
  have hg24 := hi.1.2.1.2
  obtain ⟨r, p, h1, h2, h3, h4, h5, -, h7, h6⟩ := R0_gp hd hR hi hk
  obtain ⟨-, t, ht, et, er, en, -⟩ := h6.resolve_right (fun ⟨w, hw, ew, _⟩ => nI_m1 (show w < 1000 by omega) (by rw [← ew]; exact h28))
  have e : cRf S (d 2 k) 102 = r := by unfold cRf; rw [h1]; rfl
  have hn : p < 1000 := by have := h2.2.2.1.2.2.1; unfold rN at h4; omega
  have e2 : rP S r (d 2 k) = p := by unfold rP; rw [h3, ix_nI hn]
  have et2 : tTi M k = t := by unfold tTi; rw [et, ix_nI (by omega)]
  obtain ⟨-, -, e3, e4, -⟩ := R0_tier hR hi ht
  rw [e]
  unfold rBh bwM
  rw [e2, et2, h7, en]
  have hct : ∀ j, p + 1 + j ≤ nT M t → rCt S r (nI u) (p + 1) j = nI (ow (gT M t) u (p + 1) j) := by
    intro j
    induction j with
    | zero => intro _; rfl
    | succ j ih =>
      intro hj
      show rCt S r (nI u) (p + 1) j + (if nI u &&& cBit S (rB S r (p + 1 + j)) = 0 then 1 else 0) = nI (ow (gT M t) u (p + 1) j + (if u.testBit (gT M t (p + 1 + j)) then 0 else 1))
      obtain ⟨g, hg, eg, eg2, -⟩ := tie_at hi ht (show p + 1 + j < nT M t by omega)
      rw [ih (by omega), er, e4 _ (by omega), eg, ix_nI (by omega), eg2]
      have hc : cBit S (d 2 g) = 1 <<< (nI g &&& 31) := by unfold cBit; rw [(hR.2.2.2.1 g hg).2.1]
      rw [hc]
      cases c : u.testBit g
      · rw [if_pos (by rw [zb_tb (by omega)]; exact c)]
        exact nI1
      · rw [if_neg (by rw [zb_tb (by omega), c]; exact fun z => by cases z)]
        exact Int32.add_zero _
  rw [en] at h4
  exact hct _ (by omega)
set_option maxHeartbeats 400000 in
/-- which bits a set has, as the reference sees it -/
theorem mIs_iff {M : mS} (hi : iAll M) {p : Int32} {n : Nat} (hn : n < 2147483648) : ∀ k, k ≤ 31 → ((mIs M p (nI n) k = true) ↔ ∀ j, j < k → n.testBit j = true → j < nBg M ∧ M.2 28 j = -1 ∧ M.2 27 j / 2 = p)
  | 0, _ => ⟨fun _ j hj => by omega, fun _ => decide_eq_true (nI_pos' (by omega))⟩
  | k + 1, hk => by
    have ih := mIs_iff (p := p) hi hn k (by omega)
    have hs : mIs M p (nI n) (k + 1) = (mIs M p (nI n) k && decide (¬ mHas (nI n) (nI k) ∨ ((0 ≤ nI k ∧ nI k ≤ M.1 22 - 1) ∧ M.2 28 k = -1 ∧ M.2 27 k / 2 = p))) := rfl
    have hg24 := hi.1.2.1.2
    have e22 : (0 ≤ nI k ∧ nI k ≤ M.1 22 - 1) = (k < nBg M) := by
      rw [hi.1.2.1.1, le_m1 (by omega), lt_nI (by omega) (by omega)]
      exact propext ⟨fun z => z.2, fun z => ⟨pos_nI (by omega), z⟩⟩
    have eh : mHas (nI n) (nI k) = (n.testBit k = true) := by
      rw [zb_has hn (by omega), Nat.testBit_eq_decide_div_mod_eq]
      simp
    rw [hs, Bool.and_eq_true, ih, decide_eq_true_eq, e22, eh]
    constructor
    · rintro ⟨h1, h2⟩ j hj hb
      by_cases c : j = k
      · subst c
        exact h2.resolve_left (fun z => z hb)
      · exact h1 j (by omega) hb
    · intro h
      refine ⟨fun j hj hb => h j (by omega) hb, ?_⟩
      by_cases c : n.testBit k = true
      · exact Or.inr (h k (by omega) c)
      · exact Or.inl c
set_option maxHeartbeats 400000 in
theorem smN_le {f g : Nat → Nat} : ∀ m, (∀ j, j < m → f j ≤ g j) → smN f m ≤ smN g m
  | 0, _ => Nat.le_refl _
  | m + 1, h => by
    have h1 := smN_le m (fun j hj => h j (by omega))
    have h2 := h m (by omega)
    show smN f m + f m ≤ smN g m + g m
    omega
set_option maxHeartbeats 400000 in
theorem smN_iff {f g : Nat → Nat} : ∀ m, (∀ j, j < m → f j ≤ g j) → smN f m = smN g m → ∀ j, j < m → f j = g j
  | 0, _, _, j, hj => by omega
  | m + 1, h, e, j, hj => by
    have h1 := smN_le m (fun j hj => h j (by omega))
    have h2 := h m (by omega)
    have e2 : smN f m + f m = smN g m + g m := e
    by_cases c : j = m
    · subst c
      omega
    · exact smN_iff m (fun j hj => h j (by omega)) (by omega) j (by omega)
set_option maxHeartbeats 400000 in
theorem smN_z {f : Nat → Nat} {m : Nat} : ∀ k, (∀ j, m ≤ j → f j = 0) → smN f (m + k) = smN f m
  | 0, _ => rfl
  | k + 1, h => by
    show smN f (m + k) + f (m + k) = smN f m
    rw [smN_z k h, h _ (by omega)]
    omega
set_option maxHeartbeats 400000 in
theorem sN_sm (n : Nat) : ∀ k, sN n k = smN (fun j => if n.testBit j then 1 else 0) k
  | 0 => rfl
  | k + 1 => by
    show sN n k + n / 2 ^ k % 2 = smN (fun j => if n.testBit j then 1 else 0) k + (if n.testBit k then 1 else 0)
    rw [sN_sm n k, Nat.testBit_eq_decide_div_mod_eq]
    rcases (show n / 2 ^ k % 2 = 0 ∨ n / 2 ^ k % 2 = 1 by omega) with c | c <;> rw [c] <;> simp
def nCh (n N : Nat) : List Nat := (List.range N).filter (fun j => n.testBit j)
set_option maxHeartbeats 400000 in
theorem nCh_mem {n N k : Nat} : k ∈ nCh n N ↔ k < N ∧ n.testBit k = true := by
  unfold nCh
  rw [List.mem_filter, List.mem_range]
set_option maxHeartbeats 400000 in
theorem nCh_nd {n N : Nat} : (nCh n N).Nodup := List.Pairwise.filter _ List.nodup_range
set_option maxHeartbeats 400000 in
theorem nCh_len (n : Nat) : ∀ N, (nCh n N).length = smN (fun j => if n.testBit j then 1 else 0) N
  | 0 => rfl
  | N + 1 => by
    have ih := nCh_len n N
    unfold nCh at *
    rw [List.range_succ, List.filter_append, List.length_append, ih]
    show _ + _ = smN (fun j => if n.testBit j then 1 else 0) N + (if n.testBit N then 1 else 0)
    cases c : n.testBit N <;> simp [c]
set_option maxHeartbeats 400000 in
/-- which barges the class chooses -/
theorem R0_ch {W9 : xWd} {d : Nat → Nat → Nat} {S : cS} {M : mS} (hd : dInj d) (hR : R0 W9 d S M) (hi : iAll M) {n j : Nat} {p : Int32} (hj : j < nBg M) : cChB S (d 6 2) p (nI n) j ↔ (n.testBit j = true ∧ M.2 28 j = -1 ∧ M.2 27 j / 2 = p) := by
  have hg24 := hi.1.2.1.2
  have e := (R0_barges hR).2.2.2.2.2 j hj
  obtain ⟨x1, x2⟩ := R0_bh hd hR hi hj
  unfold cChB
  rw [e, (hR.2.2.2.1 j hj).2.1, zb_tb (by omega)]
  by_cases c : M.2 28 j = -1
  · obtain ⟨-, y2, y3⟩ := x1 c
    rw [y2, y3]
    simp [c]
  · obtain ⟨-, -, y3⟩ := x2 c
    exact ⟨fun z => absurd z.2.1 y3, fun z => absurd z.2.1 c⟩
set_option maxHeartbeats 400000 in
theorem R0_chl {W9 : xWd} {d : Nat → Nat → Nat} {S : cS} {M : mS} (hd : dInj d) (hR : R0 W9 d S M) (hi : iAll M) {n : Nat} {p : Int32} (P : Nat → Bool) (hP : ∀ j, P j = true ↔ (n.testBit j = true ∧ M.2 28 j = -1 ∧ M.2 27 j / 2 = p)) : ∀ k, k ≤ nBg M → cCh S (d 6 2) p (nI n) k = ((List.range k).filter P).map (d 2)
  | 0, _ => rfl
  | k + 1, hk => by
    have ih := R0_chl hd hR hi P hP k (by omega)
    have e := (R0_barges hR).2.2.2.2.2 k (by omega)
    have hc := R0_ch hd hR hi (n := n) (p := p) (show k < nBg M by omega)
    rw [List.range_succ, List.filter_append, List.map_append, ← ih]
    cases c : P k
    · have nb : ¬ cChB S (d 6 2) p (nI n) k := fun z => by
        have := (hP k).mpr (hc.mp z)
        rw [c] at this
        cases this
      rw [cCh_f nb]
      simp [c]
    · rw [cCh_t (hc.mpr ((hP k).mp c)), e]
      simp [c]
set_option maxHeartbeats 400000 in
theorem flt_len (P : Nat → Bool) : ∀ N, ((List.range N).filter P).length = smN (fun j => if P j then 1 else 0) N
  | 0 => rfl
  | N + 1 => by
    have ih := flt_len P N
    rw [List.range_succ, List.filter_append, List.length_append, ih]
    show _ + _ = smN (fun j => if P j then 1 else 0) N + (if P N then 1 else 0)
    cases c : P N <;> simp [c]
set_option maxHeartbeats 400000 in
/-- the class takes a set as the reference does -/
theorem R0_set {W9 : xWd} {d : Nat → Nat → Nat} {S : cS} {M : mS} (hd : dInj d) (hR : R0 W9 d S M) (hi : iAll M) {n : Nat} (hn : n < 2147483648) {p : Int32} : cBc (nI n) = nI (sN n 31) ∧ sN n 31 ≤ 31 ∧ (mSn (nI n) 31 = nI (sN n 31)) ∧
    ((nI (cCh S (d 6 2) p (nI n) (nBg M)).length = cBc (nI n)) ↔ mIs M p (nI n) 31 = true) ∧ (mIs M p (nI n) 31 = true → cCh S (d 6 2) p (nI n) (nBg M) = (nCh n (nBg M)).map (d 2) ∧ (nCh n (nBg M)).length = sN n 31) := by
  have hg24 := hi.1.2.1.2
  have h1 : cBc (nI n) = nI (sN n 31) := by rw [zb_cnt (by omega), zb_31 hn]
  have h2 := sN_le n 31
  have h3 := zb_sn hn 31 (Nat.le_refl _)
  have him := mIs_iff hi (p := p) hn 31 (Nat.le_refl _)
  have hdec : ∃ P : Nat → Bool, ∀ j, P j = true ↔ (n.testBit j = true ∧ M.2 28 j = -1 ∧ M.2 27 j / 2 = p) := ⟨fun j => decide (n.testBit j = true ∧ M.2 28 j = -1 ∧ M.2 27 j / 2 = p), fun j => decide_eq_true_iff⟩
  obtain ⟨P, hP⟩ := hdec
  have hl := R0_chl hd hR hi P hP (nBg M) (Nat.le_refl _)
  have hlen : (cCh S (d 6 2) p (nI n) (nBg M)).length = smN (fun j => if P j then 1 else 0) (nBg M) := by rw [hl, List.length_map, flt_len]
  have hz : smN (fun j => if P j && decide (j < nBg M) then 1 else 0) 31 = smN (fun j => if P j then 1 else 0) (nBg M) := by
    rw [show 31 = nBg M + (31 - nBg M) by omega, smN_z _ (fun j hj => by rw [decide_eq_false (by omega), Bool.and_false]; rfl)]
    exact smN_c _ (fun i hi => by rw [decide_eq_true hi, Bool.and_true])
  have hle : ∀ j, j < 31 → (fun j => if P j && decide (j < nBg M) then 1 else 0) j ≤ (fun j => if n.testBit j then 1 else 0) j := by
    intro j _
    show (if P j && decide (j < nBg M) then 1 else 0) ≤ if n.testBit j then 1 else 0
    cases c : P j
    · simp
    · rw [((hP j).mp c).1]
      simp
      split <;> omega
  have hb := smN_le 31 hle
  rw [hz, ← sN_sm] at hb
  refine ⟨h1, h2, h3, ?_, ?_⟩
  · rw [h1, hlen, eq_nI (by omega) (by omega), him]
    constructor
    · intro e j hj hbit
      have h := smN_iff 31 hle (by rw [hz, ← sN_sm]; exact e) j hj
      have h : (if P j && decide (j < nBg M) then 1 else 0) = if n.testBit j then 1 else 0 := h
      rw [hbit] at h
      cases c : P j
      · rw [c] at h
        simp at h
      · by_cases c2 : j < nBg M
        · exact ⟨c2, ((hP j).mp c).2⟩
        · rw [decide_eq_false c2, Bool.and_false] at h
          simp at h
    · intro h
      rw [← hz, sN_sm]
      refine smN_c 31 (fun j hj => ?_)
      cases c : n.testBit j
      · cases c2 : P j
        · simp
        · have := ((hP j).mp c2).1
          rw [c] at this
          cases this
      · obtain ⟨a1, a2⟩ := h j hj c
        rw [(hP j).mpr ⟨c, a2⟩, decide_eq_true a1]
        simp
  · intro h
    have h := him.mp h
    refine ⟨?_, ?_⟩
    · rw [hl]
      unfold nCh
      congr 1
      refine List.filter_congr (fun j hj => ?_)
      have hj := List.mem_range.mp hj
      cases c : n.testBit j
      · cases c2 : P j
        · rfl
        · have := ((hP j).mp c2).1
          rw [c] at this
          cases this
      · exact (hP j).mpr ⟨c, (h j (by omega) c).2⟩
    · rw [nCh_len, sN_sm]
      have hz2 : smN (fun j => if n.testBit j then 1 else 0) (nBg M + (31 - nBg M)) = smN (fun j => if n.testBit j then 1 else 0) (nBg M) := smN_z _ (fun j hj => by
        cases c : n.testBit j
        · rfl
        · exfalso
          by_cases q : j < 31
          · have := (h j q c).1
            omega
          · have e0 : n.testBit j = false := Nat.testBit_lt_two_pow (Nat.lt_of_lt_of_le hn (by
              have : 2 ^ 31 ≤ 2 ^ j := Nat.pow_le_pow_right (by omega) (by omega)
              omega))
            rw [c] at e0
            cases e0)
      rw [show nBg M + (31 - nBg M) = 31 by omega] at hz2
      exact hz2.symm
end SHF

