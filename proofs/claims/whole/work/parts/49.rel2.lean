/-! The relation: what the reference's rows owe; what the class answers, said by the reference. -/
def iCnt (M : mS) : Prop := (M.1 29 = nI (nBt M) ∧ nBt M ≤ 6) ∧ (M.1 22 = nI (nBg M) ∧ nBg M ≤ 24) ∧ M.1 46 = nI (nCo M) ∧ nCo M ≤ 12
def iSec (M : mS) : Prop := ∀ s, s < 7 → ((1 ≤ M.2 9 s ∧ M.2 9 s ≤ 9) ∧ 0 ≤ M.2 7 s ∧ M.2 7 s ≤ 3) ∧ (M.2 5 s = 0 ∨ M.2 5 s = 1) ∧ (M.2 15 s = 0 ∨ M.2 15 s = 1)
def iTie (M : mS) : Prop := ∀ t, t < 16 → M.2 18 t = nI (nT M t) ∧ (0 ≤ M.2 17 t ∧ M.2 17 t ≤ 5) ∧ M.2 18 t ≤ M.2 17 t ∧ ∀ k, k < nT M t → ∃ g, g < nBg M ∧ M.2 19 (5 * t + k) = nI g ∧ M.2 28 g = -1 ∧ M.2 27 g = nI t
def iTow (M : mS) : Prop := ∀ w, w < nBt M → (M.2 42 w = nI (nW M w) ∧ nW M w ≤ 12) ∧ mWk M w ∧ ∀ k, k < nW M w → ∃ g, g < nBg M ∧ M.2 41 (12 * w + k) = nI g ∧ M.2 28 g = nI w
def iBar (M : mS) : Prop := ∀ g, g < nBg M → ((M.2 28 g = -1 ∧ ∃ t p, t < 16 ∧ M.2 27 g = nI t ∧ p < nT M t ∧ M.2 19 (5 * t + p) = nI g ∧ ∀ q, q < nT M t → M.2 19 (5 * t + q) = nI g → q = p) ∨
  (∃ w p, w < nBt M ∧ M.2 28 g = nI w ∧ p < nW M w ∧ M.2 41 (12 * w + p) = nI g ∧ ∀ q, q < nW M w → M.2 41 (12 * w + q) = nI g → q = p)) ∧
  ((M.2 24 g = 0 ∧ M.2 25 g = -1) ∨ ((1 ≤ M.2 24 g ∧ M.2 24 g ≤ 12) ∧ ∃ c, c < nCo M ∧ M.2 25 g = nI c)) ∧ 0 ≤ M.2 23 g ∧ M.2 23 g ≤ 2
def iCon (M : mS) : Prop := ∀ c, c < nCo M → (0 ≤ M.2 47 c ∧ M.2 47 c ≤ 2) ∧ vp_in (M.2 48 c) 8 ∧ vp_in (M.2 49 c) 8 ∧ 0 ≤ M.2 51 c ∧ M.2 51 c ≤ 5000
def iBoa (M : mS) : Prop := ∀ w, w < nBt M → (M.2 37 w = -1 ∨ vp_in (M.2 37 w) 8) ∧ (M.2 35 w = 0 ∨ M.2 35 w = 1) ∧ ((M.2 34 w = -1 ∧ vp_in (M.2 33 w) 8 ∧ ¬ M.2 37 w = M.2 33 w) ∨ (vp_in (M.2 34 w) 7 ∧ 1 ≤ M.2 36 w ∧ M.2 36 w ≤ 100))
def iAgr (M : mS) : Prop := ∀ w v, w < 6 → v < 6 → (M.2 45 (6 * w + v) = 0 ∨ M.2 45 (6 * w + v) = 1) ∧ M.2 45 (6 * w + v) = M.2 45 (6 * v + w) ∧ (nBt M ≤ w → M.2 45 (6 * w + v) = 0)
def iZer (M : mS) : Prop := (∀ w, w < 6 → nBt M ≤ w → M.2 32 w = 0 ∧ M.2 39 w = 0 ∧ M.2 42 w = 0 ∧ (M.2 43 w = 0 ∧ M.2 35 w = 0) ∧ ∀ c, c < 10 → M.2 44 (10 * w + c) = 0) ∧ ∀ c, c < 12 → nCo M ≤ c → M.2 53 c = 0 ∧ M.2 54 c = 0 ∧ M.2 55 c = 0
def iTop (M : mS) : Prop := (∃ h, M.1 1 = nI h ∧ h ≤ 5000) ∧ (M.1 4 = 0 ∨ M.1 4 = 1) ∧ ∀ p, p < 8 → M.2 20 p ≤ M.1 1
def iAll (M : mS) : Prop := iCnt M ∧ iSec M ∧ iTie M ∧ iTow M ∧ iBar M ∧ iCon M ∧ iBoa M ∧ iAgr M ∧ iZer M ∧ iTop M
def R0 (W9 : xWd) (d : Nat → Nat → Nat) (S : cS) (M : mS) : Prop := rSec d S M ∧ rTie d S M ∧ rTow d S M ∧ rBar d S M ∧ rCon d S M ∧ rBoa d S M ∧ rAgr d S M ∧ rWai d S M ∧ rTop d S M ∧ rLoa d S M ∧ rLst W9 d S M
theorem iAll_h {M : mS} (h : iAll M) : mOKh M := by
  obtain ⟨h1, h2, -, h4, -, -, h7, -⟩ := h
  refine ⟨h1.1, fun w hw => ?_, fun s hs => (h2 s hs).2.2⟩
  obtain ⟨⟨a1, a2⟩, a3, a4⟩ := h4 w hw
  obtain ⟨b1, b2, b3⟩ := h7 w hw
  refine ⟨⟨nW M w, a1, a2, fun k hk => ?_⟩, a3, b1, b2, b3.imp id (fun z => z.1)⟩
  obtain ⟨g, hg, e, -⟩ := a4 k hk
  rw [e]
  exact xin_nI (by have := h1.2.1.2; omega) (by omega)
section RR
variable {W9 : xWd} {d : Nat → Nat → Nat} {S : cS} {M : mS}
theorem R0_list (hR : R0 W9 d S M) : (cIn S (d 9 0) 800 1 ∧ cRf S (d 9 0) 800 = d 6 0 ∧ lAll S (d 6 0) 7 ∧ lCn S (d 6 0) = 7 ∧ cFi S (d 6 0) 2 = 7 ∧ ∀ k, k < 7 → lG S (d 6 0) k = d 0 k) := by
  obtain ⟨hS, -, -, -, -, -, -, -, hT, -, ⟨⟨l0, -⟩, -⟩⟩ := hR
  have e : cRf S (d 9 0) 800 = d 6 0 := by unfold cRf; rw [hT.2.1.1]; rfl
  have hg : ∀ k, k < 7 → lG S (d 6 0) k = d 0 k := fun k hk => by unfold lG; rw [l0.2.2 k hk]; rfl
  refine ⟨⟨by rw [e]; exact hT.2.1.1, by rw [e]; exact l0.1.1⟩, e, ⟨l0.1.ok, fun k hk => ?_⟩, l0.2.1, by rw [l0.1.2.1, l0.2.1]; rfl, hg⟩
  rw [l0.2.1] at hk
  rw [hg k hk]
  exact ⟨l0.2.2 k hk, (hS k hk).1⟩
theorem R0_tiers (hR : R0 W9 d S M) : (cIn S (d 9 0) 801 1 ∧ cRf S (d 9 0) 801 = d 6 1 ∧ lAll S (d 6 1) 6 ∧ lCn S (d 6 1) = 16 ∧ cFi S (d 6 1) 2 = 16 ∧ ∀ k, k < 16 → lG S (d 6 1) k = d 1 k) := by
  obtain ⟨-, hS, -, -, -, -, -, -, hT, -, ⟨⟨-, l0, -⟩, -⟩⟩ := hR
  have e : cRf S (d 9 0) 801 = d 6 1 := by unfold cRf; rw [hT.2.1.2.1]; rfl
  have hg : ∀ k, k < 16 → lG S (d 6 1) k = d 1 k := fun k hk => by unfold lG; rw [l0.2.2 k hk]; rfl
  refine ⟨⟨by rw [e]; exact hT.2.1.2.1, by rw [e]; exact l0.1.1⟩, e, ⟨l0.1.ok, fun k hk => ?_⟩, l0.2.1, by rw [l0.1.2.1, l0.2.1]; rfl, hg⟩
  rw [l0.2.1] at hk
  rw [hg k hk]
  exact ⟨l0.2.2 k hk, (hS k hk).1⟩
theorem R0_barges (hR : R0 W9 d S M) : (cIn S (d 9 0) 802 1 ∧ cRf S (d 9 0) 802 = d 6 2 ∧ lAll S (d 6 2) 2 ∧ lCn S (d 6 2) = nBg M ∧ cFi S (d 6 2) 2 = nI (nBg M) ∧ ∀ k, k < nBg M → lG S (d 6 2) k = d 2 k) := by
  obtain ⟨-, -, -, hS, -, -, -, -, hT, -, ⟨⟨-, -, l0, -⟩, -⟩⟩ := hR
  have e : cRf S (d 9 0) 802 = d 6 2 := by unfold cRf; rw [hT.2.1.2.2.1]; rfl
  have hg : ∀ k, k < nBg M → lG S (d 6 2) k = d 2 k := fun k hk => by unfold lG; rw [l0.2.2 k hk]; rfl
  refine ⟨⟨by rw [e]; exact hT.2.1.2.2.1, by rw [e]; exact l0.1.1⟩, e, ⟨l0.1.ok, fun k hk => ?_⟩, l0.2.1, by rw [l0.1.2.1, l0.2.1], hg⟩
  rw [l0.2.1] at hk
  rw [hg k hk]
  exact ⟨l0.2.2 k hk, (hS k hk).1⟩
theorem R0_cons (hR : R0 W9 d S M) : (cIn S (d 9 0) 803 1 ∧ cRf S (d 9 0) 803 = d 6 3 ∧ lAll S (d 6 3) 4 ∧ lCn S (d 6 3) = nCo M ∧ cFi S (d 6 3) 2 = nI (nCo M) ∧ ∀ k, k < nCo M → lG S (d 6 3) k = d 3 k) := by
  obtain ⟨-, -, -, -, hS, -, -, -, hT, -, ⟨⟨-, -, -, l0, -⟩, -⟩⟩ := hR
  have e : cRf S (d 9 0) 803 = d 6 3 := by unfold cRf; rw [hT.2.1.2.2.2.1]; rfl
  have hg : ∀ k, k < nCo M → lG S (d 6 3) k = d 3 k := fun k hk => by unfold lG; rw [l0.2.2 k hk]; rfl
  refine ⟨⟨by rw [e]; exact hT.2.1.2.2.2.1, by rw [e]; exact l0.1.1⟩, e, ⟨l0.1.ok, fun k hk => ?_⟩, l0.2.1, by rw [l0.1.2.1, l0.2.1], hg⟩
  rw [l0.2.1] at hk
  rw [hg k hk]
  exact ⟨l0.2.2 k hk, (hS k hk).1⟩
theorem R0_boats (hR : R0 W9 d S M) : (cIn S (d 9 0) 804 1 ∧ cRf S (d 9 0) 804 = d 6 4 ∧ lAll S (d 6 4) 3 ∧ lCn S (d 6 4) = nBt M ∧ cFi S (d 6 4) 2 = nI (nBt M) ∧ ∀ k, k < nBt M → lG S (d 6 4) k = d 4 k) := by
  obtain ⟨-, -, -, -, -, hS, -, -, hT, -, ⟨⟨-, -, -, -, l0⟩, -⟩⟩ := hR
  have e : cRf S (d 9 0) 804 = d 6 4 := by unfold cRf; rw [hT.2.1.2.2.2.2.1]; rfl
  have hg : ∀ k, k < nBt M → lG S (d 6 4) k = d 4 k := fun k hk => by unfold lG; rw [l0.2.2 k hk]; rfl
  refine ⟨⟨by rw [e]; exact hT.2.1.2.2.2.2.1, by rw [e]; exact l0.1.1⟩, e, ⟨l0.1.ok, fun k hk => ?_⟩, l0.2.1, by rw [l0.1.2.1, l0.2.1], hg⟩
  rw [l0.2.1] at hk
  rw [hg k hk]
  exact ⟨l0.2.2 k hk, (hS k hk).1⟩
/-- a boat's tow -/
theorem R0_tow (hR : R0 W9 d S M) (hi : iAll M) {w : Nat} (hw : w < nBt M) : cRf S (d 4 w) 203 = d 5 w ∧ bOk S (d 4 w) ∧ rL S (d 5 w) = d 8 w ∧ rN S (d 5 w) = nW M w ∧ ∀ k, k < nW M w → rB S (d 5 w) k = d 2 (M.2 41 (12 * w + k)).toNatClampNeg := by
  obtain ⟨-, -, hW, hG, -, hB, -, -, -, -, ⟨-, -, l8, -⟩⟩ := hR
  obtain ⟨a0, -, -, -, -, -, a5⟩ := hW w hw
  obtain ⟨b0, -, -, -, b3, -⟩ := hB w hw
  obtain ⟨c1, c2, c3⟩ := l8 w hw
  obtain ⟨-, -, i4⟩ := hi.2.2.2.1 w hw
  have e1 : cRf S (d 4 w) 203 = d 5 w := by unfold cRf; rw [b3]; rfl
  have e2 : rL S (d 5 w) = d 8 w := by unfold rL cRf; rw [a5]; rfl
  have e3 : rN S (d 5 w) = nW M w := by unfold rN; rw [e2]; exact c2
  have e4 : ∀ k, k < nW M w → rB S (d 5 w) k = d 2 (M.2 41 (12 * w + k)).toNatClampNeg := fun k hk => by unfold rB; rw [e2, c3 k hk]; rfl
  refine ⟨e1, ⟨b0, ⟨by rw [e1]; exact b3, by rw [e1]; exact a0⟩, ?_⟩, e2, e3, e4⟩
  rw [e1]
  refine ⟨a0, ⟨by show cFr S (d 5 w) 505 = some (rL S (d 5 w)); rw [e2]; exact a5, by show cK S (rL S (d 5 w)) = 1; rw [e2]; exact c1.1⟩, by rw [e2]; exact c1.ok, fun k hk => ?_⟩
  rw [e3] at hk
  rw [e4 k hk, e2, c3 k hk]
  obtain ⟨g, hg, e, -⟩ := i4 k hk
  refine ⟨rfl, ?_⟩
  rw [e, ix_nI (by have := hi.1.2.1.2; omega)]
  exact (hG g hg).1
theorem R0_bAll (hR : R0 W9 d S M) (hi : iAll M) : bAll S (d 6 4) := by
  obtain ⟨-, -, h3, h4, -, h6⟩ := R0_boats hR
  refine ⟨h3, fun k hk => ?_⟩
  rw [h4] at hk
  rw [h6 k hk]
  exact (R0_tow hR hi hk).2.1
theorem R0_wt (hR : R0 W9 d S M) (hi : iAll M) {w : Nat} (hw : w < nBt M) : rWt S (d 5 w) (rN S (d 5 w)) = mWt M (nI w) ∧ rDr S (d 5 w) (rN S (d 5 w)) = mDr M (nI w) := by
  obtain ⟨-, -, -, e3, e4⟩ := R0_tow hR hi hw
  obtain ⟨⟨i1, i2⟩, -, i4⟩ := hi.2.2.2.1 w hw
  have hb := hi.1.1.2
  have hG := hR.2.2.2.1
  have hc : ∀ k, k < nW M w → cFi S (rB S (d 5 w) k) 103 = M.2 24 (M.2 41 (12 * w + k)).toNatClampNeg := fun k hk => by
    rw [e4 k hk]
    obtain ⟨g, hg, e, -⟩ := i4 k hk
    rw [e, ix_nI (by have := hi.1.2.1.2; omega)]
    exact (hG g hg).2.2.2.2.1
  have h1 : ∀ n, n ≤ nW M w → rWt S (d 5 w) n = mWtN M w n := by
    intro n
    induction n with
    | zero => intro _; rfl
    | succ n ih =>
      intro hn
      show rWt S (d 5 w) n + (1 + cFi S (rB S (d 5 w) n) 103) = mWtN M w n + (1 + M.2 24 (M.2 41 (12 * w + n)).toNatClampNeg)
      rw [ih (by omega), hc n (by omega)]
  have h2 : ∀ n, n ≤ nW M w → rDr S (d 5 w) n = mDrN M w n := by
    intro n
    induction n with
    | zero => intro _; rfl
    | succ n ih =>
      intro hn
      show (if rDr S (d 5 w) n < 5 + 2 * cFi S (rB S (d 5 w) n) 103 then 5 + 2 * cFi S (rB S (d 5 w) n) 103 else rDr S (d 5 w) n) = (if mDrN M w n < 5 + 2 * M.2 24 (M.2 41 (12 * w + n)).toNatClampNeg then 5 + 2 * M.2 24 (M.2 41 (12 * w + n)).toNatClampNeg else mDrN M w n)
      rw [ih (by omega), hc n (by omega)]
  have e5 : (nI w).toNatClampNeg = w := ix_nI (by omega)
  unfold mWt mDr
  rw [e5, e3]
  exact ⟨h1 _ (Nat.le_refl _), h2 _ (Nat.le_refl _)⟩
theorem wd_dec : ∀ c, c < 5 → 0 < c → ∀ n, n < 13 → rMax 1 (rMin (nI c) (nI n)) = (if nI n = 0 then 1 else if nI n < nI c then nI n else nI c) := by decide +kernel
theorem R0_wd (hR : R0 W9 d S M) (hi : iAll M) {w : Nat} (hw : w < nBt M) : rMax 1 (rMin (cFi S (d 5 w) 504) (nI (rN S (d 5 w)))) = mWd M (nI w) := by
  obtain ⟨-, -, -, e3, -⟩ := R0_tow hR hi hw
  obtain ⟨⟨i1, i2⟩, ⟨c, i3, i4, i5⟩, -⟩ := hi.2.2.2.1 w hw
  have hb := hi.1.1.2
  have e5 : (nI w).toNatClampNeg = w := ix_nI (by omega)
  have e6 := (hR.2.2.1 w hw).2.2.2.2.2.1
  unfold mWd
  rw [e5, e6, e3, i1, i3]
  exact wd_dec c (by omega) i4 _ (by omega)
theorem R0_sz (hR : R0 W9 d S M) (hi : iAll M) {w s : Nat} (hw : w < nBt M) (hs : s < 7) (u : Int32) : cSz S (d 9 0) (d 4 w) (d 0 s) u = mUnfit M (nI s) (nI w) u := by
  obtain ⟨e1, -, -, e3, -⟩ := R0_tow hR hi hw
  obtain ⟨a1, a2⟩ := R0_wt hR hi hw
  have a3 := R0_wd hR hi hw
  have hb := hi.1.1.2
  have e5 : (nI w).toNatClampNeg = w := ix_nI (by omega)
  have e6 : (nI s).toNatClampNeg = s := ix_nI (by omega)
  obtain ⟨⟨i1, -⟩, -, -⟩ := hi.2.2.2.1 w hw
  obtain ⟨-, -, s1, s2, -, s4, -, s6, -, s8, -⟩ := hR.1 s hs
  obtain ⟨-, -, b1, -⟩ := hR.2.2.2.2.2.1 w hw
  obtain ⟨-, -, -, t8, -⟩ := hR.2.2.2.2.2.2.2.2.1
  have hm : ∀ p q : Int32, (p * (if 0 < q then q / 10 else 0)) = if 0 < q then p * (q / 10) else 0 := fun p q => by
    split
    · rfl
    · exact Int32.mul_zero
  unfold cSz mUnfit mMost
  rw [e1, a1, a2, a3, e3, s1, s2, s4, s6, s8, b1, t8, e5, e6, i1, hm]
theorem R0_hr (hR : R0 W9 d S M) (hi : iAll M) {w s : Nat} (hw : w < nBt M) (hs : s < 7) (u : Int32) : cHr S (d 0 s) (nI (rN S (d 5 w))) u = mHrs M (nI s) (nI w) u := by
  obtain ⟨-, -, -, e3, -⟩ := R0_tow hR hi hw
  have hb := hi.1.1.2
  have e5 : (nI w).toNatClampNeg = w := ix_nI (by omega)
  have e6 : (nI s).toNatClampNeg = s := ix_nI (by omega)
  obtain ⟨⟨i1, -⟩, -, -⟩ := hi.2.2.2.1 w hw
  obtain ⟨-, -, -, s2, -, s4, s5, -, -, s8, -, s10, -⟩ := hR.1 s hs
  unfold cHr mHrs
  rw [e3, s2, s4, s5, s8, s10, e5, e6, i1]
  have z1 : ∀ a : Int32, a * 1 = a := fun a => Int32.mul_one a
  split
  · split
    · rw [z1, Int32.add_comm]
    · rw [Int32.mul_comm, Int32.add_comm]
  · split
    · rw [Int32.add_comm]
    · split <;> rw [Int32.add_comm]
end RR
