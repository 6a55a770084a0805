/-! The relation: where a boat goes next, meetings, locks, the cause it waits for. -/
section RR
variable {W9 : xWd} {d : Nat → Nat → Nat} {S : cS} {M : mS}
theorem nx_nat {x : Int32} {n : Nat} (h : vp_in x n) (hn : n ≤ 1000) : ∃ j, j < n ∧ x = nI j ∧ x.toNatClampNeg = j := by
  obtain ⟨j, hj, rfl⟩ := vp_in_of h (by omega)
  exact ⟨j, hj, rfl, ix_nI (by omega)⟩
theorem R0_bfld (hR : R0 W9 d S M) {w : Nat} (hw : w < nBt M) : cFi S (d 4 w) 207 = M.2 34 w ∧ cFi S (d 4 w) 210 = M.2 37 w ∧ (M.2 34 w = -1 → cFi S (d 4 w) 206 = M.2 33 w ∧ cFi S (d 4 w) 211 = M.2 38 w) ∧ (¬ M.2 34 w = -1 → cFi S (d 4 w) 206 = -1 ∧ cFi S (d 4 w) 208 = M.2 35 w) := by
  obtain ⟨b0, -, -, -, -, -, -, h6, h7, h8, -, h10, h11, -⟩ := hR.2.2.2.2.2.1 w hw
  exact ⟨h7, h10, fun z => ⟨by rw [h6, if_pos z], h11 z⟩, fun z => ⟨by rw [h6, if_neg z], h8 z⟩⟩
theorem R0_nx (hR : R0 W9 d S M) (hi : iAll M) {w : Nat} (hw : w < nBt M) : (M.2 34 w = -1 ∧ ¬ M.2 37 w = -1 → vp_in (mNext M (nI w)) 7 ∧ cNx S (d 9 0) (d 4 w) = some (d 0 (mNext M (nI w)).toNatClampNeg)) ∧ (¬ (M.2 34 w = -1 ∧ ¬ M.2 37 w = -1) → cNx S (d 9 0) (d 4 w) = none) := by
  obtain ⟨f7, f10, f6, -⟩ := R0_bfld hR hw
  obtain ⟨-, l1, -, -, l4, l5⟩ := R0_list hR
  have hb := hi.1.1.2
  have e5 : (nI w).toNatClampNeg = w := ix_nI (by omega)
  refine ⟨fun h => ?_, fun h => ?_⟩
  · have hin := mNext_in (show w < 6 by omega) ((iAll_h hi).2.1 w hw) h.1 h.2
    refine ⟨hin, ?_⟩
    obtain ⟨j, hj, ej, ej2⟩ := nx_nat hin (by omega)
    have hm : mNext M (nI w) = if M.2 33 w < M.2 37 w then M.2 33 w else M.2 33 w - 1 := by unfold mNext; rw [e5]
    unfold cNx
    rw [f7, f10, (f6 h.1).1, l1, l4, if_neg (fun z => z.elim (fun y => y h.1) (fun y => h.2 y)), ← hm, ej, ix_nI (by omega), if_pos ⟨pos_nI (by omega), by rw [show (7 : Int32) = nI 7 from rfl]; exact nI_lt hj (by omega)⟩, l5 j hj]
  · unfold cNx
    rw [f7, f10, if_pos]
    by_cases z : M.2 34 w = -1
    · exact Or.inr (Classical.byContradiction (fun y => h ⟨z, y⟩))
    · exact Or.inl z
theorem R0_up (hR : R0 W9 d S M) (hi : iAll M) {w : Nat} (hw : w < nBt M) (hs : M.2 34 w = -1) : bi (cFi S (d 4 w) 206 < cFi S (d 4 w) 210) = mUp M (nI w) := by
  obtain ⟨-, f10, f6, -⟩ := R0_bfld hR hw
  have hb := hi.1.1.2
  have e5 : (nI w).toNatClampNeg = w := ix_nI (by omega)
  unfold mUp
  rw [e5, f10, (f6 hs).1]
theorem R0_erl (hR : R0 W9 d S M) (hi : iAll M) {w : Nat} (hw : w < nBt M) (hs : M.2 34 w = -1) (hg : ¬ M.2 37 w = -1) : cErl S (d 9 0) (d 4 w) (d 0 (mNext M (nI w)).toNatClampNeg) = mEarly M (nI w) := by
  obtain ⟨hin, -⟩ := (R0_nx hR hi hw).1 ⟨hs, hg⟩
  obtain ⟨j, hj, ej, ej2⟩ := nx_nat hin (by omega)
  have hb := hi.1.1.2
  have e5 : (nI w).toNatClampNeg = w := ix_nI (by omega)
  have e6 : (nI j).toNatClampNeg = j := ix_nI (by omega)
  have hu := R0_up hR hi hw hs
  have h1 := R0_sz hR hi hw hj (mUp M (nI w))
  have h2 := R0_hr hR hi hw hj (mUp M (nI w))
  obtain ⟨-, -, -, -, s3, s4, -, -, s7, -⟩ := hR.1 j hj
  obtain ⟨-, -, b1, -, -, b4, b5, -⟩ := hR.2.2.2.2.2.1 w hw
  obtain ⟨-, -, -, -, -, t10, -⟩ := hR.2.2.2.2.2.2.2.2.1
  obtain ⟨e1, -⟩ := R0_tow hR hi hw
  unfold cErl mEarly
  rw [ej, e6, hu, h1, e1, h2, e5, b1, b4, b5, s3, s7, t10]
  have hun := mUnfit_in M (nI j) (nI w) (mUp M (nI w))
  have z1 : (¬ M.2 8 j = 0 ∨ (¬ M.1 4 = 0 ∧ mUp M (nI w) = 0 ∧ ¬ (if M.2 5 j = 0 then M.2 11 j else 0) = 0)) = (M.2 8 j ≠ 0 ∨ (M.1 4 ≠ 0 ∧ mUp M (nI w) = 0 ∧ M.2 5 j = 0 ∧ M.2 11 j ≠ 0)) := by
    by_cases c : M.2 5 j = 0
    · rw [if_pos c]; simp [c]
    · rw [if_neg c]; simp [c]
  have z2 : (¬ mUnfit M (nI j) (nI w) (mUp M (nI w)) = 0) = (0 < mUnfit M (nI j) (nI w) (mUp M (nI w))) := by
    rcases hun with z | z | z | z <;> rw [z] <;> decide
  simp only [z1, z2]
theorem cnt_bz (hR : R0 W9 d S M) (hi : iAll M) (x : Int32) : ∀ n, n ≤ nBt M → ∃ c, c ≤ n ∧ mCnt M x n = nI c ∧ cBz S (d 6 4) x n = decide (0 < c) := by
  intro n
  induction n with
  | zero => intro _; exact ⟨0, Nat.le_refl _, rfl, rfl⟩
  | succ n ih =>
    intro hn
    obtain ⟨c, h1, h2, h3⟩ := ih (by omega)
    obtain ⟨-, -, -, -, -, l6⟩ := R0_boats hR
    have f7 := (R0_bfld hR (show n < nBt M by omega)).1
    have hb := hi.1.1.2
    have e1 : mCnt M x (n + 1) = mCnt M x n + (if M.2 34 n = x then 1 else 0) := rfl
    have e2 : cBz S (d 6 4) x (n + 1) = (cBz S (d 6 4) x n || decide (M.2 34 n = x)) := by
      show (cBz S (d 6 4) x n || decide (cFi S (lG S (d 6 4) n) 207 = x)) = _
      rw [l6 n (by omega), f7]
    by_cases z : M.2 34 n = x
    · refine ⟨c + 1, by omega, by rw [e1, if_pos z, h2, nI1], ?_⟩
      rw [e2, decide_eq_true z, Bool.or_true]
      exact (decide_eq_true (by omega)).symm
    · refine ⟨c, by omega, by rw [e1, if_neg z, h2, Int32.add_zero], ?_⟩
      rw [e2, decide_eq_false z, Bool.or_false, h3]
theorem R0_bz (hR : R0 W9 d S M) (hi : iAll M) (x : Int32) : (cBz S (d 6 4) x (nBt M) = true) = (0 < mCnt M x (nBt M)) := by
  obtain ⟨c, h1, h2, h3⟩ := cnt_bz hR hi x (nBt M) (Nat.le_refl _)
  have hb := hi.1.1.2
  rw [h2, h3, show (0 : Int32) = nI 0 from rfl, lt_nI (by omega) (by omega)]
  simp
theorem mCnt_ex (M : mS) (x : Int32) : ∀ n, n < 1000 → ∃ c, c ≤ n ∧ mCnt M x n = nI c ∧ (0 < c ↔ ∃ k, k < n ∧ M.2 34 k = x)
  | 0, _ => ⟨0, Nat.le_refl _, rfl, ⟨fun h => by omega, fun ⟨k, h, _⟩ => by omega⟩⟩
  | n + 1, hn => by
    obtain ⟨c, h1, h2, h3⟩ := mCnt_ex M x n (by omega)
    have e1 : mCnt M x (n + 1) = mCnt M x n + (if M.2 34 n = x then 1 else 0) := rfl
    by_cases z : M.2 34 n = x
    · exact ⟨c + 1, by omega, by rw [e1, if_pos z, h2, nI1], fun _ => ⟨n, by omega, z⟩, fun _ => by omega⟩
    · refine ⟨c, by omega, by rw [e1, if_neg z, h2, Int32.add_zero], h3.trans ⟨fun ⟨k, a, b⟩ => ⟨k, by omega, b⟩, fun ⟨k, a, b⟩ => ⟨k, ?_, b⟩⟩⟩
      rcases Nat.lt_or_ge k n with y | y
      · exact y
      · exact absurd (by rw [show n = k by omega]; exact b) z
theorem cMt_ex {S : cS} {L s b : Nat} : ∀ n, cMt S L s b n = true ↔ ∃ k, k < n ∧ cFi S s 604 = 0 ∧ cM1 S s b (lG S L k)
  | 0 => ⟨fun h => (by cases h), fun ⟨k, h, _⟩ => by omega⟩
  | n + 1 => by
    have e : cMt S L s b (n + 1) = (cMt S L s b n || decide (cFi S s 604 = 0 ∧ cM1 S s b (lG S L n))) := rfl
    rw [e, Bool.or_eq_true, cMt_ex n, decide_eq_true_eq]
    refine ⟨fun h => h.elim (fun ⟨k, a, b⟩ => ⟨k, by omega, b⟩) (fun y => ⟨n, by omega, y⟩), fun ⟨k, a, b⟩ => ?_⟩
    rcases Nat.lt_or_ge k n with y | y
    · exact Or.inl ⟨k, y, b⟩
    · exact Or.inr (by rw [show n = k by omega]; exact b)
theorem mMt_ex {M : mS} {b : Int32} {nb : Nat} : ∀ n, mMt M b nb n = true ↔ (M.2 11 (mNext M b).toNatClampNeg ≠ 0 ∧ 0 < mCnt M (mNext M b) nb) ∨ ∃ k, k < n ∧ M.2 34 k = mNext M b ∧ M.2 35 k ≠ mUp M b ∧ M.2 10 (mNext M b).toNatClampNeg < mWd M (nI k) + mWd M b ∧ M.2 45 (6 * k + b.toNatClampNeg) = 0
  | 0 => ⟨fun h => Or.inl (of_decide_eq_true h), fun h => h.elim (fun y => decide_eq_true y) (fun ⟨k, h, _⟩ => by omega)⟩
  | n + 1 => by
    have e : mMt M b nb (n + 1) = (mMt M b nb n || decide (M.2 34 n = mNext M b ∧ M.2 35 n ≠ mUp M b ∧ M.2 10 (mNext M b).toNatClampNeg < mWd M (nI n) + mWd M b ∧ M.2 45 (6 * n + b.toNatClampNeg) = 0)) := rfl
    rw [e, Bool.or_eq_true, mMt_ex n, decide_eq_true_eq]
    refine ⟨fun h => h.elim (fun y => y.imp id (fun ⟨k, a, b⟩ => ⟨k, by omega, b⟩)) (fun y => Or.inr ⟨n, by omega, y⟩), fun h => h.elim (fun y => Or.inl (Or.inl y)) (fun ⟨k, a, b⟩ => ?_)⟩
    rcases Nat.lt_or_ge k n with y | y
    · exact Or.inl (Or.inr ⟨k, y, b⟩)
    · exact Or.inr (by rw [show n = k by omega]; exact b)
theorem R0_mt (hR : R0 W9 d S M) (hi : iAll M) {w j : Nat} (hw : w < nBt M) (hs : M.2 34 w = -1) (hj : j < 7) (ej : mNext M (nI w) = nI j) (hl : M.2 5 j = 0) : (cMt S (d 6 4) (d 0 j) (d 4 w) (nBt M) = true) = (mMt M (nI w) (nBt M) (nBt M) = true) := by
  have hb := hi.1.1.2
  have e5 : (nI w).toNatClampNeg = w := ix_nI (by omega)
  have e6 : (nI j).toNatClampNeg = j := ix_nI (by omega)
  obtain ⟨-, -, -, -, -, l6⟩ := R0_boats hR
  obtain ⟨-, s0, -, -, -, s4, -, s6, s7, -⟩ := hR.1 j hj
  have hu := R0_up hR hi hw hs
  have hwd := R0_wd hR hi hw
  have hag := hR.2.2.2.2.2.2.1 w hw
  have hia := hi.2.2.2.2.2.2.2.1
  obtain ⟨c, c1, c2, c3⟩ := mCnt_ex M (nI j) (nBt M) (by omega)
  obtain ⟨t1, -⟩ := R0_tow hR hi hw
  rw [if_pos hl] at s7
  refine propext ((cMt_ex (nBt M)).trans (Iff.trans ?_ (mMt_ex (nBt M)).symm))
  rw [ej, e6, e5, c2, show (0 : Int32) = nI 0 from rfl, lt_nI (by omega) (by omega), c3]
  have key : ∀ k, k < nBt M → (cM1 S (d 0 j) (d 4 w) (d 4 k) ↔ M.2 34 k = nI j ∧ (¬ M.2 11 j = 0 ∨ (¬ M.2 35 k = mUp M (nI w) ∧ M.2 10 j < mWd M (nI k) + mWd M (nI w) ∧ M.2 45 (6 * k + w) = 0))) := by
    intro k hk
    obtain ⟨f7, -, -, f8⟩ := R0_bfld hR hk
    have hwk := R0_wd hR hi hk
    obtain ⟨t2, -⟩ := R0_tow hR hi hk
    have hnum := (hR.2.2.2.2.2.1 k hk).2.1
    have h12 := hag k (by omega)
    show (cFi S (d 4 k) 207 = cFi S (d 0 j) 600 ∧ (¬ cFi S (d 0 j) 607 = 0 ∨ (¬ cFi S (d 4 k) 208 = bi (cFi S (d 4 w) 206 < cFi S (d 4 w) 210) ∧ cFi S (d 0 j) 606 < rMax 1 (rMin (cFi S (cRf S (d 4 k) 203) 504) (nI (rN S (cRf S (d 4 k) 203)))) + rMax 1 (rMin (cFi S (cRf S (d 4 w) 203) 504) (nI (rN S (cRf S (d 4 w) 203)))) ∧ cFi S (d 4 w) 212 &&& 1 <<< (cFi S (d 4 k) 200 &&& 31) = 0))) ↔ _
    rw [hu, t1, t2, hwd, hwk, hnum, f7, s0, s6, s7, h12, (hia k w (by omega) (by omega)).2.1]
    constructor
    · rintro ⟨a, b⟩
      refine ⟨a, b.imp id (fun y => ?_)⟩
      rw [(f8 (fun z => by rw [a] at z; exact nI_m1 (by omega) z)).2] at y
      exact y
    · rintro ⟨a, b⟩
      refine ⟨a, b.imp id (fun y => ?_)⟩
      rw [(f8 (fun z => by rw [a] at z; exact nI_m1 (by omega) z)).2]
      exact y
  constructor
  · rintro ⟨k, hk, -, hm⟩
    rw [l6 k hk, key k hk] at hm
    rcases hm.2 with y | y
    · exact Or.inl ⟨y, k, hk, hm.1⟩
    · exact Or.inr ⟨k, hk, hm.1, y.1, y.2.1, y.2.2⟩
  · rintro (⟨y, k, hk, z⟩ | ⟨k, hk, y1, y2, y3, y4⟩)
    · exact ⟨k, hk, s4.trans hl, by rw [l6 k hk, key k hk]; exact ⟨z, Or.inl y⟩⟩
    · exact ⟨k, hk, s4.trans hl, by rw [l6 k hk, key k hk]; exact ⟨y1, Or.inr ⟨y2, y3, y4⟩⟩⟩
theorem mAh_ok (M : mS) (s up : Int32) : ∀ n, n ≤ 6 → mAh M s up n = -1 ∨ ∃ j, j < n ∧ mAh M s up n = nI j ∧ M.2 34 j = -1
  | 0, _ => Or.inl rfl
  | k + 1, h => by
    have e : mAh M s up (k + 1) = if (M.2 34 k = -1 ∧ M.2 37 k ≠ -1 ∧ mUp M (nI k) = up ∧ mNext M (nI k) = s ∧ mEarly M (nI k) = 0) ∧ (mAh M s up k = -1 ∨ M.2 38 k < M.2 38 (mAh M s up k).toNatClampNeg) then nI k else mAh M s up k := rfl
    by_cases c : (M.2 34 k = -1 ∧ M.2 37 k ≠ -1 ∧ mUp M (nI k) = up ∧ mNext M (nI k) = s ∧ mEarly M (nI k) = 0) ∧ (mAh M s up k = -1 ∨ M.2 38 k < M.2 38 (mAh M s up k).toNatClampNeg)
    · exact Or.inr ⟨k, by omega, by rw [e, if_pos c], c.1.1⟩
    · rcases mAh_ok M s up k (by omega) with z | ⟨j, a, b, g⟩
      · exact Or.inl (by rw [e, if_neg c]; exact z)
      · exact Or.inr ⟨j, by omega, by rw [e, if_neg c]; exact b, g⟩
def oAh (d : Nat → Nat → Nat) (x : Int32) : Option Nat := if x = -1 then none else some (d 4 x.toNatClampNeg)
/-- one step of looking for who goes first -/
theorem ah_step (hR : R0 W9 d S M) (hi : iAll M) {k : Nat} (hk : k < nBt M) (hst : M.2 34 k = -1) {x : Int32} (hx : x = -1 ∨ ∃ j, j < k ∧ x = nI j ∧ M.2 34 j = -1) : cEa S (d 4 k) (oAh d x) = oAh d (if x = -1 ∨ M.2 38 k < M.2 38 x.toNatClampNeg then nI k else x) := by
  have hb := hi.1.1.2
  have ek : oAh d (nI k) = some (d 4 k) := by unfold oAh; rw [if_neg (nI_m1 (by omega)), ix_nI (by omega)]
  rcases hx with rfl | ⟨j, hj, rfl, hsj⟩
  · rw [if_pos (Or.inl rfl), ek]
    rfl
  · have ej : oAh d (nI j) = some (d 4 j) := by unfold oAh; rw [if_neg (nI_m1 (by omega)), ix_nI (by omega)]
    have h1 := ((R0_bfld hR hk).2.2.1 hst).2
    have h2 := ((R0_bfld hR (show j < nBt M by omega)).2.2.1 hsj).2
    rw [ej, ix_nI (by omega)]
    show (if cFi S (d 4 k) 211 < cFi S (d 4 j) 211 then some (d 4 k) else some (d 4 j)) = _
    rw [h1, h2]
    by_cases c : M.2 38 k < M.2 38 j
    · rw [if_pos c, if_pos (Or.inr c), ek]
    · rw [if_neg c, if_neg (fun z => z.elim (fun y => nI_m1 (by omega) y) c), ej]
theorem R0_f1 (hR : R0 W9 d S M) (hi : iAll M) (hd : dInj d) {s : Nat} (hs : s < 7) {t : Int32} (ht : t = 0 ∨ t = 1) (h11 : cFi S (d 0 s) 611 = t) : ∀ n, n ≤ nBt M → cF1 S (d 9 0) (d 6 4) (d 0 s) n = (oAh d (mAh M (nI s) t n), oAh d (mAh M (nI s) (bi (t = 0)) n)) := by
  intro n
  have hb := hi.1.1.2
  induction n with
  | zero => intro _; rfl
  | succ n ih =>
    intro hn
    obtain ⟨-, -, -, -, -, l6⟩ := R0_boats hR
    have hn1 : n < nBt M := by omega
    have e1 : cF1 S (d 9 0) (d 6 4) (d 0 s) (n + 1) = if cNx S (d 9 0) (lG S (d 6 4) n) = some (d 0 s) ∧ cErl S (d 9 0) (lG S (d 6 4) n) (d 0 s) = 0 then (if bi (cFi S (lG S (d 6 4) n) 206 < cFi S (lG S (d 6 4) n) 210) = cFi S (d 0 s) 611 then (cEa S (lG S (d 6 4) n) (cF1 S (d 9 0) (d 6 4) (d 0 s) n).1, (cF1 S (d 9 0) (d 6 4) (d 0 s) n).2) else ((cF1 S (d 9 0) (d 6 4) (d 0 s) n).1, cEa S (lG S (d 6 4) n) (cF1 S (d 9 0) (d 6 4) (d 0 s) n).2)) else cF1 S (d 9 0) (d 6 4) (d 0 s) n := rfl
    have e2 : ∀ up, mAh M (nI s) up (n + 1) = if (M.2 34 n = -1 ∧ M.2 37 n ≠ -1 ∧ mUp M (nI n) = up ∧ mNext M (nI n) = nI s ∧ mEarly M (nI n) = 0) ∧ (mAh M (nI s) up n = -1 ∨ M.2 38 n < M.2 38 (mAh M (nI s) up n).toNatClampNeg) then nI n else mAh M (nI s) up n := fun _ => rfl
    rw [e1, l6 n hn1, ih (by omega), h11]
    by_cases c1 : M.2 34 n = -1 ∧ ¬ M.2 37 n = -1
    · obtain ⟨hin, hnx⟩ := (R0_nx hR hi hn1).1 c1
      obtain ⟨j, hj, ej, ej2⟩ := nx_nat hin (by omega)
      have her := R0_erl hR hi hn1 c1.1 c1.2
      have hup := R0_up hR hi hn1 c1.1
      rw [hnx, hup, ej2]
      rw [ej2] at her
      by_cases c2 : j = s
      · subst c2
        rw [her]
        by_cases c3 : mEarly M (nI n) = 0
        · rw [if_pos ⟨rfl, c3⟩]
          by_cases c4 : mUp M (nI n) = t
          · rw [if_pos c4]
            have c5 : ¬ mUp M (nI n) = bi (t = 0) := by
              rw [c4]
              rcases ht with z | z <;> rw [z] <;> decide
            rw [e2 (bi (t = 0)), if_neg (fun z => c5 z.1.2.2.1)]
            show (cEa S (d 4 n) (oAh d (mAh M (nI j) t n)), oAh d (mAh M (nI j) (bi (t = 0)) n)) = _
            rw [ah_step hR hi hn1 c1.1 (mAh_ok M (nI j) t n (by omega)), e2 t]
            congr 2
            by_cases c6 : mAh M (nI j) t n = -1 ∨ M.2 38 n < M.2 38 (mAh M (nI j) t n).toNatClampNeg
            · rw [if_pos c6, if_pos ⟨⟨c1.1, c1.2, c4, ej, c3⟩, c6⟩]
            · rw [if_neg c6, if_neg (fun z => c6 z.2)]
          · rw [if_neg c4]
            have c5 : mUp M (nI n) = bi (t = 0) := by
              have hu := bi_01 (M.2 37 (nI n).toNatClampNeg > M.2 33 (nI n).toNatClampNeg)
              have hu2 : mUp M (nI n) = 0 ∨ mUp M (nI n) = 1 := hu
              rcases ht with z | z <;> rcases hu2 with y | y <;> first | exact absurd (y.trans z.symm) c4 | (rw [y, z]; rfl)
            rw [e2 t, if_neg (fun z => c4 z.1.2.2.1)]
            show (oAh d (mAh M (nI j) t n), cEa S (d 4 n) (oAh d (mAh M (nI j) (bi (t = 0)) n))) = _
            rw [ah_step hR hi hn1 c1.1 (mAh_ok M (nI j) (bi (t = 0)) n (by omega)), e2 (bi (t = 0))]
            congr 2
            by_cases c6 : mAh M (nI j) (bi (t = 0)) n = -1 ∨ M.2 38 n < M.2 38 (mAh M (nI j) (bi (t = 0)) n).toNatClampNeg
            · rw [if_pos c6, if_pos ⟨⟨c1.1, c1.2, c5, ej, c3⟩, c6⟩]
            · rw [if_neg c6, if_neg (fun z => c6 z.2)]
        · rw [if_neg (fun z => c3 z.2), e2 t, e2 (bi (t = 0)), if_neg (fun z => c3 z.1.2.2.2.2), if_neg (fun z => c3 z.1.2.2.2.2)]
      · have c7 : ¬ mNext M (nI n) = nI s := fun z => c2 (by rw [ej, eq_nI (by omega) (by omega)] at z; exact z)
        rw [if_neg (fun z => c2 (hd _ _ _ _ (Option.some.inj z.1)).2), e2 t, e2 (bi (t = 0)), if_neg (fun z => c7 z.1.2.2.2.1), if_neg (fun z => c7 z.1.2.2.2.1)]
    · have hnx := (R0_nx hR hi hn1).2 c1
      rw [hnx, if_neg (fun z => by cases z.1), e2 t, e2 (bi (t = 0)), if_neg (fun z => c1 ⟨z.1.1, z.1.2.1⟩), if_neg (fun z => c1 ⟨z.1.1, z.1.2.1⟩)]
theorem oAh_none {d : Nat → Nat → Nat} {x : Int32} : (oAh d x = none) = (x = -1) := by
  unfold oAh
  by_cases c : x = -1
  · rw [if_pos c]; simp [c]
  · rw [if_neg c]; simp [c]
theorem R0_fst (hR : R0 W9 d S M) (hi : iAll M) (hd : dInj d) {s : Nat} (hs : s < 7) (hl : ¬ M.2 5 s = 0) : cFst S (d 9 0) (d 6 4) (d 0 s) = oAh d (mAt M (nI s) (nBt M)) := by
  obtain ⟨-, -, -, -, -, -, -, -, -, -, s9, -, s11, s12⟩ := hR.1 s hs
  have h15 := (hi.2.1 s hs).2.2
  have hF := R0_f1 hR hi hd hs h15 (s11 hl) (nBt M) (Nat.le_refl _)
  obtain ⟨-, -, -, l3, -, -⟩ := R0_boats hR
  have e6 : (nI s).toNatClampNeg = s := ix_nI (by omega)
  have hbb : bi (bi (M.2 15 s = 0) = 0) = M.2 15 s := by rcases h15 with z | z <;> rw [z] <;> rfl
  unfold cFst mAt
  rw [l3, hF, s9, s12 hl, e6]
  show (if (oAh d (mAh M (nI s) (M.2 15 s) (nBt M)) = none ∨ M.2 13 s ≤ M.2 16 s) ∧ ¬ oAh d (mAh M (nI s) (bi (M.2 15 s = 0)) (nBt M)) = none then oAh d (mAh M (nI s) (bi (M.2 15 s = 0)) (nBt M)) else oAh d (mAh M (nI s) (M.2 15 s) (nBt M))) = _
  simp only [oAh_none]
  by_cases c : M.2 16 s < M.2 13 s
  · have c2 : ¬ M.2 13 s ≤ M.2 16 s := fun z => Int32.lt_irrefl (Int32.lt_of_lt_of_le c z)
    rw [if_pos c]
    by_cases a1 : mAh M (nI s) (M.2 15 s) (nBt M) = -1
    · by_cases a2 : mAh M (nI s) (bi (M.2 15 s = 0)) (nBt M) = -1
      · rw [if_neg (fun z => z.2 a2), if_neg (fun z => z a1), a1, a2]
      · rw [if_pos ⟨Or.inl a1, a2⟩, if_neg (fun z => z a1)]
    · rw [if_neg (fun z => z.1.elim a1 c2), if_pos a1]
  · have c2 : M.2 13 s ≤ M.2 16 s := Int32.not_lt.mp c
    rw [if_neg c, hbb]
    by_cases a2 : mAh M (nI s) (bi (M.2 15 s = 0)) (nBt M) = -1
    · rw [if_neg (fun z => z.2 a2), if_neg (fun z => z a2)]
    · rw [if_pos ⟨Or.inr c2, a2⟩, if_pos a2]
theorem mAt_ok (M : mS) (s : Int32) (n : Nat) (hn : n ≤ 6) : mAt M s n = -1 ∨ ∃ j, j < n ∧ mAt M s n = nI j := by
  have h : ∀ u v : Int32, (if mAh M s u n ≠ -1 then mAh M s u n else mAh M s v n) = -1 ∨ ∃ j, j < n ∧ (if mAh M s u n ≠ -1 then mAh M s u n else mAh M s v n) = nI j := fun u v => by
    by_cases c : mAh M s u n ≠ -1
    · rw [if_pos c]; exact mAh_in M s u n hn
    · rw [if_neg c]; exact mAh_in M s v n hn
  exact h _ _
/-- the cause for which a boat waits -/
theorem R0_cs (hR : R0 W9 d S M) (hi : iAll M) (hd : dInj d) {w : Nat} (hw : w < nBt M) (hst : M.2 34 w = -1) (hg : ¬ M.2 37 w = -1) : cCs S (d 9 0) (d 6 4) (d 4 w) (d 0 (mNext M (nI w)).toNatClampNeg) = mBar M (nI w) (nBt M) := by
  have hb := hi.1.1.2
  have her := R0_erl hR hi hw hst hg
  obtain ⟨hin, -⟩ := (R0_nx hR hi hw).1 ⟨hst, hg⟩
  obtain ⟨j, hj, ej, ej2⟩ := nx_nat hin (by omega)
  obtain ⟨-, -, -, l3, -, -⟩ := R0_boats hR
  obtain ⟨-, s0, -, -, -, s4, -⟩ := hR.1 j hj
  have e6 : (nI j).toNatClampNeg = j := ix_nI (by omega)
  have e5 : (nI w).toNatClampNeg = w := ix_nI (by omega)
  unfold cCs mBar
  rw [her, ej2, s0, s4, l3, ej]
  have hpos : (¬ mEarly M (nI w) = 0) = (0 < mEarly M (nI w)) := by
    obtain ⟨k, hk, ek⟩ := vp_in_of (mEarly_in M (nI w)) (by omega)
    rw [ek, show (0 : Int32) = nI 0 from rfl, eq_nI (by omega) (by omega), lt_nI (by omega) (by omega)]
    exact propext ⟨fun h => by omega, fun h => by omega⟩
  by_cases c1 : 0 < mEarly M (nI w)
  · rw [if_pos (by rw [hpos]; exact c1), if_pos c1]
  · rw [if_neg (by rw [hpos]; exact c1), if_neg c1]
    by_cases c2 : M.2 5 j = 0
    · have hmt := R0_mt hR hi hw hst hj ej c2
      rw [if_pos c2]
      by_cases c4 : mMt M (nI w) (nBt M) (nBt M) = true
      · rw [if_pos (by rw [hmt]; exact c4), if_pos c4]
      · rw [if_neg (by rw [hmt]; exact c4), if_neg c4, if_pos (Or.inl c2)]
    · rw [if_neg c2, cMt_l (by rw [s4]; exact c2), if_neg (by decide)]
      have hbz := R0_bz hR hi (nI j)
      have hfs := R0_fst hR hi hd hj c2
      have hq : (cBz S (d 6 4) (nI j) (nBt M) = false ∧ cFst S (d 9 0) (d 6 4) (d 0 j) = some (d 4 w)) ↔ ¬ (0 < mCnt M (nI j) (nBt M) ∨ mAt M (nI j) (nBt M) ≠ nI w) := by
        rw [← hbz, hfs]
        constructor
        · rintro ⟨a, b⟩ z
          rcases z with z | z
          · rw [a] at z; cases z
          · unfold oAh at b
            split at b
            · cases b
            · rename_i y
              have e := (hd _ _ _ _ (Option.some.inj b)).2
              rcases mAt_ok M (nI j) (nBt M) hb with v | ⟨i, v1, v2⟩
              · exact y v
              · rw [v2, ix_nI (by omega)] at e
                exact z (by rw [v2, e])
        · intro z
          refine ⟨by cases h : cBz S (d 6 4) (nI j) (nBt M); rfl; exact absurd (Or.inl h) z, ?_⟩
          have y : mAt M (nI j) (nBt M) = nI w := Classical.byContradiction (fun y => z (Or.inr y))
          unfold oAh
          rw [y, if_neg (nI_m1 (by omega)), e5]
      by_cases c3 : 0 < mCnt M (nI j) (nBt M) ∨ mAt M (nI j) (nBt M) ≠ nI w
      · rw [if_pos c3, if_neg]
        rintro (z | z)
        · exact c2 z
        · exact (hq.mp z) c3
      · rw [if_neg c3, if_pos (Or.inr (hq.mpr c3))]
end RR
