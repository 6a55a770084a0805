/-! Danger: the class's look at a row is the reference's. -/
theorem rDg_ex {S : cS} {a : Nat} {lo : Int32} {more : Option Nat} {pl : Nat} : ∀ j, rDg S a lo more pl j = true ↔ ∃ k, k < j ∧ rDk S a lo more pl k = true
  | 0 => ⟨fun h => (by cases h), fun ⟨k, h, _⟩ => by omega⟩
  | j + 1 => by
    have e : rDg S a lo more pl (j + 1) = (rDg S a lo more pl j || rDk S a lo more pl j) := rfl
    rw [e, Bool.or_eq_true, rDg_ex j]
    refine ⟨fun h => h.elim (fun ⟨k, a, b⟩ => ⟨k, by omega, b⟩) (fun y => ⟨j, by omega, y⟩), fun ⟨k, a, b⟩ => ?_⟩
    rcases Nat.lt_or_ge k j with y | y
    · exact Or.inl ⟨k, y, b⟩
    · exact Or.inr (by rw [show j = k by omega]; exact b)
theorem mDg_ex {M : mS} {w n m : Nat} : ∀ j, mDg M w n m j = true ↔ ∃ k, k < j ∧ ((k % n + 1 < n ∧ k + 1 < m ∧ mUb M (M.2 41 (12 * w + k)) (M.2 41 (12 * w + k + 1)) = 1) ∨ (k + n < m ∧ mUb M (M.2 41 (12 * w + k)) (M.2 41 (12 * w + k + n)) = 1))
  | 0 => ⟨fun h => (by cases h), fun ⟨k, h, _⟩ => by omega⟩
  | j + 1 => by
    have e : mDg M w n m (j + 1) = (mDg M w n m j || decide (j % n + 1 < n ∧ j + 1 < m ∧ mUb M (M.2 41 (12 * w + j)) (M.2 41 (12 * w + j + 1)) = 1) || decide (j + n < m ∧ mUb M (M.2 41 (12 * w + j)) (M.2 41 (12 * w + j + n)) = 1)) := rfl
    rw [e, Bool.or_eq_true, Bool.or_eq_true, mDg_ex j, decide_eq_true_eq, decide_eq_true_eq]
    constructor
    · rintro ((⟨k, a, b⟩ | y) | y)
      · exact ⟨k, by omega, b⟩
      · exact ⟨j, by omega, Or.inl y⟩
      · exact ⟨j, by omega, Or.inr y⟩
    · rintro ⟨k, a, b⟩
      rcases Nat.lt_or_ge k j with y | y
      · exact Or.inl (Or.inl ⟨k, y, b⟩)
      · obtain rfl : k = j := by omega
        rcases b with b | b
        · exact Or.inl (Or.inr b)
        · exact Or.inr b
theorem mod_end {k n : Nat} (hn : 0 < n) : (k % n + 1 < n) ↔ ¬ (k + 1) % n = 0 := by
  have h1 := Nat.mod_lt k hn
  have h2 : (k + 1) % n = if k % n + 1 = n then 0 else k % n + 1 := by
    by_cases c : k % n + 1 = n
    · rw [if_pos c]
      have : k + 1 = n * (k / n + 1) := by
        have := Nat.div_add_mod k n
        rw [Nat.mul_add]
        omega
      rw [this]
      exact Nat.mul_mod_right _ _
    · rw [if_neg c]
      have : k + 1 = n * (k / n) + (k % n + 1) := by
        have := Nat.div_add_mod k n
        omega
      rw [this, Nat.mul_add_mod]
      exact Nat.mod_eq_of_lt (by omega)
  rw [h2]
  split <;> omega
theorem ul_eq {d : Nat → Nat → Nat} {S : cS} {M M2 : mS} (hR : rBar d S M) (hi : iAll M) (h23 : M2.2 23 = M.2 23) (h24 : M2.2 24 = M.2 24) {x y : Nat} (hx : x < nBg M) (hy : y < nBg M) : (cUl S (d 2 x) (some (d 2 y)) = 1) ↔ (mUb M2 (nI x) (nI y) = 1) := by
  have hb := hi.1.2.1.2
  obtain ⟨-, -, x1, -, x3, -⟩ := hR x hx
  obtain ⟨-, -, y1, -, y3, -⟩ := hR y hy
  have key : ∀ g, g < nBg M → (¬ M.2 24 g = 0 ↔ 0 < M.2 24 g) := fun g hg => by
    rcases (hi.2.2.2.2.1 g hg).2.1 with ⟨z, -⟩ | ⟨⟨z1, z2⟩, -⟩
    · rw [z]; exact ⟨fun w => absurd rfl w, fun w => absurd w (by decide)⟩
    · obtain ⟨j, j1, j2, ej⟩ := in_1n (a := 1) (b := 12) z1 z2 (by omega) (by omega)
      rw [ej, show (0 : Int32) = nI 0 from rfl, lt_nI (by omega) (by omega), eq_nI (by omega) (by omega)]
      omega
  unfold cUl mUb
  rw [ix_nI (show x < 1000 by omega), ix_nI (show y < 1000 by omega), h23, h24]
  show ((if ((cFi S (d 2 x) 101 = 2 ∧ cFi S (d 2 y) 101 = 1) ∨ (cFi S (d 2 x) 101 = 1 ∧ cFi S (d 2 y) 101 = 2)) ∧ ¬ cFi S (d 2 x) 103 = 0 ∧ ¬ cFi S (d 2 y) 103 = 0 then (1 : Int32) else 0) = 1) ↔ _
  rw [x1, x3, y1, y3]
  have e : (((M.2 23 x = 2 ∧ M.2 23 y = 1) ∨ (M.2 23 x = 1 ∧ M.2 23 y = 2)) ∧ ¬ M.2 24 x = 0 ∧ ¬ M.2 24 y = 0) ↔ (((M.2 23 x = 2 ∧ M.2 23 y = 1) ∨ (M.2 23 x = 1 ∧ M.2 23 y = 2)) ∧ 0 < M.2 24 x ∧ 0 < M.2 24 y) := by rw [key x hx, key y hy]
  by_cases c : ((M.2 23 x = 2 ∧ M.2 23 y = 1) ∨ (M.2 23 x = 1 ∧ M.2 23 y = 2)) ∧ 0 < M.2 24 x ∧ 0 < M.2 24 y
  · rw [if_pos c, if_pos (e.mpr c)]
  · rw [if_neg c, if_neg (fun z => c (e.mp z))]
/-- the same danger -/
theorem dg_eq {d : Nat → Nat → Nat} {S : cS} {M M2 : mS} {a w pl m j : Nat} {lo : Int32} {more : Option Nat} {f : Nat → Nat} (hR : rBar d S M) (hi : iAll M) (h23 : M2.2 23 = M.2 23) (h24 : M2.2 24 = M.2 24) (hpl : 0 < pl) (hf : ∀ k, k < m → f k < nBg M) (hs : ∀ k, rSeen S a lo more k = if k < m then some (d 2 (f k)) else none) (h41 : ∀ k, k < m → M2.2 41 (12 * w + k) = nI (f k)) (hj : m ≤ j) : (rDg S a lo more pl j = true) ↔ (mDg M2 w pl m m = true) := by
  have hk : ∀ k, rDk S a lo more pl k = true ↔ k < m ∧ ((k % pl + 1 < pl ∧ k + 1 < m ∧ mUb M2 (nI (f k)) (nI (f (k + 1))) = 1) ∨ (k + pl < m ∧ mUb M2 (nI (f k)) (nI (f (k + pl))) = 1)) := by
    intro k
    unfold rDk
    by_cases c : k < m
    · rw [hs k, if_pos c, hs (k + pl), hs (k + 1)]
      show (decide _ = true) ↔ _
      rw [decide_eq_true_eq, mod_end hpl]
      have u1 : (cUl S (d 2 (f k)) (if k + pl < m then some (d 2 (f (k + pl))) else none) = 1) ↔ (k + pl < m ∧ mUb M2 (nI (f k)) (nI (f (k + pl))) = 1) := by
        by_cases c2 : k + pl < m
        · rw [if_pos c2, ul_eq hR hi h23 h24 (hf k c) (hf _ c2)]
          exact ⟨fun z => ⟨c2, z⟩, fun z => z.2⟩
        · rw [if_neg c2]
          exact ⟨fun z => absurd (show (0 : Int32) = 1 from z) (by decide), fun z => absurd z.1 c2⟩
      have u2 : (cUl S (d 2 (f k)) (if k + 1 < m then some (d 2 (f (k + 1))) else none) = 1) ↔ (k + 1 < m ∧ mUb M2 (nI (f k)) (nI (f (k + 1))) = 1) := by
        by_cases c2 : k + 1 < m
        · rw [if_pos c2, ul_eq hR hi h23 h24 (hf k c) (hf _ c2)]
          exact ⟨fun z => ⟨c2, z⟩, fun z => z.2⟩
        · rw [if_neg c2]
          exact ⟨fun z => absurd (show (0 : Int32) = 1 from z) (by decide), fun z => absurd z.1 c2⟩
      rw [u1, u2]
      constructor
      · rintro (z | z)
        · exact ⟨c, Or.inr z⟩
        · exact ⟨c, Or.inl z⟩
      · rintro ⟨-, z | z⟩
        · exact Or.inr z
        · exact Or.inl z
    · rw [hs k, if_neg c]
      exact ⟨fun z => (by cases z), fun z => absurd z.1 c⟩
  rw [rDg_ex, mDg_ex]
  constructor
  · rintro ⟨k, hk1, hk2⟩
    obtain ⟨c, z⟩ := (hk k).mp hk2
    refine ⟨k, c, z.imp (fun ⟨a1, a2, a3⟩ => ⟨a1, a2, ?_⟩) (fun ⟨a1, a2⟩ => ⟨a1, ?_⟩)⟩
    · rw [h41 k c, show 12 * w + k + 1 = 12 * w + (k + 1) by omega, h41 _ a2]; exact a3
    · rw [h41 k c, show 12 * w + k + pl = 12 * w + (k + pl) by omega, h41 _ a1]; exact a2
  · rintro ⟨k, c, z⟩
    refine ⟨k, by omega, (hk k).mpr ⟨c, z.imp (fun ⟨a1, a2, a3⟩ => ⟨a1, a2, ?_⟩) (fun ⟨a1, a2⟩ => ⟨a1, ?_⟩)⟩⟩
    · rw [h41 k c, show 12 * w + k + 1 = 12 * w + (k + 1) by omega, h41 _ a2] at a3; exact a3
    · rw [h41 k c, show 12 * w + k + pl = 12 * w + (k + pl) by omega, h41 _ a1] at a2; exact a2
