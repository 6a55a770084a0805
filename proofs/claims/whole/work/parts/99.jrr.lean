/-! The relation at the start: the class's whole as its constructor leaves it, the reference's as its own does. -/
def mZst : mS := (fun _ => 0, mI0)
set_option maxHeartbeats 400000 in
theorem mz0 {k i : Nat} (h6 : k ≠ 6) (h9 : k ≠ 9) (h10 : k ≠ 10) (h17 : k ≠ 17) : mZst.2 k i = 0 := by
  show mI0 k i = 0
  unfold mI0
  rw [if_neg (fun h => h6 h.1), if_neg (fun h => h9 h.1), if_neg (fun h => h10 h.1), if_neg (fun h => h17 h.1)]
theorem mz6 {i : Nat} (h : i < 7) : mZst.2 6 i = 30 := by
  show mI0 6 i = 30
  unfold mI0
  rw [if_pos ⟨rfl, h⟩]
theorem mz9 {i : Nat} (h : i < 7) : mZst.2 9 i = 2 := by
  show mI0 9 i = 2
  unfold mI0
  rw [if_neg (fun y => by omega), if_pos ⟨rfl, h⟩]
theorem mz10 {i : Nat} (h : i < 7) : mZst.2 10 i = 3 := by
  show mI0 10 i = 3
  unfold mI0
  rw [if_neg (fun y => by omega), if_neg (fun y => by omega), if_pos ⟨rfl, h⟩]
theorem mz17 {i : Nat} (h : i < 16) : mZst.2 17 i = 3 := by
  show mI0 17 i = 3
  unfold mI0
  rw [if_neg (fun y => by omega), if_neg (fun y => by omega), if_neg (fun y => by omega), if_pos ⟨rfl, h⟩]
theorem mzBt : nBt mZst = 0 := rfl
theorem mzBg : nBg mZst = 0 := rfl
theorem mzCo : nCo mZst = 0 := rfl
theorem mzT {t : Nat} : nT mZst t = 0 := by
  unfold nT
  rw [mz0 (by omega) (by omega) (by omega) (by omega)]
  rfl
set_option maxHeartbeats 400000 in
theorem mz_all : iAll mZst := by
  have z : ∀ k i, k ≠ 6 → k ≠ 9 → k ≠ 10 → k ≠ 17 → mZst.2 k i = 0 := fun k i a b c e => mz0 a b c e
  refine ⟨⟨⟨rfl, by rw [mzBt]; omega⟩, ⟨rfl, by rw [mzBg]; omega⟩, rfl, by rw [mzCo]; omega⟩, fun s hs => ?_, fun t ht => ?_, fun w hw => ?_, fun g hg => ?_, fun c hc => ?_, fun w hw => ?_, fun w v hw hv => ?_, ⟨fun w hw _ => ?_, fun c hc _ => ?_⟩, ⟨0, rfl, by omega⟩, Or.inl rfl, fun p hp => ?_⟩
  · rw [mz9 hs, z 7 s (by omega) (by omega) (by omega) (by omega), z 5 s (by omega) (by omega) (by omega) (by omega), z 15 s (by omega) (by omega) (by omega) (by omega)]
    exact ⟨⟨by decide, by decide⟩, Or.inl rfl, Or.inl rfl⟩
  · rw [mz17 ht, z 18 t (by omega) (by omega) (by omega) (by omega), mzT]
    exact ⟨rfl, by decide, by decide, fun k hk => by omega⟩
  · rw [mzBt] at hw
    omega
  · rw [mzBg] at hg
    omega
  · rw [mzCo] at hc
    omega
  · rw [mzBt] at hw
    omega
  · rw [z 45 _ (by omega) (by omega) (by omega) (by omega), z 45 _ (by omega) (by omega) (by omega) (by omega)]
    exact ⟨Or.inl rfl, rfl, fun _ => rfl⟩
  · refine ⟨z 32 _ (by omega) (by omega) (by omega) (by omega), z 39 _ (by omega) (by omega) (by omega) (by omega), z 42 _ (by omega) (by omega) (by omega) (by omega), ⟨z 43 _ (by omega) (by omega) (by omega) (by omega), z 35 _ (by omega) (by omega) (by omega) (by omega)⟩, fun c hc => z 44 _ (by omega) (by omega) (by omega) (by omega)⟩
  · exact ⟨z 53 _ (by omega) (by omega) (by omega) (by omega), z 54 _ (by omega) (by omega) (by omega) (by omega), z 55 _ (by omega) (by omega) (by omega) (by omega)⟩
  · rw [z 20 _ (by omega) (by omega) (by omega) (by omega)]
    exact (by decide : (0 : Int32) ≤ 0)
set_option maxHeartbeats 1000000 in
theorem jRR {W9 : xWd} {a : Nat} {d : Nat → Nat → Nat} {S : cS} (h : jB a d S 7 16) (hl : jLs W9 d S 7 16) : RRd W9 0 a d S mZst 1 0 := by
  have z : ∀ k i, k ≠ 6 → k ≠ 9 → k ≠ 10 → k ≠ 17 → mZst.2 k i = 0 := fun k i a b c e => mz0 a b c e
  obtain ⟨hd, ha, ⟨t0, ⟨r0, r1, r2, r3, r4, r5, r6⟩, t1⟩, ⟨l0, l1, l2⟩, hP, hS, hR⟩ := h
  obtain ⟨⟨h0, h1, h2, h3, h4⟩, h5, h6⟩ := hl
  refine ⟨hd, ha, mz_all, ⟨fun s hs => ?_, fun t ht => ?_, fun w hw => ?_, fun g hg => ?_, fun c hc => ?_, fun w hw => ?_, fun w hw => ?_, fun w hw => ?_, ⟨t0, ⟨r0, r1, r2, r3, r4, r5, r6⟩, t1 807 (by omega), t1 808 (by omega), t1 809 (by omega), t1 810 (by omega), t1 811 (by omega), t1 812 (by omega), t1 813 (by omega)⟩, ⟨l0, l1, fun p hp => ?_⟩, ⟨⟨h0, h1, ?_, ?_, ?_⟩, fun t ht => ?_, fun w hw => ?_, fun k i k2 i2 z1 z2 z3 => ?_⟩⟩, hP, ⟨fun g hg => ?_, fun w hw => ?_⟩, ?_, by omega⟩
  · obtain ⟨s0, s1, s2⟩ := hS s hs
    have y : ∀ g, 600 < g → g ≠ 601 → g ≠ 605 → g ≠ 606 → cFi S (d 0 s) g = 0 := fun g a b c e => by rw [s2 g a, if_neg b, if_neg c, if_neg e]
    have m5 := z 5 s (by omega) (by omega) (by omega) (by omega)
    refine ⟨s0, s1, ?_, ?_, ?_, ?_, ?_, ?_, ?_, ?_, ?_, ?_, fun w => absurd m5 w, fun w => absurd m5 w⟩
    · rw [mz6 hs, s2 601 (by omega), if_pos rfl]
    · rw [y 602 (by omega) (by omega) (by omega) (by omega), z 7 s (by omega) (by omega) (by omega) (by omega)]
    · rw [y 603 (by omega) (by omega) (by omega) (by omega), z 8 s (by omega) (by omega) (by omega) (by omega)]
    · rw [y 604 (by omega) (by omega) (by omega) (by omega), m5]
    · rw [mz9 hs, s2 605 (by omega), if_neg (by omega), if_pos rfl]
    · rw [mz10 hs, s2 606 (by omega), if_neg (by omega), if_neg (by omega), if_pos rfl]
    · rw [y 607 (by omega) (by omega) (by omega) (by omega), if_pos m5, z 11 s (by omega) (by omega) (by omega) (by omega)]
    · rw [y 608 (by omega) (by omega) (by omega) (by omega), z 12 s (by omega) (by omega) (by omega) (by omega)]
    · rw [y 609 (by omega) (by omega) (by omega) (by omega), z 13 s (by omega) (by omega) (by omega) (by omega)]
    · rw [y 610 (by omega) (by omega) (by omega) (by omega), z 14 s (by omega) (by omega) (by omega) (by omega)]
  · obtain ⟨s0, s1, s2, s3, s4, s5⟩ := hR t ht
    exact ⟨s0, s1, s2, s3, by rw [mz17 ht]; exact s4, s5⟩
  · rw [mzBt] at hw
    omega
  · rw [mzBg] at hg
    omega
  · rw [mzCo] at hc
    omega
  · rw [mzBt] at hw
    omega
  · rw [mzBt] at hw
    omega
  · rw [mzBt] at hw
    omega
  · rw [l2 p]
    unfold mInH
    split
    · exact (z 21 _ (by omega) (by omega) (by omega) (by omega)).symm
    · rfl
  · rw [mzBg]
    exact h2
  · rw [mzCo]
    exact h3
  · rw [mzBt]
    exact h4
  · obtain ⟨g0, g1, -⟩ := h5 t ht
    exact ⟨g0, g1.trans mzT.symm, fun k hk => by rw [mzT] at hk; omega⟩
  · rw [mzBt] at hw
    omega
  · have y : ∀ k i, isL mZst k i → jP 16 k i := fun k i u => by
      rcases u with u | u | u
      · exact Or.inl u
      · exact Or.inr u
      · rw [mzBt] at u
        omega
    exact h6 k i k2 i2 (y _ _ z1) (y _ _ z2) z3
  · rw [mzBg] at hg
    omega
  · rw [mzBt] at hw
    omega
  · rw [mzBt]
    exact Nat.le_refl _
