/-! The beginning: the class's whole, while it is made. -/
def dB (k i : Nat) : Nat := 2 ^ k * (2 * i + 1)
set_option maxHeartbeats 400000 in
theorem dB_lt {a b i j : Nat} (hab : a < b) (h : 2 ^ a * (2 * i + 1) = 2 ^ b * (2 * j + 1)) : False := by
  obtain ⟨c, rfl⟩ : ∃ c, b = a + (c + 1) := ⟨b - a - 1, by omega⟩
  rw [Nat.pow_add, Nat.mul_assoc] at h
  have h2 := Nat.eq_of_mul_eq_mul_left (Nat.two_pow_pos a) h
  rw [Nat.pow_succ, Nat.mul_comm (2 ^ c) 2, Nat.mul_assoc] at h2
  omega
set_option maxHeartbeats 400000 in
theorem dB_inj : dInj dB := by
  intro a b i j h
  unfold dB at h
  rcases Nat.lt_trichotomy a b with c | c | c
  · exact (dB_lt c h).elim
  · subst c
    have h2 := Nat.eq_of_mul_eq_mul_left (Nat.two_pow_pos a) h
    exact ⟨rfl, by omega⟩
  · exact (dB_lt c h.symm).elim
def jP (n1 k i : Nat) : Prop := (k = 6 ∧ i < 5) ∨ (k = 7 ∧ i < n1)
def jT (d : Nat → Nat → Nat) (S : cS) : Prop := cK S (d 9 0) = 9 ∧ (cFr S (d 9 0) 800 = some (d 6 0) ∧ cFr S (d 9 0) 801 = some (d 6 1) ∧ cFr S (d 9 0) 802 = some (d 6 2) ∧ cFr S (d 9 0) 803 = some (d 6 3) ∧ cFr S (d 9 0) 804 = some (d 6 4) ∧ cFr S (d 9 0) 805 = some (d 9 1) ∧ cFr S (d 9 0) 806 = some (d 9 2)) ∧ ∀ g, 2 < g → cFi S (d 9 0) g = 0
def jL (d : Nat → Nat → Nat) (S : cS) : Prop := cK S (d 9 1) = 11 ∧ cLen S (d 9 1) = 8 ∧ ∀ p, cRi S (d 9 1) p = 0
def jS (d : Nat → Nat → Nat) (S : cS) (n0 : Nat) : Prop := ∀ s, s < n0 → cK S (d 0 s) = 7 ∧ cFi S (d 0 s) 600 = nI s ∧ ∀ g, 600 < g → cFi S (d 0 s) g = if g = 601 then 30 else if g = 605 then 2 else if g = 606 then 3 else 0
def jR (d : Nat → Nat → Nat) (S : cS) (n1 : Nat) : Prop := ∀ t, t < n1 → cK S (d 1 t) = 6 ∧ cFi S (d 1 t) 500 = -1 ∧ cFi S (d 1 t) 501 = nI (t / 2) ∧ cFi S (d 1 t) 502 = nI (t % 2) ∧ cFi S (d 1 t) 503 = 3 ∧ cFr S (d 1 t) 505 = some (d 7 t)
def jB (a : Nat) (d : Nat → Nat → Nat) (S : cS) (n0 n1 : Nat) : Prop := dInj d ∧ d 9 0 = a ∧ jT d S ∧ jL d S ∧ rPg d S 1 0 ∧ jS d S n0 ∧ jR d S n1
def jLs (W9 : xWd) (d : Nat → Nat → Nat) (S : cS) (n0 n1 : Nat) : Prop := (lst W9 S (d 6 0) n0 (d 0) ∧ lst W9 S (d 6 1) n1 (d 1) ∧ lst W9 S (d 6 2) 0 (d 2) ∧ lst W9 S (d 6 3) 0 (d 3) ∧ lst W9 S (d 6 4) 0 (d 4)) ∧
  (∀ t, t < n1 → lst W9 S (d 7 t) 0 (fun _ => 0)) ∧ ∀ k i k2 i2, jP n1 k i → jP n1 k2 i2 → cRf S (d k i) 1 = cRf S (d k2 i2) 1 → cRf S (d k i) 1 = wE W9 ∨ (k = k2 ∧ i = i2)
def jU (n0 n1 k i : Nat) : Prop := (k = 0 ∧ i < n0) ∨ (k = 1 ∧ i < n1) ∨ (k = 6 ∧ i < 5) ∨ (k = 7 ∧ i < n1) ∨ (k = 9 ∧ i < 3) ∨ (k = 11 ∧ i < 1) ∨ (k = 12 ∧ i < 1)
section JI
variable {W9 : xWd} {d : Nat → Nat → Nat} {S S2 : cS} {a n0 n1 : Nat}
set_option maxHeartbeats 400000 in
theorem jLs.cap (h : jLs W9 d S n0 n1) {k i : Nat} (hk : jP n1 k i) : lCap W9 S (d k i) := by
  obtain ⟨⟨h0, h1, h2, h3, h4⟩, h5, -⟩ := h
  rcases hk with ⟨rfl, hi⟩ | ⟨rfl, hi⟩
  · match i, hi with
    | 0, _ => exact h0.1
    | 1, _ => exact h1.1
    | 2, _ => exact h2.1
    | 3, _ => exact h3.1
    | 4, _ => exact h4.1
  · exact (h5 i hi).1
set_option maxHeartbeats 400000 in
theorem jB.live (h : jB a d S n0 n1) (hl : jLs W9 d S n0 n1) {k i : Nat} (hu : jU n0 n1 k i) : ¬ cDead S (d k i) := by
  obtain ⟨-, -, hT, hL, hP, hS, hR⟩ := h
  rcases hu with ⟨rfl, z⟩ | ⟨rfl, z⟩ | ⟨rfl, z⟩ | ⟨rfl, z⟩ | ⟨rfl, z⟩ | ⟨rfl, z⟩ | ⟨rfl, z⟩
  · exact live_of (hS i z).1 (by omega)
  · exact live_of (hR i z).1 (by omega)
  · exact live_of (hl.cap (Or.inl ⟨rfl, z⟩)).1 (by omega)
  · exact live_of (hl.cap (Or.inr ⟨rfl, z⟩)).1 (by omega)
  · match i, z with
    | 0, _ => exact live_of hT.1 (by omega)
    | 1, _ => exact live_of hL.1 (by omega)
    | 2, _ => exact live_of hP.1.1 (by omega)
  · obtain rfl : i = 0 := by omega
    exact live_of (hP.2.2 0 (by omega)).1 (by omega)
  · obtain rfl : i = 0 := by omega
    exact live_of (hP.2.2 0 (by omega)).2.2.1 (by omega)
set_option maxHeartbeats 400000 in
theorem jB.keep (h : jB a d S n0 n1) (f : fr1 S S2) : jB a d S2 n0 n1 := by
  obtain ⟨hd, ha, ⟨t0, ⟨r0, r1, r2, r3, r4, r5, r6⟩, t1⟩, ⟨l0, l1, l2⟩, hP, hS, hR⟩ := h
  have la := live_of t0 (by omega)
  have ll := live_of l0 (by omega)
  refine ⟨hd, ha, ⟨(f.1 _ la).trans t0, ⟨(f.2.2.1 _ 800 (by omega) la).trans r0, (f.2.2.1 _ 801 (by omega) la).trans r1, (f.2.2.1 _ 802 (by omega) la).trans r2, (f.2.2.1 _ 803 (by omega) la).trans r3, (f.2.2.1 _ 804 (by omega) la).trans r4, (f.2.2.1 _ 805 (by omega) la).trans r5, (f.2.2.1 _ 806 (by omega) la).trans r6⟩, fun g hg => (f.2.1 _ g hg la).trans (t1 g hg)⟩,
    ⟨(f.1 _ ll).trans l0, (f.2.2.2.1 _ ll).trans l1, fun p => by rw [f.2.2.2.2 _ ll]; exact l2 p⟩, (hP.fr f rfl (fun _ _ => rfl) (fun _ _ => rfl)).1, fun s hs => ?_, fun t ht => ?_⟩
  · obtain ⟨s0, s1, s2⟩ := hS s hs
    have ls := live_of s0 (by omega)
    exact ⟨(f.1 _ ls).trans s0, (f.2.1 _ 600 (by omega) ls).trans s1, fun g hg => (f.2.1 _ g (by omega) ls).trans (s2 g hg)⟩
  · obtain ⟨s0, s1, s2, s3, s4, s5⟩ := hR t ht
    have ls := live_of s0 (by omega)
    exact ⟨(f.1 _ ls).trans s0, (f.2.1 _ 500 (by omega) ls).trans s1, (f.2.1 _ 501 (by omega) ls).trans s2, (f.2.1 _ 502 (by omega) ls).trans s3, (f.2.1 _ 503 (by omega) ls).trans s4, (f.2.2.1 _ 505 (by omega) ls).trans s5⟩
set_option maxHeartbeats 400000 in
theorem jLs.keep (h : jLs W9 d S n0 n1) (f : fr1 S S2) (hs : ∀ k i, jP n1 k i → lSame S S2 (d k i)) : jLs W9 d S2 n0 n1 := by
  obtain ⟨⟨h0, h1, h2, h3, h4⟩, h5, h6⟩ := h
  have s6 : ∀ i, i < 5 → lSame S S2 (d 6 i) := fun i hi => hs 6 i (Or.inl ⟨rfl, hi⟩)
  refine ⟨⟨h0.mono f (s6 0 (by omega)), h1.mono f (s6 1 (by omega)), h2.mono f (s6 2 (by omega)), h3.mono f (s6 3 (by omega)), h4.mono f (s6 4 (by omega))⟩, fun t ht => (h5 t ht).mono f (hs 7 t (Or.inr ⟨rfl, ht⟩)), fun k i k2 i2 z1 z2 z3 => ?_⟩
  rw [(hs k i z1).rd.2.1] at z3 ⊢
  rw [(hs k2 i2 z2).rd.2.1] at z3
  exact h6 k i k2 i2 z1 z2 z3
set_option maxHeartbeats 400000 in
/-- other places for what isn't there yet -/
theorem jsw {d2 : Nat → Nat → Nat} (h : jB a d S n0 n1) (hl : jLs W9 d S n0 n1) (hd2 : dInj d2) (e : ∀ k i, jU n0 n1 k i → d2 k i = d k i) : jB a d2 S n0 n1 ∧ jLs W9 d2 S n0 n1 := by
  obtain ⟨hd, ha, hT, hL, hP, hS, hR⟩ := h
  have e9 : ∀ i, i < 3 → d2 9 i = d 9 i := fun i hi => e 9 i (by unfold jU; omega)
  have e6 : ∀ i, i < 5 → d2 6 i = d 6 i := fun i hi => e 6 i (by unfold jU; omega)
  have e7 : ∀ i, i < n1 → d2 7 i = d 7 i := fun i hi => e 7 i (by unfold jU; omega)
  have e0 : ∀ i, i < n0 → d2 0 i = d 0 i := fun i hi => e 0 i (by unfold jU; omega)
  have e1 : ∀ i, i < n1 → d2 1 i = d 1 i := fun i hi => e 1 i (by unfold jU; omega)
  have e11 : ∀ j, j < 1 → d2 11 j = d 11 j := fun i hi => e 11 i (by unfold jU; omega)
  have e12 : ∀ j, j < 1 → d2 12 j = d 12 j := fun i hi => e 12 i (by unfold jU; omega)
  refine ⟨⟨hd2, (e9 0 (by omega)).trans ha, ?_, ?_, (hP.fr fr1.rf (e9 2 (by omega)) e11 e12).1, fun s hs => ?_, fun t ht => ?_⟩, ?_⟩
  · unfold jT
    rw [e9 0 (by omega), e9 1 (by omega), e9 2 (by omega), e6 0 (by omega), e6 1 (by omega), e6 2 (by omega), e6 3 (by omega), e6 4 (by omega)]
    exact hT
  · unfold jL
    rw [e9 1 (by omega)]
    exact hL
  · rw [e0 s hs]
    exact hS s hs
  · rw [e1 t ht, e7 t ht]
    exact hR t ht
  · obtain ⟨⟨h0, h1, h2, h3, h4⟩, h5, h6⟩ := hl
    refine ⟨⟨?_, ?_, ?_, ?_, ?_⟩, fun t ht => by rw [e7 t ht]; exact h5 t ht, fun k i k2 i2 z1 z2 z3 => ?_⟩
    · rw [e6 0 (by omega)]
      exact ⟨h0.1, h0.2.1, fun k hk => by rw [e0 k hk]; exact h0.2.2 k hk⟩
    · rw [e6 1 (by omega)]
      exact ⟨h1.1, h1.2.1, fun k hk => by rw [e1 k hk]; exact h1.2.2 k hk⟩
    · rw [e6 2 (by omega)]
      exact ⟨h2.1, h2.2.1, fun k hk => by omega⟩
    · rw [e6 3 (by omega)]
      exact ⟨h3.1, h3.2.1, fun k hk => by omega⟩
    · rw [e6 4 (by omega)]
      exact ⟨h4.1, h4.2.1, fun k hk => by omega⟩
    · have ex : ∀ k i, jP n1 k i → d2 k i = d k i := fun k i z => e k i (by unfold jP at z; unfold jU; omega)
      rw [ex k i z1] at z3 ⊢
      rw [ex k2 i2 z2] at z3
      exact h6 k i k2 i2 z1 z2 z3
set_option maxHeartbeats 400000 in
theorem jsw1 {k0 i0 q : Nat} (h : jB a d S n0 n1) (hl : jLs W9 d S n0 n1) (hq : cDead S q) (hu : ¬ jU n0 n1 k0 i0) : jB a (dSw d k0 i0 q) S n0 n1 ∧ jLs W9 (dSw d k0 i0 q) S n0 n1 :=
  jsw h hl (dSw_inj h.1 k0 i0 q) (fun k i z => dSw_ne (fun y => hu (by rw [← y.1, ← y.2]; exact z)) (live_ne (h.live hl z) hq))
set_option maxHeartbeats 400000 in
/-- one more in a list of the whole's -/
theorem jadd {x v : Nat} {z : Int32} (hd : dInj d) (hl : jLs W9 d S n0 n1) (hx : x < 5) (hA : lAdd W9 (cSetI S (d 6 x) 0 z) (d 6 x) v S2) (h30 : lCn S (d 6 x) < 30) :
    fr1 S S2 ∧ (∀ k i, jP n1 k i → ¬ (k = 6 ∧ i = x) → lSame S S2 (d k i)) ∧ (lCap W9 S2 (d 6 x) ∧ lCn S2 (d 6 x) = lCn S (d 6 x) + 1 ∧ (∀ i, i < lCn S (d 6 x) → lNth S2 (d 6 x) i = lNth S (d 6 x) i) ∧ lNth S2 (d 6 x) (lCn S (d 6 x)) = some v) ∧
    ∀ k i k2 i2, jP n1 k i → jP n1 k2 i2 → cRf S2 (d k i) 1 = cRf S2 (d k2 i2) 1 → cRf S2 (d k i) 1 = wE W9 ∨ (k = k2 ∧ i = i2) := by
  have f0 : fr1 S (cSetI S (d 6 x) 0 z) := fr1_m (by omega)
  have hl1 : jLs W9 d (cSetI S (d 6 x) 0 z) n0 n1 := hl.keep f0 (fun _ _ _ => same_m)
  have hcn : lCn (cSetI S (d 6 x) 0 z) (d 6 x) = lCn S (d 6 x) := lCn_m
  have hP : jP n1 6 x := Or.inl ⟨rfl, hx⟩
  have f1 := fr1_add hA
  have hap := hl1.2.2
  obtain ⟨n1a, n2, n3, n4, n5, n6⟩ := lAdd_new hA (hl1.cap hP) (by rw [hcn]; exact h30)
  have hs : ∀ k i, jP n1 k i → ¬ (k = 6 ∧ i = x) → lSame (cSetI S (d 6 x) 0 z) S2 (d k i) := fun k i y hne => by
    refine same_add hA (hl1.cap y) (fun w => hne (hd _ _ _ _ w)) ?_
    by_cases w : cRf (cSetI S (d 6 x) 0 z) (d k i) 1 = cRf (cSetI S (d 6 x) 0 z) (d 6 x) 1
    · exact (hap k i 6 x y hP w).elim Or.inl (fun u => absurd u hne)
    · exact Or.inr w
  have hfr : ∀ k i, jP n1 k i → ¬ (k = 6 ∧ i = x) → cRf S2 (d 6 x) 1 = cRf (cSetI S (d 6 x) 0 z) (d k i) 1 → False := fun k i y hne w => by
    rcases n5 with u | u
    · rw [u] at w
      rcases hap 6 x k i hP y w with q | q
      · rw [u] at n6
        exact n6 q
      · exact hne ⟨q.1.symm, q.2.symm⟩
    · rw [w] at u n6
      rcases (hl1.cap y).2.2.2.2 with q | q
      · exact n6 q.1
      · exact live_of q.2.1 (by omega) u
  rw [hcn] at n2 n3 n4
  refine ⟨f0.trans f1, fun k i y hne => same_m.trans (hs k i y hne), ⟨n1a, n2, n3, n4⟩, fun k i k2 i2 z1 z2 z3 => ?_⟩
  by_cases c : k = 6 ∧ i = x
  · by_cases c2 : k2 = 6 ∧ i2 = x
    · exact Or.inr ⟨c.1.trans c2.1.symm, c.2.trans c2.2.symm⟩
    · rw [(hs k2 i2 z2 c2).rd.2.1, c.1, c.2] at z3
      exact (hfr k2 i2 z2 c2 z3).elim
  · rw [(hs k i z1 c).rd.2.1] at z3 ⊢
    by_cases c2 : k2 = 6 ∧ i2 = x
    · rw [c2.1, c2.2] at z3
      exact (hfr k i z1 c z3.symm).elim
    · rw [(hs k2 i2 z2 c2).rd.2.1] at z3
      exact hap k i k2 i2 z1 z2 z3
set_option maxHeartbeats 400000 in
/-- a section more -/
theorem jsec {q : Nat} {z : Int32} {e : Nat → Nat → Nat} (h : jB a d S n0 0) (hl : jLs W9 d S n0 0) (hn : n0 < 7) (hq : cDead S q) (he : e = dSw d 0 n0 q) (hA : lAdd W9 (cSetI (cSetI (cSetI (cSetI (cSetI (cNewO S q 6) q 601 30) q 605 2) q 606 3) q 600 (nI n0)) (e 6 0) 0 z) (e 6 0) q S2) : jB a e S2 (n0 + 1) 0 ∧ jLs W9 e S2 (n0 + 1) 0 := by
  obtain ⟨h1, hl1⟩ := jsw1 (k0 := 0) (i0 := n0) h hl hq (by unfold jU; omega)
  rw [← he] at h1 hl1
  have eq : e 0 n0 = q := by rw [he]; exact dSw_at
  generalize hS1 : cSetI (cSetI (cSetI (cSetI (cNewO S q 6) q 601 30) q 605 2) q 606 3) q 600 (nI n0) = S1 at *
  have f1 : fr1 S S1 := by rw [← hS1]; exact ((((fr1_newO hq).sI hq).sI hq).sI hq).sI hq
  have hs1 : ∀ k i, jP 0 k i → lSame S S1 (e k i) := fun k i y => by
    have hk := (hl1.cap y).1
    rw [← hS1]
    exact ((((same_newO hk hq).trans (same_sI (Or.inl (by omega)))).trans (same_sI (Or.inl (by omega)))).trans (same_sI (Or.inl (by omega)))).trans (same_sI (Or.inl (by omega)))
  have h2 := h1.keep f1
  have hl2 := hl1.keep f1 hs1
  have hq7 : cK S1 q = 7 := by rw [← hS1, cK_setI, cK_setI, cK_setI, cK_setI, cK_newO, if_pos rfl]
  have lq := live_of hq7 (by omega)
  have hq6 : cFi S1 q 600 = nI n0 := by rw [← hS1, cFi_setI, if_pos ⟨rfl, rfl⟩]
  have hqg : ∀ g, 600 < g → cFi S1 q g = if g = 601 then 30 else if g = 605 then 2 else if g = 606 then 3 else 0 := fun g hg => by
    rw [← hS1, cFi_setI, if_neg (by omega), cFi_setI, cFi_setI, cFi_setI, cFi_newO, if_pos rfl]
    by_cases c1 : g = 601
    · subst c1
      rw [if_neg (by omega), if_neg (by omega), if_pos ⟨rfl, rfl⟩, if_pos rfl]
    · by_cases c2 : g = 605
      · subst c2
        rw [if_neg (by omega), if_pos ⟨rfl, rfl⟩, if_neg c1, if_pos rfl]
      · by_cases c3 : g = 606
        · subst c3
          rw [if_pos ⟨rfl, rfl⟩, if_neg c1, if_neg c2, if_pos rfl]
        · rw [if_neg (fun y => c3 y.2), if_neg (fun y => c2 y.2), if_neg (fun y => c1 y.2), if_neg c1, if_neg c2, if_neg c3]
  have hcn := hl2.1.1.2.1
  obtain ⟨f2, hs2, ⟨m1, m2, m3, m4⟩, m5⟩ := jadd (x := 0) h2.1 hl2 (by omega) hA (by rw [hcn]; omega)
  rw [hcn] at m2 m3 m4
  have h3 := h2.keep f2
  have hsb : ∀ i, i < 5 → i ≠ 0 → lSame S1 S2 (e 6 i) := fun i hi hne => hs2 6 i (Or.inl ⟨rfl, hi⟩) (fun y => hne y.2)
  obtain ⟨⟨g0, g1, g2, g3, g4⟩, g5, g6⟩ := hl2
  refine ⟨⟨h3.1, h3.2.1, h3.2.2.1, h3.2.2.2.1, h3.2.2.2.2.1, fun s hs => ?_, h3.2.2.2.2.2.2⟩, ⟨⟨m1, m2, fun k hk => ?_⟩, g1.mono f2 (hsb 1 (by omega) (by omega)), g2.mono f2 (hsb 2 (by omega) (by omega)), g3.mono f2 (hsb 3 (by omega) (by omega)), g4.mono f2 (hsb 4 (by omega) (by omega))⟩, fun t ht => by omega, m5⟩
  · by_cases c : s = n0
    · subst c
      rw [eq]
      exact ⟨(f2.1 q lq).trans hq7, (f2.2.1 q 600 (by omega) lq).trans hq6, fun g hg => (f2.2.1 q g (by omega) lq).trans (hqg g hg)⟩
    · exact h3.2.2.2.2.2.1 s (by omega)
  · by_cases c : k = n0
    · subst c
      rw [eq]
      exact m4
    · rw [m3 k (by omega)]
      exact g0.2.2 k (by omega)
set_option maxHeartbeats 400000 in
/-- a tier more -/
theorem jtie {r q : Nat} {z : Int32} {e : Nat → Nat → Nat} (h : jB a d S 7 n1) (hl : jLs W9 d S 7 n1) (hn : n1 < 16) (hr : cDead S r) (hq : cDead (cNewO S r 5) q) (he : e = dSw (dSw d 1 n1 r) 7 n1 q) (hA : lAdd W9 (cSetI (cRow W9 (cNewO S r 5) r q (-1) (nI (n1 / 2)) (nI (n1 % 2)) 3) (e 6 1) 0 z) (e 6 1) r S2) : jB a e S2 7 (n1 + 1) ∧ jLs W9 e S2 7 (n1 + 1) := by
  obtain ⟨hqr, hq0⟩ := (dead_nO (by omega)).mp hq
  obtain ⟨h1a, hl1a⟩ := jsw1 (k0 := 1) (i0 := n1) h hl hr (by unfold jU; omega)
  obtain ⟨h1, hl1⟩ := jsw1 (k0 := 7) (i0 := n1) h1a hl1a hq0 (by unfold jU; omega)
  rw [← he] at h1 hl1
  have eq7 : e 7 n1 = q := by rw [he]; exact dSw_at
  have eq1 : e 1 n1 = r := by
    rw [he, dSw_ne (by omega) (by rw [dSw_at]; exact fun y => hqr y.symm)]
    exact dSw_at
  unfold cRow cLst at hA
  generalize hS1 : cSetI (cSetI (cSetI (cSetI (cSetR (cSetR (cSetI (cNewO (cSetI (cNewO S r 5) r 504 2) q 0) q 0 0) q 1 (some (wE W9))) r 505 (some q)) r 500 (-1)) r 501 (nI (n1 / 2))) r 502 (nI (n1 % 2))) r 503 3 = S1 at *
  have hrq : (r = q) = False := eq_false (fun y => hqr y.symm)
  have hqr' : (q = r) = False := eq_false hqr
  have f0 : fr1 S (cSetI (cNewO S r 5) r 504 2) := (fr1_newO hr).sI hr
  have hq00 : cDead (cSetI (cNewO S r 5) r 504 2) q := hq
  have f1 : fr1 S S1 := by
    rw [← hS1]
    exact (((((((f0.nO hq00).sI hq0).sR hq0).sR hr).sI hr).sI hr).sI hr).sI hr
  have hs1 : ∀ k i, jP n1 k i → lSame S S1 (e k i) := fun k i y => by
    have hk := (hl1.cap y).1
    have lk := live_of hk (by omega)
    have hk2 : cK (cSetI (cNewO S r 5) r 504 2) (e k i) = 1 := (f0.1 _ lk).trans hk
    have nr : r ≠ e k i := fun w => live_ne lk hr w.symm
    have nq : q ≠ e k i := fun w => live_ne lk hq0 w.symm
    rw [← hS1]
    exact (((((((((same_newO hk hr).trans (same_sI (Or.inr nr))).trans (same_newO hk2 hq00)).trans (same_sI (Or.inr nq))).trans (same_sR (Or.inr nq))).trans (same_sR (Or.inr nr))).trans (same_sI (Or.inr nr))).trans (same_sI (Or.inr nr))).trans (same_sI (Or.inr nr))).trans (same_sI (Or.inr nr))
  have h2 := h1.keep f1
  have hl2 := hl1.keep f1 hs1
  have hr6 : cK S1 r = 6 := by
    rw [← hS1]
    simp only [cK_setI, cK_setR, cK_newO, hrq, if_true, if_false]
  have hq1 : cK S1 q = 1 := by
    rw [← hS1]
    simp only [cK_setI, cK_setR, cK_newO, if_true]
  have k1 : cFi S1 r 500 = -1 ∧ cFi S1 r 501 = nI (n1 / 2) ∧ cFi S1 r 502 = nI (n1 % 2) ∧ cFi S1 r 503 = 3 ∧ cFr S1 r 505 = some q := by
    rw [← hS1]
    simp only [cFi_setI, cFi_setR, cFi_newO, cFr_setI, cFr_setR, cFr_newO, hrq, hqr', Nat.reduceEqDiff, and_false, false_and, and_self, and_true, if_true, if_false]
  have k2 : cFi S1 q 2 = 0 ∧ cFr S1 q 1 = some (wE W9) := by
    rw [← hS1]
    simp only [cFi_setI, cFi_setR, cFi_newO, cFr_setI, cFr_setR, cFr_newO, hrq, hqr', Nat.reduceEqDiff, and_false, false_and, and_self, and_true, if_true, if_false]
  have lr := live_of hr6 (by omega)
  have lq := live_of hq1 (by omega)
  have eRf : cRf S1 q 1 = wE W9 := by unfold cRf; rw [k2.2]; rfl
  have eCn : lCn S1 q = 0 := by unfold lCn; rw [k2.1]; rfl
  have hcap : lCap W9 S1 q := ⟨hq1, by rw [eCn]; exact k2.1, by rw [eCn]; omega, by rw [eRf]; exact k2.2, Or.inl ⟨eRf, eCn⟩⟩
  have hcn := hl2.1.2.1.2.1
  obtain ⟨f2, hs2, ⟨m1, m2, m3, m4⟩, m5⟩ := jadd (x := 1) h2.1 hl2 (by omega) hA (by rw [hcn]; omega)
  rw [hcn] at m2 m3 m4
  have h3 := h2.keep f2
  have hsq : lSame S1 S2 q := by
    have f01 : fr1 S1 (cSetI S1 (e 6 1) 0 z) := fr1_m (by omega)
    have ne : q ≠ e 6 1 := fun y => by
      have hu := h.live hl (k := 6) (i := 1) (by unfold jU; omega)
      have e61 : e 6 1 = d 6 1 := by
        rw [he, dSw_ne (by omega) ?_, dSw_ne (by omega) (live_ne hu hr)]
        rw [dSw_ne (by omega) (live_ne hu hr)]
        exact live_ne hu hq0
      rw [e61] at y
      exact live_ne hu hq0 y.symm
    exact same_m.trans (same_add hA (hcap.mono f01 same_m) ne (Or.inl eRf))
  have hsb : ∀ i, i < 5 → i ≠ 1 → lSame S1 S2 (e 6 i) := fun i hi hne => hs2 6 i (Or.inl ⟨rfl, hi⟩) (fun y => hne y.2)
  obtain ⟨⟨g0, g1, g2, g3, g4⟩, g5, g6⟩ := hl2
  refine ⟨⟨h3.1, h3.2.1, h3.2.2.1, h3.2.2.2.1, h3.2.2.2.2.1, h3.2.2.2.2.2.1, fun t ht => ?_⟩, ⟨g0.mono f2 (hsb 0 (by omega) (by omega)), ⟨m1, m2, fun k hk => ?_⟩, g2.mono f2 (hsb 2 (by omega) (by omega)), g3.mono f2 (hsb 3 (by omega) (by omega)), g4.mono f2 (hsb 4 (by omega) (by omega))⟩, fun t ht => ?_, fun k i k2 i2 z1 z2 z3 => ?_⟩
  · by_cases c : t = n1
    · subst c
      rw [eq1, eq7]
      exact ⟨(f2.1 r lr).trans hr6, (f2.2.1 r 500 (by omega) lr).trans k1.1, (f2.2.1 r 501 (by omega) lr).trans k1.2.1, (f2.2.1 r 502 (by omega) lr).trans k1.2.2.1, (f2.2.1 r 503 (by omega) lr).trans k1.2.2.2.1, (f2.2.2.1 r 505 (by omega) lr).trans k1.2.2.2.2⟩
    · exact h3.2.2.2.2.2.2 t (by omega)
  · by_cases c : k = n1
    · subst c
      rw [eq1]
      exact m4
    · rw [m3 k (by omega)]
      exact g1.2.2 k (by omega)
  · by_cases c : t = n1
    · subst c
      rw [eq7]
      exact ⟨hcap.mono f2 hsq, hsq.rd.1.trans eCn, fun k hk => by omega⟩
    · exact (g5 t (by omega)).mono f2 (hs2 7 t (Or.inr ⟨rfl, by omega⟩) (by omega))
  · have hred : ∀ k i, jP (n1 + 1) k i → jP n1 k i ∨ (k = 7 ∧ i = n1) := fun k i y => by unfold jP at *; omega
    have eq2 : cRf S2 q 1 = wE W9 := hsq.rd.2.1.trans eRf
    rcases hred k i z1 with y1 | ⟨rfl, rfl⟩
    · rcases hred k2 i2 z2 with y2 | ⟨rfl, rfl⟩
      · exact m5 k i k2 i2 y1 y2 z3
      · rw [z3, eq7]
        exact Or.inl eq2
    · rw [eq7]
      exact Or.inl eq2
end JI
