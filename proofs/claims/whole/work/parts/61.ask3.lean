/-! The class's answers are the reference's: what is asked of all; hours. -/
theorem mSum_0 {f : Nat → Int32} {n : Nat} : ∀ m, (∀ k, n ≤ k → k < n + m → f k = 0) → mSum f (n + m) = mSum f n
  | 0, _ => rfl
  | m + 1, h => by
    show mSum f (n + m) + f (n + m) = mSum f n
    rw [mSum_0 m (fun k a b => h k a (by omega)), h (n + m) (by omega) (by omega), Int32.add_zero]
theorem cWs_sum {S : cS} {b : Nat} {f : Nat → Int32} {n : Nat} : ∀ i, (∀ c, c < i → cRi S b c = f (n + c)) → cWs S b (mSum f n) i = mSum f (n + i)
  | 0, _ => rfl
  | i + 1, h => by
    show cWs S b (mSum f n) i + cRi S b i = mSum f (n + i) + f (n + i)
    rw [cWs_sum i (fun c hc => h c (by omega)), h i (by omega)]
theorem mSum_ext {f g : Nat → Int32} : ∀ n, (∀ j, j < n → f j = g j) → mSum f n = mSum g n
  | 0, _ => rfl
  | n + 1, h => by
    show mSum f n + f n = mSum g n + g n
    rw [mSum_ext n (fun j hj => h j (by omega)), h n (by omega)]
theorem mSum_hd {f : Nat → Int32} : ∀ n, mSum f (n + 1) = f 0 + mSum (fun j => f (j + 1)) n
  | 0 => by show (0 : Int32) + f 0 = f 0 + 0; rw [Int32.add_comm]
  | n + 1 => by
    show mSum f (n + 1) + f (n + 1) = f 0 + (mSum (fun j => f (j + 1)) n + f (n + 1))
    rw [mSum_hd n, Int32.add_assoc]
theorem mSum_rev {f : Nat → Int32} : ∀ n, mSum f n = mSum (fun j => f (n - 1 - j)) n
  | 0 => rfl
  | n + 1 => by
    rw [mSum_hd (f := fun j => f (n + 1 - 1 - j)) n]
    show mSum f n + f n = f (n + 1 - 1 - 0) + mSum (fun j => f (n + 1 - 1 - (j + 1))) n
    rw [mSum_rev n, Int32.add_comm, show n + 1 - 1 - 0 = n by omega]
    congr 1
    exact mSum_ext n (fun j hj => by rw [show n - 1 - j = n + 1 - 1 - (j + 1) by omega])

theorem Q_all {W9 : xWd} {B a : Nat} {S : cS} {M : mS} {k : Int32} {K : xRes → cS → Prop} (h : RR W9 B a S M) (hk : ∀ r S2, ans [eB] W9 B a (oAll M k) r S2 → K r S2) : (spX7_all W9).2 [.ref a, .int k] S K := by
  have h0 := RR_set0 (z := 0) h
  have h00 := h0
  obtain ⟨d, np, N, hd, rfl, hi, hR, hp, hl, hN, hB⟩ := h00
  have g0 := hR.2.2.2.2.2.2.2.2.1.1
  obtain ⟨g7, g8, g9, g10, g11, g12, g13⟩ := hR.2.2.2.2.2.2.2.2.1.2.2
  have e29 : M.1 29 = nI (nBt M) := hi.1.1.1
  have e22 : M.1 22 = nI (nBg M) := hi.1.2.1.1
  have e46 : M.1 46 = nI (nCo M) := hi.1.2.2.1
  have b29 : nBt M ≤ 6 := hi.1.1.2
  have b22 : nBg M ≤ 24 := hi.1.2.1.2
  have b46 : nCo M ≤ 12 := hi.1.2.2.2
  have n29 : nBt (mSet M 0 0) = nBt M := rfl
  have n22 : nBg (mSet M 0 0) = nBg M := rfl
  have n46 : nCo (mSet M 0 0) = nCo M := rfl
  obtain ⟨f1, f2, f3, f4, f5, f6⟩ := R0_cons hR
  rw [n46] at f4 f5 f6
  obtain ⟨s1, s2, s3, s4, s5, s6⟩ := R0_boats hR
  rw [n29] at s4 s5 s6
  have hbw : bWt S (d 6 4) := fun j hj => by
    rw [s4] at hj
    rw [s6 j hj]
    obtain ⟨-, w2, w3, w4⟩ := R0_wait_f hR hj
    rw [w3]
    exact ⟨w2, w4⟩
  obtain ⟨z1, z2⟩ := hi.2.2.2.2.2.2.2.2.1
  have hpd : cPaid S (d 6 3) (nCo M) = mSum (M.2 54) 12 := by
    have h1 : ∀ n, n ≤ nCo M → cPaid S (d 6 3) n = mSum (M.2 54) n := by
      intro n
      induction n with
      | zero => intro _; rfl
      | succ n ih =>
        intro hn
        show cPaid S (d 6 3) n + cFi S (lG S (d 6 3) n) 309 = mSum (M.2 54) n + M.2 54 n
        rw [ih (by omega), f6 n (by omega), (hR.2.2.2.2.1 n (by rw [n46]; omega)).2.2.2.2.2.2.2.2.2.2.1]
        rfl
    rw [h1 _ (Nat.le_refl _)]
    have := mSum_0 (f := M.2 54) (n := nCo M) (12 - nCo M) (fun k a b => (z2 k (by omega) a).2.1)
    rw [show nCo M + (12 - nCo M) = 12 by omega] at this
    exact this.symm
  have hwt : cWa S (d 6 4) (nBt M) = mSum (M.2 44) 60 := by
    have h1 : ∀ n, n ≤ nBt M → cWa S (d 6 4) n = mSum (M.2 44) (10 * n) := by
      intro n
      induction n with
      | zero => intro _; rfl
      | succ n ih =>
        intro hn
        show cWs S (cRf S (lG S (d 6 4) n) 214) (cWa S (d 6 4) n) 10 = mSum (M.2 44) (10 * (n + 1))
        obtain ⟨-, w2, w3, w4⟩ := R0_wait_f hR (show n < nBt (mSet M 0 0) by rw [n29]; omega)
        rw [ih (by omega), s6 n (by omega), w3, cWs_sum (f := M.2 44) 10 (fun c hc => (hR.2.2.2.2.2.2.2.1 n (by rw [n29]; omega)).2.2 c hc)]
        rfl
    rw [h1 _ (Nat.le_refl _)]
    have := mSum_0 (f := M.2 44) (n := 10 * nBt M) (60 - 10 * nBt M) (fun k a b => by
      have := (z1 (k / 10) (by omega) (by rw [n29]; omega)).2.2.2.2 (k % 10) (by omega)
      rw [show 10 * (k / 10) + k % 10 = k by omega] at this
      exact this)
    rw [show 10 * nBt M + (60 - 10 * nBt M) = 60 by omega] at this
    exact this.symm
  rw [spwX7_all, f2, s2]
  refine ⟨g0, ⟨f1, f3⟩, ⟨s1, s3, hbw⟩, fun z => hk _ _ (ans_0 h0 (v := if k = 0 then M.1 1 else if k = 1 then M.1 2 else if k = 2 then mSum (M.2 54) 12 else if k = 3 then M.1 56 else if k = 4 then M.1 57 else if k = 5 then M.1 58 else mSum (M.2 44) 60) ?_ ?_), fun z => hk _ _ (ans_e h (z := 1) ?_ (by decide) rfl)⟩
  · unfold oAll
    rw [if_neg (not_not_intro z)]
  · unfold cTla
    rw [f2, s2, f4, s4, hpd, hwt, g7, g8, g11, g12, g13]
    rfl
  · unfold oAll
    rw [if_pos z]

theorem cHs_sum {S : cS} {L b lo : Nat} {u : Int32} {g : Nat → Int32} : ∀ n, (∀ j, j < n → cHr S (lG S L (lo + j)) (nI (rN S (cRf S b 203))) u = g j) → cHs S L b u lo n = cFi S b 209 + mSum g n
  | 0, _ => (Int32.add_zero _).symm
  | n + 1, h => by
    show cHs S L b u lo n + cHr S (lG S L (lo + n)) (nI (rN S (cRf S b 203))) u = cFi S b 209 + (mSum g n + g n)
    rw [cHs_sum n (fun j hj => h j (by omega)), h n (by omega), Int32.add_assoc]
theorem mHs_sum {M : mS} {b : Int32} {a : Nat} {u : Bool} : ∀ n, mHs M b a u n = (if M.2 34 b.toNatClampNeg = -1 then 0 else M.2 36 b.toNatClampNeg) + mSum (fun j => mHrs M (nI (mSc a u j)) b (bi (u = true))) n
  | 0 => (Int32.add_zero _).symm
  | n + 1 => by
    show mHs M b a u n + mHrs M (nI (mSc a u n)) b (bi (u = true)) = _ + (mSum (fun j => mHrs M (nI (mSc a u j)) b (bi (u = true))) n + mHrs M (nI (mSc a u n)) b (bi (u = true)))
    rw [mHs_sum n, Int32.add_assoc]
theorem cHb_ex {S : cS} {o L b lo : Nat} {u : Int32} : ∀ n, cHb S o L b u lo n = true ↔ ∃ j, j < n ∧ ¬ cSz S o b (lG S L (lo + j)) u = 0
  | 0 => ⟨fun h => (by cases h), fun ⟨k, h, _⟩ => by omega⟩
  | n + 1 => by
    have e : cHb S o L b u lo (n + 1) = (cHb S o L b u lo n || decide (¬ cSz S o b (lG S L (lo + n)) u = 0)) := rfl
    rw [e, Bool.or_eq_true, cHb_ex n, decide_eq_true_eq]
    refine ⟨fun h => h.elim (fun ⟨k, a, b⟩ => ⟨k, by omega, b⟩) (fun y => ⟨n, by omega, y⟩), fun ⟨k, a, b⟩ => ?_⟩
    rcases Nat.lt_or_ge k n with y | y
    · exact Or.inl ⟨k, y, b⟩
    · exact Or.inr (by rw [show n = k by omega]; exact b)
theorem mHb_ex {M : mS} {b : Int32} {a : Nat} {u : Bool} : ∀ n, mHb M b a u n = true ↔ ∃ j, j < n ∧ 0 < mUnfit M (nI (mSc a u j)) b (bi (u = true))
  | 0 => ⟨fun h => (by cases h), fun ⟨k, h, _⟩ => by omega⟩
  | n + 1 => by
    have e : mHb M b a u (n + 1) = (mHb M b a u n || decide (0 < mUnfit M (nI (mSc a u n)) b (bi (u = true)))) := rfl
    rw [e, Bool.or_eq_true, mHb_ex n, decide_eq_true_eq]
    refine ⟨fun h => h.elim (fun ⟨k, a, b⟩ => ⟨k, by omega, b⟩) (fun y => ⟨n, by omega, y⟩), fun ⟨k, a, b⟩ => ?_⟩
    rcases Nat.lt_or_ge k n with y | y
    · exact Or.inl ⟨k, y, b⟩
    · exact Or.inr (by rw [show n = k by omega]; exact b)
theorem mUnfit_0 {M : mS} {s b u : Int32} : (¬ mUnfit M s b u = 0) = (0 < mUnfit M s b u) := by
  rcases mUnfit_in M s b u with z | z | z | z <;> rw [z] <;> decide
theorem R0_ho {W9 : xWd} {d : Nat → Nat → Nat} {S : cS} {M : mS} (hR : R0 W9 d S M) (hi : iAll M) {w x y : Nat} (hw : w < nBt M) (hx : x < 8) (hy : y < 8) : cHo S (d 9 0) (d 4 w) x y = mHoA M (nI w) x y := by
  obtain ⟨-, l2, -, -, -, l6⟩ := R0_list hR
  obtain ⟨t1, -⟩ := R0_tow hR hi hw
  have hb := hi.1.1.2
  have ew : (nI w).toNatClampNeg = w := ix_nI (by omega)
  obtain ⟨-, -, -, -, -, -, -, -, -, -, b209, -⟩ := hR.2.2.2.2.2.1 w hw
  have hsz : ∀ s, s < 7 → ∀ u, cSz S (d 9 0) (d 4 w) (lG S (d 6 0) s) u = mUnfit M (nI s) (nI w) u := fun s hs u => by rw [l6 s hs]; exact R0_sz hR hi hw hs u
  have hhr : ∀ s, s < 7 → ∀ u, cHr S (lG S (d 6 0) s) (nI (rN S (cRf S (d 4 w) 203))) u = mHrs M (nI s) (nI w) u := fun s hs u => by rw [l6 s hs, t1]; exact R0_hr hR hi hw hs u
  unfold cHo mHoA
  rw [l2]
  by_cases c : x < y
  · have eu : bi (x < y) = 1 := bi_t c
    have eu2 : bi (decide (x < y) = true) = 1 := bi_t (decide_eq_true c)
    have ed : decide (x < y) = true := decide_eq_true c
    rw [if_pos c, if_pos c, eu, ed]
    have e1 : cHb S (d 9 0) (d 6 0) (d 4 w) 1 x (y - x) = true ↔ mHb M (nI w) x true (y - x) = true := by
      rw [cHb_ex, mHb_ex]
      refine exists_congr fun j => and_congr_right fun hj => ?_
      rw [hsz (x + j) (by omega), mUnfit_0]
      rfl
    have e2 : cHs S (d 6 0) (d 4 w) 1 x (y - x) = mHs M (nI w) x true (y - x) := by
      rw [cHs_sum (g := fun j => mHrs M (nI (x + j)) (nI w) 1) (y - x) (fun j hj => hhr (x + j) (by omega) 1), mHs_sum, ew, b209]
      rfl
    rw [e2]
    by_cases q : mHb M (nI w) x true (y - x) = true
    · rw [if_pos q, if_pos (e1.mpr q)]
    · rw [if_neg q, if_neg (fun z => q (e1.mp z))]
  · have eu : bi (x < y) = 0 := bi_f c
    have ed : decide (x < y) = false := decide_eq_false c
    have hn : ∀ j, j < x - y → mSc x false j = y + (x - y - 1 - j) := fun j hj => by
      show x - 1 - j = _
      omega
    rw [if_neg c, if_neg c, eu, ed]
    have e1 : cHb S (d 9 0) (d 6 0) (d 4 w) 0 y (x - y) = true ↔ mHb M (nI w) x false (x - y) = true := by
      rw [cHb_ex, mHb_ex]
      constructor
      · rintro ⟨j, hj, z⟩
        refine ⟨x - y - 1 - j, by omega, ?_⟩
        rw [hn _ (by omega), show x - y - 1 - (x - y - 1 - j) = j by omega]
        rw [hsz (y + j) (by omega), mUnfit_0] at z
        exact z
      · rintro ⟨j, hj, z⟩
        refine ⟨x - y - 1 - j, by omega, ?_⟩
        rw [hn _ hj] at z
        rw [hsz _ (by omega), mUnfit_0]
        exact z
    have e2 : cHs S (d 6 0) (d 4 w) 0 y (x - y) = mHs M (nI w) x false (x - y) := by
      rw [cHs_sum (g := fun j => mHrs M (nI (y + j)) (nI w) 0) (x - y) (fun j hj => hhr (y + j) (by omega) 0), mHs_sum, ew, b209, mSum_rev]
      congr 1
      refine mSum_ext _ (fun j hj => ?_)
      show mHrs M (nI (y + (x - y - 1 - j))) (nI w) 0 = mHrs M (nI (mSc x false j)) (nI w) 0
      rw [hn j hj]
    rw [e2]
    by_cases q : mHb M (nI w) x false (x - y) = true
    · rw [if_pos q, if_pos (e1.mpr q)]
    · rw [if_neg q, if_neg (fun z => q (e1.mp z))]

theorem Q_hours {W9 : xWd} {B a : Nat} {S : cS} {M : mS} {k : Int32} {x : Int32} {K : xRes → cS → Prop} (h : RR W9 B a S M) (hk : ∀ r S2, ans [eB] W9 B a (oHours M k x) r S2 → K r S2) : (spX7_hours W9).2 [.ref a, .int k, .int x] S K := by
  have h0 := RR_set0 (z := 0) h
  have h00 := h0
  obtain ⟨d, np, N, hd, rfl, hi, hR, hp, hl, hN, hB⟩ := h00
  have g0 := hR.2.2.2.2.2.2.2.2.1.1
  obtain ⟨g7, g8, g9, g10, g11, g12, g13⟩ := hR.2.2.2.2.2.2.2.2.1.2.2
  have e29 : M.1 29 = nI (nBt M) := hi.1.1.1
  have e22 : M.1 22 = nI (nBg M) := hi.1.2.1.1
  have e46 : M.1 46 = nI (nCo M) := hi.1.2.2.1
  have b29 : nBt M ≤ 6 := hi.1.1.2
  have b22 : nBg M ≤ 24 := hi.1.2.1.2
  have b46 : nCo M ≤ 12 := hi.1.2.2.2
  have n29 : nBt (mSet M 0 0) = nBt M := rfl
  have n22 : nBg (mSet M 0 0) = nBg M := rfl
  have n46 : nCo (mSet M 0 0) = nCo M := rfl
  obtain ⟨f1, f2, f3, f4, f5, f6⟩ := R0_boats hR
  rw [n29] at f4 f5 f6
  obtain ⟨s1, s2, s3, s4, s5, s6⟩ := R0_list hR
  have s5 : cFi S (d 6 0) 2 = nI 7 := s5
  have hba := R0_bAll hR hi
  rw [spwX7_hours, f2, f5, s2]
  refine ⟨g0, hba, ⟨s1, s3, s4⟩, f1, f3, fun z => ?_, fun z => hk _ _ (ans_e h (z := 1) ?_ (by decide) rfl)⟩
  · have z1 : (0 ≤ k ∧ k ≤ M.1 29 - 1) := by rw [e29, le_m1 (by omega)]; exact z
    rw [idx (by omega)] at z
    obtain ⟨w, hw, rfl⟩ := z
    rw [ix_nI (by omega), f6 w hw]
    obtain ⟨b207, -, b206, b208⟩ := R0_bfld hR hw
    obtain ⟨-, -, bb⟩ := hi.2.2.2.2.2.2.1 w hw
    have est : cSt S (d 4 w) = mAt0 M (nI w) ∧ ∃ j, j < 8 ∧ mAt0 M (nI w) = nI j := by
      unfold cSt mAt0
      rw [ix_nI (by omega), b207]
      by_cases c : (mSet M 0 0).2 34 w = -1
      · have c' : M.2 34 w = -1 := c
        rw [if_pos c, if_pos c', (b206 c).1]
        obtain ⟨-, v1, -⟩ := bb.resolve_right (fun q => vin_m1 (c ▸ q.1))
        obtain ⟨j, hj, ej, -⟩ := nx_nat v1 (by omega)
        exact ⟨rfl, j, hj, ej⟩
      · have c' : ¬ M.2 34 w = -1 := c
        rw [if_neg c, if_neg c', (b208 c).2]
        obtain ⟨v1, -⟩ := bb.resolve_left (fun q => c q.1)
        obtain ⟨j, hj, ej, -⟩ := nx_nat v1 (by omega)
        have ej' : M.2 34 w = nI j := ej
        refine ⟨rfl, ?_⟩
        split
        · exact ⟨j, by omega, ej'⟩
        · exact ⟨j + 1, by omega, by rw [ej', nI1]⟩
    obtain ⟨est, j, hj, ej⟩ := est
    rw [est, ej]
    refine ⟨xin_nI hj (by omega), fun z2 => hk _ _ (ans_0 h0 (v := mHoA (mSet M 0 0) (nI w) (mAt0 M (nI w)).toNatClampNeg x.toNatClampNeg) ?_ ?_), fun z2 => hk _ _ (ans_e h (z := 1) ?_ (by decide) rfl)⟩
    · unfold oHours
      rw [if_pos ⟨z1, by rw [idx7]; exact z2⟩]
    · rw [show (8 : Int32) = nI 8 from rfl, idx (by omega)] at z2
      obtain ⟨p, hp8, rfl⟩ := z2
      rw [ej, ix_nI (show p < 1000 by omega), ix_nI (show j < 1000 by omega)]
      exact R0_ho hR hi hw hj hp8
    · unfold oHours
      rw [if_neg (fun y => z2 (by have := y.2; rw [idx7] at this; exact this))]
  · unfold oHours
    rw [if_neg (fun y => z (by rw [← le_m1 (by omega), ← e29]; exact y.1))]

