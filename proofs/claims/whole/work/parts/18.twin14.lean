/-! The twin's constructor, over the states of the class. -/
def cLive (S : cS) (a : Nat) : Prop := 1 ≤ cK S a ∧ cK S a ≤ 13
/-- what was there before stays, but for the references that the object a holds -/
def mFr (S S2 : cS) (a : Nat) : Prop := ∀ b, cLive S b → cK S2 b = cK S b ∧ cLen S2 b = cLen S b ∧ (∀ x, cRi S2 b x = cRi S b x) ∧ (∀ x, cRr S2 b x = cRr S b x) ∧ (∀ h, cFi S2 b h = cFi S b h) ∧ (b ≠ a → ∀ h, cFr S2 b h = cFr S b h)
def mP (S : cS) (a i : Nat) (S2 : cS) : Prop := cK S2 a = 10 ∧ mFr S S2 a ∧ ∃ g : Nat → Nat, ∀ j, j < i → ∀ k z n, mArr[j]? = some (k, z, n) → cFr S2 a (900 + k) = some (g j) ∧ cK S2 (g j) = 11 + z ∧ cLen S2 (g j) = n ∧ (∀ x, cRi S2 (g j) x = 0) ∧ ¬ cLive S (g j) ∧ (∀ j2, j2 < j → g j2 ≠ g j)
theorem mArr_z : ∀ j k z n, mArr[j]? = some (k, z, n) → z ≤ 1 := by
  intro j k z n h
  have hm := List.mem_of_getElem? h
  have q : mArr.all (fun t => decide (t.2.1 ≤ 1)) = true := by decide +kernel
  have := List.all_eq_true.mp q _ hm
  simpa using this
theorem mArr_k : ∀ i j k z n k2 z2 n2, mArr[i]? = some (k, z, n) → mArr[j]? = some (k2, z2, n2) → i ≠ j → k ≠ k2 := by
  intro i j k z n k2 z2 n2 h1 h2 hne e
  subst e
  have q : (mArr.map (fun t => t.1)).Pairwise (· ≠ ·) := by decide +kernel
  rw [List.pairwise_iff_getElem] at q
  have l1 : i < mArr.length := by rcases Nat.lt_or_ge i mArr.length with z | z; exact z; rw [List.getElem?_eq_none z] at h1; cases h1
  have l2 : j < mArr.length := by rcases Nat.lt_or_ge j mArr.length with z | z; exact z; rw [List.getElem?_eq_none z] at h2; cases h2
  rw [List.getElem?_eq_getElem l1] at h1
  rw [List.getElem?_eq_getElem l2] at h2
  cases h1e : mArr[i] with
  | mk k1 r1 =>
    cases h2e : mArr[j] with
    | mk k3 r3 =>
      rw [h1e] at h1
      rw [h2e] at h2
      cases h1
      cases h2
      rcases Nat.lt_or_ge i j with z | z
      · have := q i j (by simpa using l1) (by simpa using l2) z
        simp [h1e, h2e] at this
      · have := q j i (by simpa using l2) (by simpa using l1) (by omega)
        simp [h1e, h2e] at this
theorem mP_k {S S2 : cS} {a i q z n : Nat} (h : mP S a i S2) (hq : ¬ (1 ≤ cK S2 q ∧ cK S2 q ≤ 13)) : cK (cNewI S2 q z n) a = 10 := by
  have hne : a ≠ q := fun e => hq (by rw [← e, h.1]; omega)
  show (if a = q then 11 + z else cK S2 a) = 10
  rw [if_neg hne]
  exact h.1
theorem mP_step {S S2 : cS} {a i q k z n : Nat} (h : mP S a i S2) (hq : ¬ (1 ≤ cK S2 q ∧ cK S2 q ≤ 13)) (ha : mArr[i]? = some (k, z, n)) : mP S a (i + 1) (cSetR (cNewI S2 q z n) a (900 + k) (some q)) := by
  obtain ⟨h1, h2, g, hg⟩ := h
  have hqa : a ≠ q := fun e => hq (by rw [← e, h1]; omega)
  have hz := mArr_z i k z n ha
  have fresh : ¬ cLive S q := fun hl => hq (by have := (h2 q hl).1; rw [this]; exact hl)
  have gq : ∀ j, j < i → ∀ k z n, mArr[j]? = some (k, z, n) → g j ≠ q := by
    intro j hj k z n hm e
    have := (hg j hj k z n hm).2.1
    have hz := mArr_z j k z n hm
    rw [e] at this
    exact hq (by omega)
  refine ⟨?_, ?_, fun j => if j = i then q else g j, ?_⟩
  · show (if a = q then 11 + z else cK S2 a) = 10
    rw [if_neg hqa]
    exact h1
  · intro b hb
    have hbq : b ≠ q := fun e => fresh (e ▸ hb)
    obtain ⟨p1, p2, p3, p4, p5, p6⟩ := h2 b hb
    refine ⟨?_, ?_, fun x => ?_, p4, p5, fun hba h => ?_⟩
    · show (if b = q then 11 + z else cK S2 b) = _
      rw [if_neg hbq]; exact p1
    · show (if b = q then n else cLen S2 b) = _
      rw [if_neg hbq]; exact p2
    · show (if b = q then 0 else cRi S2 b x) = _
      rw [if_neg hbq]; exact p3 x
    · show (if b = a ∧ h = 900 + k then some q else cFr S2 b h) = _
      rw [if_neg (fun e => hba e.1)]; exact p6 hba h
  · intro j hj k2 z2 n2 hm
    by_cases e : j = i
    · subst e
      rw [ha] at hm
      cases hm
      simp only [if_true]
      refine ⟨?_, ?_, ?_, fun x => ?_, fresh, fun j2 hj2 => ?_⟩
      · show (if a = a ∧ 900 + k = 900 + k then some q else _) = _
        rw [if_pos ⟨rfl, rfl⟩]
      · show (if q = q then 11 + z else _) = _
        rw [if_pos rfl]
      · show (if q = q then n else _) = _
        rw [if_pos rfl]
      · show (if q = q then 0 else _) = _
        rw [if_pos rfl]
      · rw [if_neg (by omega)]
        have l1 : j < mArr.length := by rcases Nat.lt_or_ge j mArr.length with z | z; exact z; rw [List.getElem?_eq_none z] at ha; cases ha
        cases hz2 : mArr[j2]? with
        | none => rw [List.getElem?_eq_none_iff] at hz2; omega
        | some t => exact gq j2 hj2 t.1 t.2.1 t.2.2 hz2
    · have hj' : j < i := by omega
      obtain ⟨p1, p2, p3, p4, p5, p6⟩ := hg j hj' k2 z2 n2 hm
      have hne := gq j hj' k2 z2 n2 hm
      have hk := mArr_k j i k2 z2 n2 k z n hm ha e
      simp only [if_neg e]
      refine ⟨?_, ?_, ?_, fun x => ?_, p5, fun j2 hj2 => ?_⟩
      · show (if a = a ∧ 900 + k2 = 900 + k then some q else cFr S2 a (900 + k2)) = _
        rw [if_neg (by omega)]; exact p1
      · show (if g j = q then 11 + z else cK S2 (g j)) = _
        rw [if_neg hne]; exact p2
      · show (if g j = q then n else cLen S2 (g j)) = _
        rw [if_neg hne]; exact p3
      · show (if g j = q then 0 else cRi S2 (g j) x) = _
        rw [if_neg hne]; exact p4 x
      · rw [if_neg (by omega)]; exact p6 j2 hj2
