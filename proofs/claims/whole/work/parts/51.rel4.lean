/-! The relation: the story; other places for what is made. -/
def pU (S : cS) (d : Nat → Nat → Nat) (j : Nat) : Nat := (cFi S (d 11 j) 401).toNatClampNeg
def rPg (d : Nat → Nat → Nat) (S : cS) (np N : Nat) : Prop := (cK S (d 9 2) = 8 ∧ cFr S (d 9 2) 700 = some (d 11 0) ∧ cFr S (d 9 2) 701 = some (d 11 (np - 1)) ∧ cFi S (d 9 2) 702 = nI N) ∧ 0 < np ∧
  ∀ j, j < np → cK S (d 11 j) = 5 ∧ cFr S (d 11 j) 400 = some (d 12 j) ∧ cK S (d 12 j) = 11 ∧ cLen S (d 12 j) = 64 ∧ (cFi S (d 11 j) 401 = nI (pU S d j) ∧ pU S d j ≤ 64) ∧ cFr S (d 11 j) 402 = (if j + 1 < np then some (d 11 (j + 1)) else none)
/-- the latest note of one of two events, of one -/
def lq (d : Nat → Nat → Nat) (S : cS) (e f w : Int32) : Nat → Int32
  | 0 => 0
  | j + 1 => ltI S (d 12 j) e f w (lq d S e f w j) (pU S d j)
abbrev mtc (v e f w : Int32) : Prop := (v >>> (16 &&& 31) = e ∨ v >>> (16 &&& 31) = f) ∧ v >>> (8 &&& 31) &&& 255 = w
theorem rPg_pg {d : Nat → Nat → Nat} {S : cS} {np N : Nat} (h : rPg d S np N) : ∀ j, j < np → pgA S (d 9 2) j = d 11 j
  | 0, _ => by show cRf S (d 9 2) 700 = _; unfold cRf; rw [h.1.2.1]; rfl
  | j + 1, hj => by
    have ih := rPg_pg h j (by omega)
    have hn := (h.2.2 j (by omega)).2.2.2.2.2
    rw [if_pos hj] at hn
    show cRf S (pgA S (d 9 2) j) 402 = _
    rw [ih]
    unfold cRf
    rw [hn]
    rfl
theorem rPg_st {d : Nat → Nat → Nat} {S : cS} {np N : Nat} (h : rPg d S np N) : stOk S (d 9 2) np ∧ ∀ e f w, ltO S (d 9 2) e f w np = lq d S e f w np := by
  have hp := rPg_pg h
  have e4 : ∀ j, j < np → cRf S (d 11 j) 400 = d 12 j := fun j hj => by unfold cRf; rw [(h.2.2 j hj).2.1]; rfl
  refine ⟨⟨h.1.1, by unfold cRf; rw [h.1.2.1]; rfl, h.2.1, fun j hj => ?_⟩, fun e f w => ?_⟩
  · obtain ⟨a1, a2, a3, a4, a5, a6⟩ := h.2.2 j hj
    have hn : pgN S (d 9 2) j = pU S d j := by unfold pgN pU; rw [hp j hj]
    rw [hp j hj, hn]
    refine ⟨a1, ⟨by rw [e4 j hj]; exact a2, by rw [e4 j hj]; exact a3⟩, by rw [e4 j hj]; exact a4, a5.1, a5.2, ?_⟩
    rw [a6]
    by_cases c : j + 1 < np
    · rw [if_pos c, if_pos c, hp (j + 1) c]
    · rw [if_neg c, if_neg c]
  · have key : ∀ j, j ≤ np → ltO S (d 9 2) e f w j = lq d S e f w j := by
      intro j
      induction j with
      | zero => intro _; rfl
      | succ j ih =>
        intro hj
        have hn : pgN S (d 9 2) j = pU S d j := by unfold pgN pU; rw [hp j (by omega)]
        show ltI S (cRf S (pgA S (d 9 2) j) 400) e f w (ltO S (d 9 2) e f w j) (pgN S (d 9 2) j) = ltI S (d 12 j) e f w (lq d S e f w j) (pU S d j)
        rw [ih (by omega), hn, hp j (by omega), e4 j (by omega)]
    exact key np (Nat.le_refl _)
theorem rPg_L {d : Nat → Nat → Nat} {S : cS} {np N : Nat} (h : rPg d S np N) (hN : N < 8192) : stL S (d 9 2) N (d 11 (np - 1)) (pU S d (np - 1)) := by
  have hnp := h.2.1
  obtain ⟨a1, a2, a3, a4, a5, a6⟩ := h.2.2 (np - 1) (by omega)
  have e4 : cRf S (d 11 (np - 1)) 400 = d 12 (np - 1) := by unfold cRf; rw [a2]; rfl
  exact ⟨h.1.1, h.1.2.2.2, hN, h.1.2.2.1, a1, ⟨by rw [e4]; exact a2, by rw [e4]; exact a3⟩, by rw [e4]; exact a4, a5.1, a5.2⟩
theorem ltI_same {S S2 : cS} {a b : Nat} {e f w z : Int32} : ∀ n, (∀ i, i < n → cRi S2 b i = cRi S a i) → ltI S2 b e f w z n = ltI S a e f w z n
  | 0, _ => rfl
  | n + 1, h => by
    show (if (cRi S2 b n >>> (16 &&& 31) = e ∨ cRi S2 b n >>> (16 &&& 31) = f) ∧ cRi S2 b n >>> (8 &&& 31) &&& 255 = w then cRi S2 b n else ltI S2 b e f w z n) = (if (cRi S a n >>> (16 &&& 31) = e ∨ cRi S a n >>> (16 &&& 31) = f) ∧ cRi S a n >>> (8 &&& 31) &&& 255 = w then cRi S a n else ltI S a e f w z n)
    rw [h n (by omega), ltI_same n (fun i hi => h i (by omega))]
theorem lq_same {d d2 : Nat → Nat → Nat} {S S2 : cS} {e f w : Int32} : ∀ n, (∀ j, j < n → pU S2 d2 j = pU S d j ∧ cRi S2 (d2 12 j) = cRi S (d 12 j)) → lq d2 S2 e f w n = lq d S e f w n
  | 0, _ => rfl
  | n + 1, h => by
    show ltI S2 (d2 12 n) e f w (lq d2 S2 e f w n) (pU S2 d2 n) = ltI S (d 12 n) e f w (lq d S e f w n) (pU S d n)
    rw [(h n (by omega)).1, lq_same n (fun j hj => h j (by omega))]
    exact ltI_same _ (fun i _ => by rw [(h n (by omega)).2])
/-- another place for one of the kinds -/
def dSw (d : Nat → Nat → Nat) (k i q : Nat) : Nat → Nat → Nat := fun a j => if a = k ∧ j = i then q else if d a j = q then d k i else d a j
theorem dSw_at {d : Nat → Nat → Nat} {k i q : Nat} : dSw d k i q k i = q := if_pos ⟨rfl, rfl⟩
theorem dSw_ne {d : Nat → Nat → Nat} {k i q a j : Nat} (h : ¬ (a = k ∧ j = i)) (h2 : d a j ≠ q) : dSw d k i q a j = d a j := by unfold dSw; rw [if_neg h, if_neg h2]
theorem dSw_inj {d : Nat → Nat → Nat} (hd : dInj d) (k i q : Nat) : dInj (dSw d k i q) := by
  intro a b x y h
  unfold dSw at h
  by_cases c1 : a = k ∧ x = i
  · rw [if_pos c1] at h
    by_cases c2 : b = k ∧ y = i
    · exact ⟨c1.1.trans c2.1.symm, c1.2.trans c2.2.symm⟩
    · rw [if_neg c2] at h
      by_cases c3 : d b y = q
      · rw [if_pos c3, ← c3] at h
        obtain ⟨z1, z2⟩ := hd _ _ _ _ h
        exact absurd ⟨z1, z2⟩ c2
      · rw [if_neg c3] at h
        exact absurd h.symm c3
  · rw [if_neg c1] at h
    by_cases c2 : b = k ∧ y = i
    · rw [if_pos c2] at h
      by_cases c3 : d a x = q
      · rw [if_pos c3, ← c3] at h
        obtain ⟨z1, z2⟩ := hd _ _ _ _ h
        exact absurd ⟨z1.symm, z2.symm⟩ c1
      · rw [if_neg c3] at h
        exact absurd h c3
    · rw [if_neg c2] at h
      by_cases c3 : d a x = q
      · rw [if_pos c3] at h
        by_cases c4 : d b y = q
        · rw [if_pos c4] at h
          exact hd _ _ _ _ (c3.trans c4.symm)
        · rw [if_neg c4] at h
          obtain ⟨z1, z2⟩ := hd _ _ _ _ h
          exact absurd ⟨z1.symm, z2.symm⟩ c2
      · rw [if_neg c3] at h
        by_cases c4 : d b y = q
        · rw [if_pos c4] at h
          obtain ⟨z1, z2⟩ := hd _ _ _ _ h
          exact absurd ⟨z1, z2⟩ c1
        · rw [if_neg c4] at h
          exact hd _ _ _ _ h
/-- telling: one note more -/
theorem rPg_tell {d : Nat → Nat → Nat} {S S2 : cS} {np N : Nat} {v : Int32} (hd : dInj d) (h : rPg d S np N) (hT : tlR S (d 9 2) N (d 11 (np - 1)) (pU S d (np - 1)) v S2) :
    ∃ d2 np2, dInj d2 ∧ (∀ k i, ¬ cDead S (d k i) → ¬ ((k = 11 ∨ k = 12) ∧ np ≤ i) → d2 k i = d k i) ∧ rPg d2 S2 np2 (N + 1) ∧ (∀ e f w, lq d2 S2 e f w np2 = if mtc v e f w then v else lq d S e f w np) ∧ pU S2 d2 (np2 - 1) = (if pU S d (np - 1) < 64 then pU S d (np - 1) + 1 else 1) := by
  have hnp := h.2.1
  obtain ⟨x, hx⟩ : ∃ x, np = x + 1 := ⟨np - 1, by omega⟩
  subst hx
  rw [Nat.add_sub_cancel] at hT ⊢
  obtain ⟨b1, b2, b3, b4, b5, b6⟩ := h.2.2 x (by omega)
  have e4 : cRf S (d 11 x) 400 = d 12 x := by unfold cRf; rw [b2]; rfl
  have n1 : ∀ j, d 11 j ≠ d 9 2 := fun j => hd.ne (by omega)
  have n2 : ∀ j, d 12 j ≠ d 9 2 := fun j => hd.ne (by omega)
  have n3 : ∀ i j, d 11 i ≠ d 12 j := fun i j => hd.ne (by omega)
  rcases hT with ⟨hu, rfl⟩ | ⟨hu, q, q2, d1, d2x, rfl⟩
  · unfold cTl1
    rw [e4]
    have hU : ∀ j, pU (cSetI (cSetI (cAst S (d 12 x) (pU S d x) v) (d 11 x) 401 (nI (pU S d x + 1))) (d 9 2) 702 (nI (N + 1))) d j = if j = x then pU S d x + 1 else pU S d j := fun j => by
      unfold pU
      rw [cFi_setI, if_neg (fun z => n1 j z.1), cFi_setI]
      by_cases c : j = x
      · subst c
        rw [if_pos ⟨rfl, rfl⟩, if_pos rfl, nI_clamp (by show (cFi S (d 11 j) 401).toNatClampNeg + 1 < 2 ^ 31; have : (cFi S (d 11 j) 401).toNatClampNeg < 64 := hu; omega)]
      · rw [if_neg (fun z => hd.ne2 c z.1), if_neg c, cFi_ast]
    refine ⟨d, x + 1, hd, fun _ _ _ _ => rfl, ⟨⟨h.1.1, h.1.2.1, h.1.2.2.1, by rw [cFi_setI, if_pos ⟨rfl, rfl⟩]⟩, by omega, fun j hj => ?_⟩, fun e f w => ?_, by rw [Nat.add_sub_cancel, hU x, if_pos rfl, if_pos hu]⟩
    · obtain ⟨a1, a2, a3, a4, a5, a6⟩ := h.2.2 j hj
      refine ⟨a1, a2, a3, a4, ?_, a6⟩
      rw [hU j, cFi_setI, if_neg (fun z => n1 j z.1), cFi_setI]
      by_cases c : j = x
      · subst c
        rw [if_pos ⟨rfl, rfl⟩, if_pos rfl]
        exact ⟨rfl, hu⟩
      · rw [if_neg (fun z => hd.ne2 c z.1), if_neg c]
        exact a5
    · have hold : lq d (cSetI (cSetI (cAst S (d 12 x) (pU S d x) v) (d 11 x) 401 (nI (pU S d x + 1))) (d 9 2) 702 (nI (N + 1))) e f w x = lq d S e f w x := lq_same x (fun j hj => ⟨by rw [hU j, if_neg (by omega)], by
        funext i
        rw [cRi_setI, cRi_setI, cRi_ast, if_neg (fun z => hd.ne2 (show j ≠ x by omega) z.1)]⟩)
      show ltI _ (d 12 x) e f w (lq d _ e f w x) (pU _ d x) = _
      rw [hold, hU x, if_pos rfl]
      have hat : cRi (cSetI (cSetI (cAst S (d 12 x) (pU S d x) v) (d 11 x) 401 (nI (pU S d x + 1))) (d 9 2) 702 (nI (N + 1))) (d 12 x) (pU S d x) = v := by rw [cRi_setI, cRi_setI, cRi_ast, if_pos ⟨rfl, rfl⟩]
      show (if (cRi _ (d 12 x) (pU S d x) >>> (16 &&& 31) = e ∨ cRi _ (d 12 x) (pU S d x) >>> (16 &&& 31) = f) ∧ cRi _ (d 12 x) (pU S d x) >>> (8 &&& 31) &&& 255 = w then cRi _ (d 12 x) (pU S d x) else ltI _ (d 12 x) e f w (lq d S e f w x) (pU S d x)) = if mtc v e f w then v else ltI S (d 12 x) e f w (lq d S e f w x) (pU S d x)
      have hI : ltI (cSetI (cSetI (cAst S (d 12 x) (pU S d x) v) (d 11 x) 401 (nI (pU S d x + 1))) (d 9 2) 702 (nI (N + 1))) (d 12 x) e f w (lq d S e f w x) (pU S d x) = ltI S (d 12 x) e f w (lq d S e f w x) (pU S d x) := ltI_same (pU S d x) (fun i hi => by rw [cRi_setI, cRi_setI, cRi_ast, if_neg (fun z => by omega)])
      rw [hat, hI]
  · unfold cTl2 cPg
    obtain ⟨m1, m2⟩ := (dead_nO (by omega)).mp d2x
    have hI2 := dSw_inj (dSw_inj hd 11 (x + 1) q) 12 (x + 1) q2
    have hlv : ∀ k i, ¬ cDead S (d k i) → ¬ ((k = 11 ∨ k = 12) ∧ x + 1 ≤ i) → dSw (dSw d 11 (x + 1) q) 12 (x + 1) q2 k i = d k i := fun k i hl hk => by
      have z1 : dSw d 11 (x + 1) q k i = d k i := dSw_ne (fun z => hk ⟨Or.inl z.1, by omega⟩) (live_ne hl d1)
      rw [dSw_ne (fun z => hk ⟨Or.inr z.1, by omega⟩) (by rw [z1]; exact live_ne hl m2), z1]
    have hq : dSw (dSw d 11 (x + 1) q) 12 (x + 1) q2 11 (x + 1) = q := by
      have z1 : dSw d 11 (x + 1) q 11 (x + 1) = q := dSw_at
      rw [dSw_ne (fun z => by omega) (by rw [z1]; exact m1.symm), z1]
    have hq2 : dSw (dSw d 11 (x + 1) q) 12 (x + 1) q2 12 (x + 1) = q2 := dSw_at
    generalize hd2 : dSw (dSw d 11 (x + 1) q) 12 (x + 1) q2 = d2 at *
    have l92 : ¬ cDead S (d 9 2) := live_of h.1.1 (by omega)
    have l11 : ∀ j, j < x + 1 → ¬ cDead S (d 11 j) := fun j hj => live_of (h.2.2 j hj).1 (by omega)
    have l12 : ∀ j, j < x + 1 → ¬ cDead S (d 12 j) := fun j hj => live_of (h.2.2 j hj).2.2.1 (by omega)
    have g92 : d2 9 2 = d 9 2 := hlv 9 2 l92 (fun z => by omega)
    have g11 : ∀ j, j < x + 1 → d2 11 j = d 11 j := fun j hj => hlv 11 j (l11 j hj) (fun z => by omega)
    have g12 : ∀ j, j < x + 1 → d2 12 j = d 12 j := fun j hj => hlv 12 j (l12 j hj) (fun z => by omega)
    have a92 : d 9 2 ≠ q := live_ne l92 d1
    have a92b : d 9 2 ≠ q2 := live_ne l92 m2
    have a11 : ∀ j, j < x + 1 → d 11 j ≠ q := fun j hj => live_ne (l11 j hj) d1
    have a11b : ∀ j, j < x + 1 → d 11 j ≠ q2 := fun j hj => live_ne (l11 j hj) m2
    have a12 : ∀ j, j < x + 1 → d 12 j ≠ q := fun j hj => live_ne (l12 j hj) d1
    have a12b : ∀ j, j < x + 1 → d 12 j ≠ q2 := fun j hj => live_ne (l12 j hj) m2
    generalize hS2 : cSetI (cSetI (cAst (cSetR (cSetR (cSetR (cNewI (cNewO S q 4) q2 0 64) q 400 (some q2)) (d 11 x) 402 (some q)) (d 9 2) 701 (some q)) q2 0 v) q 401 (nI (0 + 1))) (d 9 2) 702 (nI (N + 1)) = S2 at *
    have kk : ∀ b, b ≠ q → b ≠ q2 → cK S2 b = cK S b := fun b y1 y2 => by rw [← hS2, cK_setI, cK_setI, cK_ast, cK_setR, cK_setR, cK_setR, cK_newI, if_neg y2, cK_newO, if_neg y1]
    have ki : ∀ b g, b ≠ q → b ≠ d 9 2 → cFi S2 b g = cFi S b g := fun b g y1 y2 => by rw [← hS2, cFi_setI, if_neg (fun z => y2 z.1), cFi_setI, if_neg (fun z => y1 z.1), cFi_ast, cFi_setR, cFi_setR, cFi_setR, cFi_newI, cFi_newO, if_neg y1]
    have kl : ∀ b, b ≠ q2 → cLen S2 b = cLen S b := fun b y => by rw [← hS2, cLen_setI, cLen_setI, cLen_ast, cLen_setR, cLen_setR, cLen_setR, cLen_newI, if_neg y, cLen_newO]
    have kr : ∀ b, b ≠ q2 → cRi S2 b = cRi S b := fun b y => by funext i; rw [← hS2, cRi_setI, cRi_setI, cRi_ast, if_neg (fun z => y z.1), cRi_setR, cRi_setR, cRi_setR, cRi_newI, if_neg y, cRi_newO]
    have kf : ∀ b g, b ≠ q → ¬ (b = d 11 x ∧ g = 402) → ¬ (b = d 9 2 ∧ g = 701) → cFr S2 b g = cFr S b g := fun b g y1 y2 y3 => by rw [← hS2, cFr_setI, cFr_setI, cFr_ast, cFr_setR, if_neg y3, cFr_setR, if_neg y2, cFr_setR, if_neg (fun z => y1 z.1), cFr_newI, cFr_newO, if_neg y1]
    have f1 : cFr S2 (d 11 x) 402 = some q := by rw [← hS2, cFr_setI, cFr_setI, cFr_ast, cFr_setR, if_neg (fun z => n1 x z.1), cFr_setR, if_pos ⟨rfl, rfl⟩]
    have f2 : cFr S2 (d 9 2) 701 = some q := by rw [← hS2, cFr_setI, cFr_setI, cFr_ast, cFr_setR, if_pos ⟨rfl, rfl⟩]
    have f3 : cFi S2 (d 9 2) 702 = nI (N + 1) := by rw [← hS2, cFi_setI, if_pos ⟨rfl, rfl⟩]
    have p1 : cK S2 q = 5 := by rw [← hS2, cK_setI, cK_setI, cK_ast, cK_setR, cK_setR, cK_setR, cK_newI, if_neg m1.symm, cK_newO, if_pos rfl]
    have p2 : cFr S2 q 400 = some q2 := by rw [← hS2, cFr_setI, cFr_setI, cFr_ast, cFr_setR, if_neg (fun z => a92 z.1.symm), cFr_setR, if_neg (fun z => a11 x (by omega) z.1.symm), cFr_setR, if_pos ⟨rfl, rfl⟩]
    have p3 : cK S2 q2 = 11 := by rw [← hS2, cK_setI, cK_setI, cK_ast, cK_setR, cK_setR, cK_setR, cK_newI, if_pos rfl]
    have p4 : cLen S2 q2 = 64 := by rw [← hS2, cLen_setI, cLen_setI, cLen_ast, cLen_setR, cLen_setR, cLen_setR, cLen_newI, if_pos rfl]
    have p5 : cFi S2 q 401 = nI 1 := by rw [← hS2, cFi_setI, if_neg (fun z => a92 z.1.symm), cFi_setI, if_pos ⟨rfl, rfl⟩]
    have p6 : cFr S2 q 402 = none := by rw [← hS2, cFr_setI, cFr_setI, cFr_ast, cFr_setR, if_neg (fun z => a92 z.1.symm), cFr_setR, if_neg (fun z => a11 x (by omega) z.1.symm), cFr_setR, if_neg (fun z => by omega), cFr_newI, cFr_newO, if_pos rfl]
    have p7 : cRi S2 q2 0 = v := by rw [← hS2, cRi_setI, cRi_setI, cRi_ast, if_pos ⟨rfl, rfl⟩]
    have hU : ∀ j, j < x + 1 → pU S2 d2 j = pU S d j := fun j hj => by unfold pU; rw [g11 j hj, ki _ _ (a11 j hj) (n1 j)]
    have hU1 : pU S2 d2 (x + 1) = 1 := by unfold pU; rw [hq, p5, nI_clamp (by omega)]
    refine ⟨d2, x + 2, hI2, hlv, ⟨⟨by rw [g92, kk _ a92 a92b]; exact h.1.1, ?_, by rw [g92, f2, show x + 2 - 1 = x + 1 by omega, hq], by rw [g92]; exact f3⟩, by omega, fun j hj => ?_⟩, fun e f w => ?_, by rw [show x + 2 - 1 = x + 1 by omega, hU1, hu]; rfl⟩
    · rw [g92, kf _ _ a92 (fun z => n1 x z.1.symm) (fun z => by omega), g11 0 (by omega)]
      exact h.1.2.1
    · by_cases c : j = x + 1
      · subst c
        rw [hq, hq2, hU1]
        exact ⟨p1, p2, p3, p4, ⟨p5, by omega⟩, by rw [if_neg (by omega)]; exact p6⟩
      · have hj1 : j < x + 1 := by omega
        obtain ⟨a1, a2, a3, a4, a5, a6⟩ := h.2.2 j hj1
        rw [g11 j hj1, g12 j hj1, hU j hj1]
        refine ⟨by rw [kk _ (a11 j hj1) (a11b j hj1)]; exact a1, by rw [kf _ _ (a11 j hj1) (fun z => by omega) (fun z => n1 j z.1)]; exact a2, by rw [kk _ (a12 j hj1) (a12b j hj1)]; exact a3, by rw [kl _ (a12b j hj1)]; exact a4, by rw [ki _ _ (a11 j hj1) (n1 j)]; exact a5, ?_⟩
        rw [if_pos (by omega)]
        by_cases c2 : j = x
        · subst c2
          rw [f1, hq]
        · rw [kf _ _ (a11 j hj1) (fun z => hd.ne2 c2 z.1) (fun z => by omega), a6, if_pos (by omega), g11 (j + 1) (by omega)]
    · have hold : lq d2 S2 e f w (x + 1) = lq d S e f w (x + 1) := lq_same (x + 1) (fun j hj => ⟨hU j hj, by rw [g12 j hj, kr _ (a12b j hj)]⟩)
      show ltI S2 (d2 12 (x + 1)) e f w (lq d2 S2 e f w (x + 1)) (pU S2 d2 (x + 1)) = _
      rw [hold, hU1, hq2]
      show (if (cRi S2 q2 0 >>> (16 &&& 31) = e ∨ cRi S2 q2 0 >>> (16 &&& 31) = f) ∧ cRi S2 q2 0 >>> (8 &&& 31) &&& 255 = w then cRi S2 q2 0 else lq d S e f w (x + 1)) = _
      rw [p7]
theorem note_dec : ∀ e, e < 4 → ∀ w, w < 24 → ∀ p, p < 8 → cNote (nI e) (nI w) (nI p) >>> (16 &&& 31) = nI e ∧ cNote (nI e) (nI w) (nI p) >>> (8 &&& 31) &&& 255 = nI w ∧ cNote (nI e) (nI w) (nI p) &&& 255 = nI p := by decide +kernel
