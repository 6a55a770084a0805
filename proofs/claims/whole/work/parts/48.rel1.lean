/-! The relation between the class's objects and the reference's rows: components, and what keeps them. d: the objects' places, by kind and number; kinds: 0 sections, 1 tiers, 2 barges, 3 contracts, 4 boats, 5 tows, 6 the five lists, 7 tiers' lists, 8 tows' lists, 9 the whole, its row of hours, the story, 10 waits, 11 pages, 12 pages' notes. -/
/-- an object is as it was, but for lists' own fields -/
def sm (S S2 : cS) (b : Nat) : Prop := cK S2 b = cK S b ∧ (∀ g, 2 < g → cFi S2 b g = cFi S b g) ∧ (∀ g, 2 < g → cFr S2 b g = cFr S b g) ∧ cLen S2 b = cLen S b ∧ cRi S2 b = cRi S b
theorem sm.rf {S : cS} {b : Nat} : sm S S b := ⟨rfl, fun _ _ => rfl, fun _ _ => rfl, rfl, rfl⟩
theorem sm.trans {S S1 S2 : cS} {b : Nat} (h : sm S S1 b) (k : sm S1 S2 b) : sm S S2 b := ⟨k.1.trans h.1, fun g hg => (k.2.1 g hg).trans (h.2.1 g hg), fun g hg => (k.2.2.1 g hg).trans (h.2.2.1 g hg), k.2.2.2.1.trans h.2.2.2.1, k.2.2.2.2.trans h.2.2.2.2⟩
theorem fr1.sm {S S2 : cS} {b : Nat} (h : fr1 S S2) (hb : ¬ cDead S b) : sm S S2 b := ⟨h.1 b hb, fun g hg => h.2.1 b g hg hb, fun g hg => h.2.2.1 b g hg hb, h.2.2.2.1 b hb, h.2.2.2.2 b hb⟩
theorem sm_sI {S : cS} {q g b : Nat} {x : Int32} (h : b ≠ q) : sm S (cSetI S q g x) b := ⟨rfl, fun k _ => by rw [cFi_setI, if_neg (fun z => h z.1)], fun _ _ => rfl, rfl, rfl⟩
theorem sm_sR {S : cS} {q g b : Nat} {r : Option Nat} (h : b ≠ q) : sm S (cSetR S q g r) b := ⟨rfl, fun _ _ => rfl, fun k _ => by rw [cFr_setR, if_neg (fun z => h z.1)], rfl, rfl⟩
theorem sm_ast {S : cS} {q j b : Nat} {x : Int32} (h : b ≠ q) : sm S (cAst S q j x) b := ⟨rfl, fun _ _ => rfl, fun _ _ => rfl, rfl, by funext i; rw [cRi_ast, if_neg (fun z => h z.1)]⟩
theorem sm.sI {S S1 : cS} {q g b : Nat} {x : Int32} (h : sm S S1 b) (k : b ≠ q) : sm S (cSetI S1 q g x) b := h.trans (sm_sI k)
theorem sm.sR {S S1 : cS} {q g b : Nat} {r : Option Nat} (h : sm S S1 b) (k : b ≠ q) : sm S (cSetR S1 q g r) b := h.trans (sm_sR k)
theorem sm.ast {S S1 : cS} {q j b : Nat} {x : Int32} (h : sm S S1 b) (k : b ≠ q) : sm S (cAst S1 q j x) b := h.trans (sm_ast k)
theorem mAst_ne {M : mS} {k i j : Nat} {x : Int32} (h : j ≠ k) : (mAst M k i x).2 j = M.2 j := by funext n; rw [mAst_2]; exact if_neg (fun z => h z.1)
theorem mAst_eq {M : mS} {k i n : Nat} {x : Int32} : (mAst M k i x).2 k n = if n = i then x else M.2 k n := by
  rw [mAst_2]
  show (if k = k ∧ n = i then x else M.2 k n) = _
  by_cases c : n = i
  · rw [if_pos ⟨rfl, c⟩, if_pos c]
  · rw [if_neg (fun z => c z.2), if_neg c]
theorem mSet_ne {M : mS} {k j : Nat} {x : Int32} (h : j ≠ k) : (mSet M k x).1 j = M.1 j := by rw [mSet_1]; exact if_neg h
theorem mSet_eq {M : mS} {k : Nat} {x : Int32} : (mSet M k x).1 k = x := by rw [mSet_1]; exact if_pos rfl
theorem mInB_eq {M M2 : mS} (h4 : M2.2 24 = M.2 24) (h5 : M2.2 25 = M.2 25) (c : Int32) : ∀ n, mInB M2 c n = mInB M c n
  | 0 => rfl
  | n + 1 => by
    show mInB M2 c n + (if M2.2 25 n = c then M2.2 24 n else 0) = mInB M c n + (if M.2 25 n = c then M.2 24 n else 0)
    rw [mInB_eq h4 h5 c n, h4, h5]
def dInj (d : Nat → Nat → Nat) : Prop := ∀ a b i j, d a i = d b j → a = b ∧ i = j
theorem dInj.ne {d : Nat → Nat → Nat} (h : dInj d) {a b i j : Nat} (k : a ≠ b) : d a i ≠ d b j := fun z => k (h _ _ _ _ z).1
theorem dInj.ne2 {d : Nat → Nat → Nat} (h : dInj d) {a i j : Nat} (k : i ≠ j) : d a i ≠ d a j := fun z => k (h _ _ _ _ z).2
/-- the places of what lives stay -/
def dLv (S : cS) (d d2 : Nat → Nat → Nat) : Prop := ∀ k i, ¬ cDead S (d k i) → d2 k i = d k i
def nW (M : mS) (w : Nat) : Nat := (M.2 42 w).toNatClampNeg

def rSec (d : Nat → Nat → Nat) (S : cS) (M : mS) : Prop := ∀ s, s < 7 → cK S (d 0 s) = 7 ∧ cFi S (d 0 s) 600 = nI s ∧ cFi S (d 0 s) 601 = M.2 6 s ∧ cFi S (d 0 s) 602 = M.2 7 s ∧ cFi S (d 0 s) 603 = M.2 8 s ∧ cFi S (d 0 s) 604 = M.2 5 s ∧ cFi S (d 0 s) 605 = M.2 9 s ∧ cFi S (d 0 s) 606 = M.2 10 s ∧ cFi S (d 0 s) 607 = (if M.2 5 s = 0 then M.2 11 s else 0) ∧ cFi S (d 0 s) 608 = M.2 12 s ∧ cFi S (d 0 s) 609 = M.2 13 s ∧ cFi S (d 0 s) 610 = M.2 14 s ∧ (¬ M.2 5 s = 0 → cFi S (d 0 s) 611 = M.2 15 s) ∧ (¬ M.2 5 s = 0 → cFi S (d 0 s) 612 = M.2 16 s)

theorem rSec.mono {d : Nat → Nat → Nat} {S S2 : cS} {M M2 : mS} (h : rSec d S M) (hs : ∀ s, s < 7 → sm S S2 (d 0 s)) (m5 : M2.2 5 = M.2 5) (m6 : M2.2 6 = M.2 6) (m7 : M2.2 7 = M.2 7) (m8 : M2.2 8 = M.2 8) (m9 : M2.2 9 = M.2 9) (m10 : M2.2 10 = M.2 10) (m11 : M2.2 11 = M.2 11) (m12 : M2.2 12 = M.2 12) (m13 : M2.2 13 = M.2 13) (m14 : M2.2 14 = M.2 14) (m15 : M2.2 15 = M.2 15) (m16 : M2.2 16 = M.2 16)  : rSec d S2 M2 := by
  intro s hv
  obtain ⟨h0, h600, h601, h602, h603, h604, h605, h606, h607, h608, h609, h610, h611, h612⟩ := h s hv
  have k := hs s hv
  exact ⟨k.1.trans h0, (k.2.1 600 (by omega)).trans h600, by rw [m6]; exact (k.2.1 601 (by omega)).trans h601, by rw [m7]; exact (k.2.1 602 (by omega)).trans h602, by rw [m8]; exact (k.2.1 603 (by omega)).trans h603, by rw [m5]; exact (k.2.1 604 (by omega)).trans h604, by rw [m9]; exact (k.2.1 605 (by omega)).trans h605, by rw [m10]; exact (k.2.1 606 (by omega)).trans h606, by rw [m5, m11]; exact (k.2.1 607 (by omega)).trans h607, by rw [m12]; exact (k.2.1 608 (by omega)).trans h608, by rw [m13]; exact (k.2.1 609 (by omega)).trans h609, by rw [m14]; exact (k.2.1 610 (by omega)).trans h610, fun z => by rw [m15]; exact (k.2.1 611 (by omega)).trans (h611 (by rw [m5] at z; exact z)), fun z => by rw [m16]; exact (k.2.1 612 (by omega)).trans (h612 (by rw [m5] at z; exact z))⟩

def rTie (d : Nat → Nat → Nat) (S : cS) (M : mS) : Prop := ∀ t, t < 16 → cK S (d 1 t) = 6 ∧ cFi S (d 1 t) 500 = -1 ∧ cFi S (d 1 t) 501 = nI (t / 2) ∧ cFi S (d 1 t) 502 = nI (t % 2) ∧ cFi S (d 1 t) 503 = M.2 17 t ∧ cFr S (d 1 t) 505 = some (d 7 t)

theorem rTie.mono {d : Nat → Nat → Nat} {S S2 : cS} {M M2 : mS} (h : rTie d S M) (hs : ∀ t, t < 16 → sm S S2 (d 1 t)) (m17 : M2.2 17 = M.2 17)  : rTie d S2 M2 := by
  intro t hv
  obtain ⟨h0, h500, h501, h502, h503, h505⟩ := h t hv
  have k := hs t hv
  exact ⟨k.1.trans h0, (k.2.1 500 (by omega)).trans h500, (k.2.1 501 (by omega)).trans h501, (k.2.1 502 (by omega)).trans h502, by rw [m17]; exact (k.2.1 503 (by omega)).trans h503, (k.2.2.1 505 (by omega)).trans h505⟩

def rTow (d : Nat → Nat → Nat) (S : cS) (M : mS) : Prop := ∀ w, w < nBt M → cK S (d 5 w) = 6 ∧ cFi S (d 5 w) 500 = nI w ∧ cFi S (d 5 w) 501 = -1 ∧ cFi S (d 5 w) 502 = -1 ∧ cFi S (d 5 w) 503 = 12 ∧ cFi S (d 5 w) 504 = M.2 40 w ∧ cFr S (d 5 w) 505 = some (d 8 w)

theorem rTow.mono {d : Nat → Nat → Nat} {S S2 : cS} {M M2 : mS} (h : rTow d S M) (hs : ∀ w, w < nBt M → sm S S2 (d 5 w)) (m40 : M2.2 40 = M.2 40) (c29 : M2.1 29 = M.1 29) : rTow d S2 M2 := by
  intro w hv
  have nb : nBt M2 = nBt M := by unfold nBt; rw [c29]
  rw [nb] at hv
  obtain ⟨h0, h500, h501, h502, h503, h504, h505⟩ := h w hv
  have k := hs w hv
  exact ⟨k.1.trans h0, (k.2.1 500 (by omega)).trans h500, (k.2.1 501 (by omega)).trans h501, (k.2.1 502 (by omega)).trans h502, (k.2.1 503 (by omega)).trans h503, by rw [m40]; exact (k.2.1 504 (by omega)).trans h504, (k.2.2.1 505 (by omega)).trans h505⟩

def rBar (d : Nat → Nat → Nat) (S : cS) (M : mS) : Prop := ∀ g, g < nBg M → cK S (d 2 g) = 2 ∧ cFi S (d 2 g) 100 = nI g ∧ cFi S (d 2 g) 101 = M.2 23 g ∧ cFr S (d 2 g) 102 = some (if M.2 28 g = -1 then d 1 (M.2 27 g).toNatClampNeg else d 5 (M.2 28 g).toNatClampNeg) ∧ cFi S (d 2 g) 103 = M.2 24 g ∧ cFr S (d 2 g) 104 = (if M.2 25 g = -1 then none else some (d 3 (M.2 25 g).toNatClampNeg)) ∧ cFi S (d 2 g) 105 = M.2 26 g

theorem rBar.mono {d : Nat → Nat → Nat} {S S2 : cS} {M M2 : mS} (h : rBar d S M) (hs : ∀ g, g < nBg M → sm S S2 (d 2 g)) (m23 : M2.2 23 = M.2 23) (m24 : M2.2 24 = M.2 24) (m25 : M2.2 25 = M.2 25) (m26 : M2.2 26 = M.2 26) (m27 : M2.2 27 = M.2 27) (m28 : M2.2 28 = M.2 28) (c22 : M2.1 22 = M.1 22) : rBar d S2 M2 := by
  intro g hv
  have nb : nBg M2 = nBg M := by unfold nBg; rw [c22]
  rw [nb] at hv
  obtain ⟨h0, h100, h101, h102, h103, h104, h105⟩ := h g hv
  have k := hs g hv
  exact ⟨k.1.trans h0, (k.2.1 100 (by omega)).trans h100, by rw [m23]; exact (k.2.1 101 (by omega)).trans h101, by rw [m27, m28]; exact (k.2.2.1 102 (by omega)).trans h102, by rw [m24]; exact (k.2.1 103 (by omega)).trans h103, by rw [m25]; exact (k.2.2.1 104 (by omega)).trans h104, by rw [m26]; exact (k.2.1 105 (by omega)).trans h105⟩

def rCon (d : Nat → Nat → Nat) (S : cS) (M : mS) : Prop := ∀ c, c < nCo M → cK S (d 3 c) = 4 ∧ cFi S (d 3 c) 300 = nI c ∧ cFi S (d 3 c) 301 = M.2 47 c ∧ cFi S (d 3 c) 302 = M.2 48 c ∧ cFi S (d 3 c) 303 = M.2 49 c ∧ cFi S (d 3 c) 304 = M.2 50 c - mInB M (nI c) (nBg M) - M.2 53 c ∧ cFi S (d 3 c) 305 = M.2 51 c ∧ cFi S (d 3 c) 306 = M.2 52 c ∧ cFi S (d 3 c) 307 = mInB M (nI c) (nBg M) ∧ cFi S (d 3 c) 308 = M.2 53 c ∧ cFi S (d 3 c) 309 = M.2 54 c ∧ cFi S (d 3 c) 310 = M.2 55 c

theorem rCon.mono {d : Nat → Nat → Nat} {S S2 : cS} {M M2 : mS} (h : rCon d S M) (hs : ∀ c, c < nCo M → sm S S2 (d 3 c)) (m47 : M2.2 47 = M.2 47) (m48 : M2.2 48 = M.2 48) (m49 : M2.2 49 = M.2 49) (m50 : M2.2 50 = M.2 50) (m51 : M2.2 51 = M.2 51) (m52 : M2.2 52 = M.2 52) (m53 : M2.2 53 = M.2 53) (m54 : M2.2 54 = M.2 54) (m55 : M2.2 55 = M.2 55) (m24 : M2.2 24 = M.2 24) (m25 : M2.2 25 = M.2 25) (c46 : M2.1 46 = M.1 46) (c22 : M2.1 22 = M.1 22) : rCon d S2 M2 := by
  intro c hv
  have nb : nCo M2 = nCo M := by unfold nCo; rw [c46]
  rw [nb] at hv
  have nb22 : nBg M2 = nBg M := by unfold nBg; rw [c22]
  obtain ⟨h0, h300, h301, h302, h303, h304, h305, h306, h307, h308, h309, h310⟩ := h c hv
  have k := hs c hv
  exact ⟨k.1.trans h0, (k.2.1 300 (by omega)).trans h300, by rw [m47]; exact (k.2.1 301 (by omega)).trans h301, by rw [m48]; exact (k.2.1 302 (by omega)).trans h302, by rw [m49]; exact (k.2.1 303 (by omega)).trans h303, by rw [m50, m53, mInB_eq m24 m25, nb22]; exact (k.2.1 304 (by omega)).trans h304, by rw [m51]; exact (k.2.1 305 (by omega)).trans h305, by rw [m52]; exact (k.2.1 306 (by omega)).trans h306, by rw [mInB_eq m24 m25, nb22]; exact (k.2.1 307 (by omega)).trans h307, by rw [m53]; exact (k.2.1 308 (by omega)).trans h308, by rw [m54]; exact (k.2.1 309 (by omega)).trans h309, by rw [m55]; exact (k.2.1 310 (by omega)).trans h310⟩

def rBoa (d : Nat → Nat → Nat) (S : cS) (M : mS) : Prop := ∀ w, w < nBt M → cK S (d 4 w) = 3 ∧ cFi S (d 4 w) 200 = nI w ∧ cFi S (d 4 w) 201 = M.2 30 w ∧ cFi S (d 4 w) 202 = M.2 31 w ∧ cFr S (d 4 w) 203 = some (d 5 w) ∧ cFi S (d 4 w) 204 = M.2 32 w ∧ cFi S (d 4 w) 205 = M.2 39 w ∧ cFi S (d 4 w) 206 = (if M.2 34 w = -1 then M.2 33 w else -1) ∧ cFi S (d 4 w) 207 = M.2 34 w ∧ (¬ M.2 34 w = -1 → cFi S (d 4 w) 208 = M.2 35 w) ∧ cFi S (d 4 w) 209 = (if M.2 34 w = -1 then 0 else M.2 36 w) ∧ cFi S (d 4 w) 210 = M.2 37 w ∧ (M.2 34 w = -1 → cFi S (d 4 w) 211 = M.2 38 w) ∧ cFi S (d 4 w) 213 = M.2 43 w ∧ cFr S (d 4 w) 214 = some (d 10 w)

theorem rBoa.mono {d : Nat → Nat → Nat} {S S2 : cS} {M M2 : mS} (h : rBoa d S M) (hs : ∀ w, w < nBt M → sm S S2 (d 4 w)) (m30 : M2.2 30 = M.2 30) (m31 : M2.2 31 = M.2 31) (m32 : M2.2 32 = M.2 32) (m33 : M2.2 33 = M.2 33) (m34 : M2.2 34 = M.2 34) (m35 : M2.2 35 = M.2 35) (m36 : M2.2 36 = M.2 36) (m37 : M2.2 37 = M.2 37) (m38 : M2.2 38 = M.2 38) (m39 : M2.2 39 = M.2 39) (m43 : M2.2 43 = M.2 43) (c29 : M2.1 29 = M.1 29) : rBoa d S2 M2 := by
  intro w hv
  have nb : nBt M2 = nBt M := by unfold nBt; rw [c29]
  rw [nb] at hv
  obtain ⟨h0, h200, h201, h202, h203, h204, h205, h206, h207, h208, h209, h210, h211, h213, h214⟩ := h w hv
  have k := hs w hv
  exact ⟨k.1.trans h0, (k.2.1 200 (by omega)).trans h200, by rw [m30]; exact (k.2.1 201 (by omega)).trans h201, by rw [m31]; exact (k.2.1 202 (by omega)).trans h202, (k.2.2.1 203 (by omega)).trans h203, by rw [m32]; exact (k.2.1 204 (by omega)).trans h204, by rw [m39]; exact (k.2.1 205 (by omega)).trans h205, by rw [m33, m34]; exact (k.2.1 206 (by omega)).trans h206, by rw [m34]; exact (k.2.1 207 (by omega)).trans h207, fun z => by rw [m35]; exact (k.2.1 208 (by omega)).trans (h208 (by rw [m34] at z; exact z)), by rw [m34, m36]; exact (k.2.1 209 (by omega)).trans h209, by rw [m37]; exact (k.2.1 210 (by omega)).trans h210, fun z => by rw [m38]; exact (k.2.1 211 (by omega)).trans (h211 (by rw [m34] at z; exact z)), by rw [m43]; exact (k.2.1 213 (by omega)).trans h213, (k.2.2.1 214 (by omega)).trans h214⟩

/-- boats agree: bits and the reference's square -/
def rAgr (d : Nat → Nat → Nat) (S : cS) (M : mS) : Prop := ∀ w, w < nBt M → ∀ v, v < 6 → (cFi S (d 4 w) 212 &&& 1 <<< (nI v &&& 31) = 0) = (M.2 45 (6 * w + v) = 0)
theorem rAgr.mono {d : Nat → Nat → Nat} {S S2 : cS} {M M2 : mS} (h : rAgr d S M) (hs : ∀ w, w < nBt M → sm S S2 (d 4 w)) (m45 : M2.2 45 = M.2 45) (c29 : M2.1 29 = M.1 29) : rAgr d S2 M2 := by
  intro w hw v hv
  have nb : nBt M2 = nBt M := by unfold nBt; rw [c29]
  rw [nb] at hw
  rw [(hs w hw).2.1 212 (by omega), m45]
  exact h w hw v hv
def rWai (d : Nat → Nat → Nat) (S : cS) (M : mS) : Prop := ∀ w, w < nBt M → cK S (d 10 w) = 11 ∧ cLen S (d 10 w) = 10 ∧ ∀ c, c < 10 → cRi S (d 10 w) c = M.2 44 (10 * w + c)
theorem rWai.mono {d : Nat → Nat → Nat} {S S2 : cS} {M M2 : mS} (h : rWai d S M) (hs : ∀ w, w < nBt M → sm S S2 (d 10 w)) (m44 : M2.2 44 = M.2 44) (c29 : M2.1 29 = M.1 29) : rWai d S2 M2 := by
  intro w hw
  have nb : nBt M2 = nBt M := by unfold nBt; rw [c29]
  rw [nb] at hw
  obtain ⟨h1, h2, h3⟩ := h w hw
  have k := hs w hw
  exact ⟨k.1.trans h1, k.2.2.2.1.trans h2, fun c hc => by rw [k.2.2.2.2, m44]; exact h3 c hc⟩
/-- the whole -/
def rTop (d : Nat → Nat → Nat) (S : cS) (M : mS) : Prop := cK S (d 9 0) = 9 ∧ (cFr S (d 9 0) 800 = some (d 6 0) ∧ cFr S (d 9 0) 801 = some (d 6 1) ∧ cFr S (d 9 0) 802 = some (d 6 2) ∧ cFr S (d 9 0) 803 = some (d 6 3) ∧ cFr S (d 9 0) 804 = some (d 6 4) ∧ cFr S (d 9 0) 805 = some (d 9 1) ∧ cFr S (d 9 0) 806 = some (d 9 2)) ∧
  cFi S (d 9 0) 807 = M.1 1 ∧ cFi S (d 9 0) 808 = M.1 2 ∧ cFi S (d 9 0) 809 = M.1 3 ∧ cFi S (d 9 0) 810 = M.1 4 ∧ cFi S (d 9 0) 811 = M.1 56 ∧ cFi S (d 9 0) 812 = M.1 57 ∧ cFi S (d 9 0) 813 = M.1 58
theorem rTop.mono {d : Nat → Nat → Nat} {S S2 : cS} {M M2 : mS} (h : rTop d S M) (k : sm S S2 (d 9 0)) (c1 : M2.1 1 = M.1 1) (c2 : M2.1 2 = M.1 2) (c3 : M2.1 3 = M.1 3) (c4 : M2.1 4 = M.1 4) (c5 : M2.1 56 = M.1 56) (c6 : M2.1 57 = M.1 57) (c7 : M2.1 58 = M.1 58) : rTop d S2 M2 := by
  obtain ⟨h0, ⟨r0, r1, r2, r3, r4, r5, r6⟩, h1, h2, h3, h4, h5, h6, h7⟩ := h
  exact ⟨k.1.trans h0, ⟨(k.2.2.1 800 (by omega)).trans r0, (k.2.2.1 801 (by omega)).trans r1, (k.2.2.1 802 (by omega)).trans r2, (k.2.2.1 803 (by omega)).trans r3, (k.2.2.1 804 (by omega)).trans r4, (k.2.2.1 805 (by omega)).trans r5, (k.2.2.1 806 (by omega)).trans r6⟩, by rw [c1]; exact (k.2.1 807 (by omega)).trans h1, by rw [c2]; exact (k.2.1 808 (by omega)).trans h2, by rw [c3]; exact (k.2.1 809 (by omega)).trans h3, by rw [c4]; exact (k.2.1 810 (by omega)).trans h4, by rw [c5]; exact (k.2.1 811 (by omega)).trans h5, by rw [c6]; exact (k.2.1 812 (by omega)).trans h6, by rw [c7]; exact (k.2.1 813 (by omega)).trans h7⟩
def rLoa (d : Nat → Nat → Nat) (S : cS) (M : mS) : Prop := cK S (d 9 1) = 11 ∧ cLen S (d 9 1) = 8 ∧ ∀ p, p < 8 → cRi S (d 9 1) p = mInH M (nI p)
theorem rLoa.mono {d : Nat → Nat → Nat} {S S2 : cS} {M M2 : mS} (h : rLoa d S M) (k : sm S S2 (d 9 1)) (m0 : M2.2 20 = M.2 20) (m1 : M2.2 21 = M.2 21) (c1 : M2.1 1 = M.1 1) : rLoa d S2 M2 := by
  obtain ⟨h1, h2, h3⟩ := h
  refine ⟨k.1.trans h1, k.2.2.2.1.trans h2, fun p hp => ?_⟩
  rw [k.2.2.2.2, h3 p hp]
  unfold mInH
  rw [m0, m1, c1]
/-- lists: what lies in them -/
def lst (W9 : xWd) (S : cS) (L n : Nat) (f : Nat → Nat) : Prop := lCap W9 S L ∧ lCn S L = n ∧ ∀ k, k < n → lNth S L k = some (f k)
def isL (M : mS) (k i : Nat) : Prop := (k = 6 ∧ i < 5) ∨ (k = 7 ∧ i < 16) ∨ (k = 8 ∧ i < nBt M)
def rLst (W9 : xWd) (d : Nat → Nat → Nat) (S : cS) (M : mS) : Prop := (lst W9 S (d 6 0) 7 (d 0) ∧ lst W9 S (d 6 1) 16 (d 1) ∧ lst W9 S (d 6 2) (nBg M) (d 2) ∧ lst W9 S (d 6 3) (nCo M) (d 3) ∧ lst W9 S (d 6 4) (nBt M) (d 4)) ∧
  (∀ t, t < 16 → lst W9 S (d 7 t) (nT M t) (fun k => d 2 (M.2 19 (5 * t + k)).toNatClampNeg)) ∧ (∀ w, w < nBt M → lst W9 S (d 8 w) (nW M w) (fun k => d 2 (M.2 41 (12 * w + k)).toNatClampNeg)) ∧
  ∀ k i k2 i2, isL M k i → isL M k2 i2 → cRf S (d k i) 1 = cRf S (d k2 i2) 1 → cRf S (d k i) 1 = wE W9 ∨ (k = k2 ∧ i = i2)
theorem lst.mono {W9 : xWd} {S S2 : cS} {L n : Nat} {f : Nat → Nat} (h : lst W9 S L n f) (k : fr1 S S2) (s : lSame S S2 L) : lst W9 S2 L n f := ⟨h.1.mono k s, s.rd.1.trans h.2.1, fun i hi => (s.rd.2.2 i).trans (h.2.2 i hi)⟩
theorem rLst.isCap {W9 : xWd} {d : Nat → Nat → Nat} {S : cS} {M : mS} (h : rLst W9 d S M) {k i : Nat} (hk : isL M k i) : lCap W9 S (d k i) := by
  obtain ⟨⟨h0, h1, h2, h3, h4⟩, h5, h6, -⟩ := h
  rcases hk with ⟨rfl, hi⟩ | ⟨rfl, hi⟩ | ⟨rfl, hi⟩
  · match i, hi with
    | 0, _ => exact h0.1
    | 1, _ => exact h1.1
    | 2, _ => exact h2.1
    | 3, _ => exact h3.1
    | 4, _ => exact h4.1
  · exact (h5 i hi).1
  · exact (h6 i hi).1
/-- lists stay, where nothing of them is touched -/
theorem rLst.mono {W9 : xWd} {d : Nat → Nat → Nat} {S S2 : cS} {M M2 : mS} (h : rLst W9 d S M) (hs : ∀ k i, isL M k i → lCap W9 S (d k i) → (lCap W9 S2 (d k i) ∧ lSame S S2 (d k i))) (m18 : M2.2 18 = M.2 18) (m19 : M2.2 19 = M.2 19) (m41 : M2.2 41 = M.2 41) (m42 : M2.2 42 = M.2 42) (c22 : M2.1 22 = M.1 22) (c29 : M2.1 29 = M.1 29) (c46 : M2.1 46 = M.1 46) : rLst W9 d S2 M2 := by
  have n22 : nBg M2 = nBg M := by unfold nBg; rw [c22]
  have n29 : nBt M2 = nBt M := by unfold nBt; rw [c29]
  have n46 : nCo M2 = nCo M := by unfold nCo; rw [c46]
  have eL : ∀ k i, isL M2 k i → isL M k i := fun k i z => by unfold isL at *; rw [n29] at z; exact z
  obtain ⟨⟨h0, h1, h2, h3, h4⟩, h5, h6, h7⟩ := h
  have key : ∀ k i n f, isL M k i → lst W9 S (d k i) n f → lst W9 S2 (d k i) n f := fun k i n f hk hl => by
    obtain ⟨z1, z2⟩ := hs k i hk hl.1
    exact ⟨z1, z2.rd.1.trans hl.2.1, fun j hj => (z2.rd.2.2 j).trans (hl.2.2 j hj)⟩
  have hcap : ∀ k i, isL M k i → lCap W9 S (d k i) := fun k i hk => rLst.isCap ⟨⟨h0, h1, h2, h3, h4⟩, h5, h6, h7⟩ hk
  refine ⟨⟨key 6 0 _ _ (Or.inl ⟨rfl, by omega⟩) h0, key 6 1 _ _ (Or.inl ⟨rfl, by omega⟩) h1, by rw [n22]; exact key 6 2 _ _ (Or.inl ⟨rfl, by omega⟩) h2, by rw [n46]; exact key 6 3 _ _ (Or.inl ⟨rfl, by omega⟩) h3, by rw [n29]; exact key 6 4 _ _ (Or.inl ⟨rfl, by omega⟩) h4⟩, fun t ht => ?_, fun w hw => ?_, fun k i k2 i2 z1 z2 z3 => ?_⟩
  · unfold nT
    rw [m18, m19]
    exact key 7 t _ _ (Or.inr (Or.inl ⟨rfl, ht⟩)) (h5 t ht)
  · rw [n29] at hw
    unfold nW
    rw [m41, m42]
    exact key 8 w _ _ (Or.inr (Or.inr ⟨rfl, hw⟩)) (h6 w hw)
  · have y1 := (hs k i (eL k i z1) (hcap k i (eL k i z1))).2.rd.2.1
    have y2 := (hs k2 i2 (eL k2 i2 z2) (hcap k2 i2 (eL k2 i2 z2))).2.rd.2.1
    rw [y1] at z3 ⊢
    rw [y2] at z3
    exact h7 k i k2 i2 (eL k i z1) (eL k2 i2 z2) z3
