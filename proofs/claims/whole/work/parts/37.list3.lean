/-! ArrayList's primitives as calls of the machine: lengths, stores, makings, copies, class objects. -/
def cAstR (S : cS) (a j : Nat) (r : Option Nat) : cS := (S.1, S.2.1, S.2.2.1, S.2.2.2.1, S.2.2.2.2.1, (fun b i => if b = a ∧ i = j then r else S.2.2.2.2.2 b i))
def cNewR (S : cS) (q n : Nat) : cS := ((fun b => if b = q then 13 else S.1 b), S.2.1, S.2.2.1, (fun b => if b = q then n else S.2.2.2.1 b), S.2.2.2.2.1, (fun b i => if b = q then none else S.2.2.2.2.2 b i))
def cCpy (S : cS) (x y sp dp n : Nat) : cS := (S.1, S.2.1, S.2.2.1, S.2.2.2.1, S.2.2.2.2.1, (fun b i => if b = y then va_cpy (S.2.2.2.2.2 x) (S.2.2.2.2.2 y) sp dp n i else S.2.2.2.2.2 b i))
theorem cK_astR {S : cS} {a j : Nat} {r : Option Nat} : cK (cAstR S a j r) = cK S := rfl
theorem cFi_astR {S : cS} {a j : Nat} {r : Option Nat} : cFi (cAstR S a j r) = cFi S := rfl
theorem cFr_astR {S : cS} {a j : Nat} {r : Option Nat} : cFr (cAstR S a j r) = cFr S := rfl
theorem cLen_astR {S : cS} {a j : Nat} {r : Option Nat} : cLen (cAstR S a j r) = cLen S := rfl
theorem cRi_astR {S : cS} {a j : Nat} {r : Option Nat} : cRi (cAstR S a j r) = cRi S := rfl
theorem cRr_astR {S : cS} {a j b i : Nat} {r : Option Nat} : cRr (cAstR S a j r) b i = if b = a ∧ i = j then r else cRr S b i := rfl
theorem cK_newR {S : cS} {q n b : Nat} : cK (cNewR S q n) b = if b = q then 13 else cK S b := rfl
theorem cFi_newR {S : cS} {q n : Nat} : cFi (cNewR S q n) = cFi S := rfl
theorem cFr_newR {S : cS} {q n : Nat} : cFr (cNewR S q n) = cFr S := rfl
theorem cLen_newR {S : cS} {q n b : Nat} : cLen (cNewR S q n) b = if b = q then n else cLen S b := rfl
theorem cRi_newR {S : cS} {q n : Nat} : cRi (cNewR S q n) = cRi S := rfl
theorem cRr_newR {S : cS} {q n b i : Nat} : cRr (cNewR S q n) b i = if b = q then none else cRr S b i := rfl
theorem cK_cpy {S : cS} {x y sp dp n : Nat} : cK (cCpy S x y sp dp n) = cK S := rfl
theorem cFi_cpy {S : cS} {x y sp dp n : Nat} : cFi (cCpy S x y sp dp n) = cFi S := rfl
theorem cFr_cpy {S : cS} {x y sp dp n : Nat} : cFr (cCpy S x y sp dp n) = cFr S := rfl
theorem cLen_cpy {S : cS} {x y sp dp n : Nat} : cLen (cCpy S x y sp dp n) = cLen S := rfl
theorem cRi_cpy {S : cS} {x y sp dp n : Nat} : cRi (cCpy S x y sp dp n) = cRi S := rfl
theorem cRr_cpy {S : cS} {x y sp dp n b i : Nat} : cRr (cCpy S x y sp dp n) b i = if b = y then (if dp ≤ i ∧ i < dp + n then cRr S x (sp + (i - dp)) else cRr S y i) else cRr S b i := rfl
theorem cK_newO {S : cS} {q ci b : Nat} : cK (cNewO S q ci) b = if b = q then ci + 1 else cK S b := rfl
theorem cFi_newO {S : cS} {q ci b g : Nat} : cFi (cNewO S q ci) b g = if b = q then 0 else cFi S b g := rfl
theorem cFr_newO {S : cS} {q ci b g : Nat} : cFr (cNewO S q ci) b g = if b = q then none else cFr S b g := rfl
theorem cLen_newO {S : cS} {q ci : Nat} : cLen (cNewO S q ci) = cLen S := rfl
theorem cRi_newO {S : cS} {q ci : Nat} : cRi (cNewO S q ci) = cRi S := rfl
theorem cRr_newO {S : cS} {q ci : Nat} : cRr (cNewO S q ci) = cRr S := rfl
theorem cFi_newI {S : cS} {q z n : Nat} : cFi (cNewI S q z n) = cFi S := rfl
theorem cFr_newI {S : cS} {q z n : Nat} : cFr (cNewI S q z n) = cFr S := rfl
theorem cLen_newI {S : cS} {q z n b : Nat} : cLen (cNewI S q z n) b = if b = q then n else cLen S b := rfl
theorem cRi_newI {S : cS} {q z n b i : Nat} : cRi (cNewI S q z n) b i = if b = q then 0 else cRi S b i := rfl
theorem cRr_newI {S : cS} {q z n : Nat} : cRr (cNewI S q z n) = cRr S := rfl
/-- an address that no cell of the state has -/
abbrev cDead (S : cS) (q : Nat) : Prop := ¬ (1 ≤ cK S q ∧ cK S q ≤ 13)
/-- kinds of objects that lie in lists -/
def cEl (c : Nat) : Prop := c = 2 ∨ c = 3 ∨ c = 4 ∨ c = 6 ∨ c = 7
/-- the state's cells below n as a list -/
def xWs (Y : Nat → ClassId) (S : cS) (n : Nat) : va_W := (List.range n).filterMap (fun a => (cCell S Y a).map (fun e => (a, e)))
theorem xWs_at {Y : Nat → ClassId} {S : cS} {n a : Nat} {e : va_E} (h : cCell S Y a = some e) (hn : a < n) : ∃ k : Nat, (xWs Y S n)[k]? = some (a, e) :=
  List.getElem?_of_mem (List.mem_filterMap.mpr ⟨a, List.mem_range.mpr hn, by rw [h]; rfl⟩)
theorem xWs_of {Y : Nat → ClassId} {S : cS} {n k : Nat} {q : Nat × va_E} (h : (xWs Y S n)[k]? = some q) : q.1 < n ∧ cCell S Y q.1 = some q.2 := by
  obtain ⟨a, ha, hb⟩ := List.mem_filterMap.mp (List.mem_of_getElem? h)
  cases hc : cCell S Y a with
  | none => rw [hc] at hb; cases hb
  | some e =>
    rw [hc] at hb
    cases hb
    exact ⟨List.mem_range.mp ha, hc⟩
theorem xWs_pw (Y : Nat → ClassId) (S : cS) (n : Nat) : List.Pairwise (fun (p q : Nat × va_E) => p.1 < q.1) (xWs Y S n) := by
  unfold xWs
  rw [List.pairwise_filterMap]
  refine List.Pairwise.imp ?_ (List.pairwise_lt_range (n := n))
  intro a b hab p hp q hq
  cases hc : cCell S Y a with
  | none => rw [hc] at hp; cases hp
  | some e =>
    cases hd : cCell S Y b with
    | none => rw [hd] at hq; cases hq
    | some f =>
      rw [hc] at hp
      rw [hd] at hq
      cases hp
      cases hq
      exact hab
theorem xWs_ap {Y : Nat → ClassId} {S : cS} {n : Nat} (i j : Nat) (p q : Nat × va_E) (hi : (xWs Y S n)[i]? = some p) (hj : (xWs Y S n)[j]? = some q) (e : p.1 = q.1) : i = j := by
  have h := List.pairwise_iff_getElem.mp (xWs_pw Y S n)
  obtain ⟨li, ei⟩ := List.getElem?_eq_some_iff.mp hi
  obtain ⟨lj, ej⟩ := List.getElem?_eq_some_iff.mp hj
  rcases Nat.lt_trichotomy i j with c | c | c
  · have := h i j li lj c
    rw [ei, ej] at this
    omega
  · exact c
  · have := h j i lj li c
    rw [ei, ej] at this
    omega
theorem xWs_P {D : va_G} {Y : Nat → ClassId} {S : cS} {H : Heap} (hR : xRep cI D vwCl Y S H) : va_P D vwCl (xWs Y S H.size) H := fun k q hk => hR q.1 q.2 (xWs_of hk).2
theorem xWs_D {Y : Nat → ClassId} {S : cS} {A : Nat → Prop} {n : Nat} (hO : xOwn cI Y S A) : va_D A (xWs Y S n) := ⟨xWs_ap, fun k q hk => hO q.1 q.2 (xWs_of hk).2⟩
theorem xWs_back {D : va_G} {Y : Nat → ClassId} {S S2 : cS} {H H1 : Heap} {k a : Nat} {e e2 : va_E} (hR : xRep cI D vwCl Y S H) (hk : (xWs Y S H.size)[k]? = some (a, e)) (hP : va_P D vwCl ((xWs Y S H.size).set k (a, e2)) H1) (h1 : cCell S2 Y a = some e2) (h2 : ∀ b, b ≠ a → cCell S2 Y b = cCell S Y b) : xRep cI D vwCl Y S2 H1 := by
  intro b y hb
  have hkl := (List.getElem?_eq_some_iff.mp hk).1
  by_cases c : b = a
  · subst c
    have e3 : e2 = y := Option.some.inj (h1.symm.trans hb)
    subst e3
    exact hP k (b, e2) (List.getElem?_set_self hkl)
  · have hb2 : cCell S Y b = some y := (h2 b c).symm.trans hb
    obtain ⟨j, hj⟩ := xWs_at hb2 (hR b y hb2).lt
    refine hP j (b, y) ?_
    rw [List.getElem?_set_ne]
    · exact hj
    · intro q
      subst q
      rw [hk] at hj
      cases hj
      exact c rfl
/-! the specs -/
def sp_aln (W9 : xWd) : xSp cS := (fun _ _ => (0, 0), fun av S K => ∃ a, av = [.ref a] ∧ (a = wE W9 ∨ cK S a = 13) ∧ K (rI (if a = wE W9 then 0 else Int32.ofNat (cLen S a))) S)
theorem sp_aln_c {W9 : xWd} {av : List Value} {S : cS} : (sp_aln W9).1 av S = (0, 0) := rfl
theorem sp_aln_w {W9 : xWd} {a : Nat} {S : cS} {K : xRes → cS → Prop} : (sp_aln W9).2 [.ref a] S K = ((a = wE W9 ∨ cK S a = 13) ∧ K (rI (if a = wE W9 then 0 else Int32.ofNat (cLen S a))) S) := propext ⟨fun h => by
  obtain ⟨_, e, h⟩ := h
  cases e
  exact h, fun h => ⟨_, rfl, h⟩⟩
def sp_ast (_ : xWd) : xSp cS := (fun _ _ => (0, 0), fun av S K => ∃ (a : Nat) (i : Int32) (r : Option Nat), av = [.ref a, .int i, va_rf r] ∧ cK S a = 13 ∧ vp_in i (cLen S a) ∧ (∀ b, r = some b → cEl (cK S b)) ∧ K rV (cAstR S a i.toNatClampNeg r))
theorem sp_ast_c {W9 : xWd} {av : List Value} {S : cS} : (sp_ast W9).1 av S = (0, 0) := rfl
theorem sp_ast_w {W9 : xWd} {a v : Nat} {i : Int32} {S : cS} {K : xRes → cS → Prop} : (sp_ast W9).2 [.ref a, .int i, .ref v] S K = (cK S a = 13 ∧ vp_in i (cLen S a) ∧ cEl (cK S v) ∧ K rV (cAstR S a i.toNatClampNeg (some v))) := propext ⟨fun h => by
  obtain ⟨a2, i2, r, e, h1, h2, h3, h4⟩ := h
  simp only [List.cons.injEq, Value.int.injEq, Value.ref.injEq, ref_rf, and_true] at e
  obtain ⟨rfl, rfl, rfl⟩ := e
  exact ⟨h1, h2, h3 _ rfl, h4⟩, fun h => ⟨a, i, some v, rfl, h.1, h.2.1, fun b e => by cases e; exact h.2.2.1, h.2.2.2⟩⟩
theorem sp_astn_w {W9 : xWd} {a : Nat} {i : Int32} {S : cS} {K : xRes → cS → Prop} : (sp_ast W9).2 [.ref a, .int i, .null] S K = (cK S a = 13 ∧ vp_in i (cLen S a) ∧ K rV (cAstR S a i.toNatClampNeg none)) := propext ⟨fun h => by
  obtain ⟨a2, i2, r, e, h1, h2, h3, h4⟩ := h
  cases r with
  | none =>
    simp only [List.cons.injEq, Value.int.injEq, Value.ref.injEq, and_true] at e
    obtain ⟨rfl, rfl, -⟩ := e
    exact ⟨h1, h2, h4⟩
  | some r => simp [va_rf] at e, fun h => ⟨a, i, none, rfl, h.1, h.2.1, (fun b e => by cases e), h.2.2⟩⟩
def sp_anw (W9 : xWd) : xSp cS := (fun _ _ => (1, 45), fun av S K => ∃ k : Nat, av = [.int (nI k)] ∧ k ≤ 45 ∧ ∀ q, cDead S q → q ≠ wE W9 → K (rR q) (cNewR S q k))
theorem sp_anw_c {W9 : xWd} {av : List Value} {S : cS} : (sp_anw W9).1 av S = (1, 45) := rfl
theorem sp_anw_w {W9 : xWd} {i : Int32} {S : cS} {K : xRes → cS → Prop} : (sp_anw W9).2 [.int i] S K = (∃ k : Nat, i = nI k ∧ k ≤ 45 ∧ ∀ q, cDead S q → q ≠ wE W9 → K (rR q) (cNewR S q k)) := propext ⟨fun h => by
  obtain ⟨k, e, h⟩ := h
  cases e
  exact ⟨k, rfl, h⟩, fun h => by
  obtain ⟨k, rfl, h⟩ := h
  exact ⟨k, rfl, h⟩⟩
def sp_cpy (_ : xWd) : xSp cS := (fun _ _ => (0, 0), fun av S K => ∃ (x y p1 p2 p3 c : Nat), av = [.ref x, .int (nI p1), .ref y, .int (nI p2), .int (nI p3)] ∧ (cK S x = 13 ∧ cK S y = 13) ∧ (p1 + p3 ≤ cLen S x ∧ p2 + p3 ≤ cLen S y ∧ p1 < 100 ∧ p2 < 100 ∧ p3 < 100) ∧ (cEl c ∧ ∀ i, i < p3 → ∀ b, cRr S x (p1 + i) = some b → cK S b = c) ∧ K rV (cCpy S x y p1 p2 p3))
theorem sp_cpy_c {W9 : xWd} {av : List Value} {S : cS} : (sp_cpy W9).1 av S = (0, 0) := rfl
theorem sp_cpy_w {W9 : xWd} {x y : Nat} {i1 i2 i3 : Int32} {S : cS} {K : xRes → cS → Prop} : (sp_cpy W9).2 [.ref x, .int i1, .ref y, .int i2, .int i3] S K = (∃ (p1 p2 p3 c : Nat), (i1 = nI p1 ∧ i2 = nI p2 ∧ i3 = nI p3) ∧ (cK S x = 13 ∧ cK S y = 13) ∧ (p1 + p3 ≤ cLen S x ∧ p2 + p3 ≤ cLen S y ∧ p1 < 100 ∧ p2 < 100 ∧ p3 < 100) ∧ (cEl c ∧ ∀ i, i < p3 → ∀ b, cRr S x (p1 + i) = some b → cK S b = c) ∧ K rV (cCpy S x y p1 p2 p3)) := propext ⟨fun h => by
  obtain ⟨x2, y2, p1, p2, p3, c, e, h⟩ := h
  simp only [List.cons.injEq, Value.int.injEq, Value.ref.injEq, and_true] at e
  obtain ⟨rfl, e1, rfl, e2, e3⟩ := e
  exact ⟨p1, p2, p3, c, ⟨e1, e2, e3⟩, h⟩, fun h => by
  obtain ⟨p1, p2, p3, c, ⟨rfl, rfl, rfl⟩, h⟩ := h
  exact ⟨x, y, p1, p2, p3, c, rfl, h⟩⟩
def sp_gcl (W9 : xWd) : xSp cS := (fun _ _ => (0, 0), fun av S K => ∃ a, av = [.ref a] ∧ cK S a = 13 ∧ K (rR (wMi W9)) S)
theorem sp_gcl_c {W9 : xWd} {av : List Value} {S : cS} : (sp_gcl W9).1 av S = (0, 0) := rfl
theorem sp_gcl_w {W9 : xWd} {a : Nat} {S : cS} {K : xRes → cS → Prop} : (sp_gcl W9).2 [.ref a] S K = (cK S a = 13 ∧ K (rR (wMi W9)) S) := propext ⟨fun h => by
  obtain ⟨_, e, h⟩ := h
  cases e
  exact h, fun h => ⟨_, rfl, h⟩⟩
def sp_ldk (W9 : xWd) : xSp cS := (fun _ _ => (0, 0), fun av S K => av = [] ∧ K (rR (wMi W9)) S)
theorem sp_ldk_c {W9 : xWd} {av : List Value} {S : cS} : (sp_ldk W9).1 av S = (0, 0) := rfl
theorem sp_ldk_w {W9 : xWd} {S : cS} {K : xRes → cS → Prop} : (sp_ldk W9).2 [] S K = K (rR (wMi W9)) S := propext ⟨fun h => h.2, fun h => ⟨rfl, h⟩⟩
theorem cElc {c : Nat} (h : cEl c) : ∃ (ci : Nat) (C : String) (T : u_T) (N : Nat), c = ci + 1 ∧ ci ≤ 9 ∧ vwCl[ci]? = some (C, T, N) ∧ (.castable C "java/lang/Object" : Jvm.Cond) ∈ xExtra := by
  rcases h with rfl | rfl | rfl | rfl | rfl
  · exact ⟨1, _, _, _, rfl, by omega, rfl, by decide +kernel⟩
  · exact ⟨2, _, _, _, rfl, by omega, rfl, by decide +kernel⟩
  · exact ⟨3, _, _, _, rfl, by omega, rfl, by decide +kernel⟩
  · exact ⟨5, _, _, _, rfl, by omega, rfl, by decide +kernel⟩
  · exact ⟨6, _, _, _, rfl, by omega, rfl, by decide +kernel⟩
theorem xGe {s z : Heap} {locs : List Loc} {A : Nat → Prop} (h : va_S A s z locs) : s.size ≤ z.size := h.1
section XL
variable {E : xEnv cS} {W9 : xWd} {A : Nat → Prop} {df : Nat → List Value}
variable {p : Program} {l : Launch} {e : Env} {R : Room} {s : State} {m : MethodId} {args : Array Value} {below : List Frame} {meth : Method} {c : Code} {nL : Nat} {own : String} {ws : List Jvm.Cond}
theorem xCR_aln {ci : Nat} (hI : eI E = cI) (X : xCtx W9 E df A p R s m args meth c nL own ws) : xCR E (wD W9) vwCl (wY W9) A p l e R s m args below meth c nL .arraylength 1 ci (sp_aln W9) := by
  obtain ⟨hx, hml, hown, hts, hlaw, hAmb, hA, hlocks, hext⟩ := X
  intro pc len H locs ls lv av rest S cs ss KF hd hxl hlen hlv hR hO hS hrc hcat b1 b2 hv kk kx
  cases hxl
  obtain ⟨a, rfl, h1, hv⟩ := hv
  by_cases q : a = wE W9
  · subst q
    rw [if_pos rfl] at hv
    exact va_tlen (rest := rest) hx rfl hAmb.2.2.2.2.2.2.1 hS (v := 0) rfl hd (kk (some (.int 0)) S hv H locs ls hlv hR hO hS)
  · rw [if_neg q] at hv
    have hR2 := hR
    rw [hI] at hR2
    exact va_alen (rest := rest) hx rfl hAmb.1 (xP1 (hR2 a _ (cCell_r (h1.resolve_left q)))) 0 2 rfl rfl rfl hd (kk (some (.int (Int32.ofNat (cLen S a)))) S hv H locs ls hlv hR hO hS)
theorem xCR_ast {ci : Nat} (hI : eI E = cI) (X : xCtx W9 E df A p R s m args meth c nL own ws) : xCR E (wD W9) vwCl (wY W9) A p l e R s m args below meth c nL .aastore 3 ci (sp_ast W9) := by
  obtain ⟨hx, hml, hown, hts, hlaw, hAmb, hA, hlocks, hext⟩ := X
  intro pc len H locs ls lv av rest S cs ss KF hd hxl hlen hlv hR hO hS hrc hcat b1 b2 hv kk kx
  cases hxl
  obtain ⟨a, i, r, rfl, h1, h2, h3, hv⟩ := hv
  have hR2 := hR
  have hO2 := hO
  rw [hI] at hR2 hO2
  have hc : cCell S (wY W9) a = _ := cCell_r h1
  obtain ⟨k, hk⟩ := xWs_at hc (hR2 a _ hc).lt
  have hc2 : ∀ r, cCell (cAstR S a i.toNatClampNeg r) (wY W9) a = some (.inl (wY W9 2, cLen S a, .inr (.inr (.inr (.inr (va_up (cRr S a) i.toNatClampNeg r)))))) := fun r => by
    refine (cCell_r (S := cAstR S a i.toNatClampNeg r) h1).trans ?_
    refine congrArg (fun f => some (Sum.inl (wY W9 2, cLen S a, Sum.inr (Sum.inr (Sum.inr (Sum.inr f)))))) ?_
    funext j
    rw [cRr_astR]
    unfold va_up
    simp
  have hc3 : ∀ r b, b ≠ a → cCell (cAstR S a i.toNatClampNeg r) (wY W9) b = cCell S (wY W9) b := fun r b hb => by
    apply cCell_same <;> simp [cK, cFi, cFr, cLen, cRi, cRr, cAstR, hb]
  cases r with
  | none =>
    refine va_astqN (rest := rest) (C := "java/lang/Object") hx rfl hAmb.1 (xWs_P hR2) (xWs_D hO2) hS k 2 hk rfl h2 hd (fun H1 locs1 p1 p2 p3 => kk none _ hv H1 locs1 ls hlv ?_ ?_ p3)
    · rw [hI]; exact xWs_back hR2 hk p1 (hc2 none) (hc3 none)
    · rw [hI]; exact xOwn_set hO2 (hO2 a _ hc) (hc3 none)
  | some v =>
    obtain ⟨cv, C, T, N, hcv, hcv9, hcl, hca⟩ := cElc (h3 v rfl)
    have hcw : cCell S (wY W9) v = _ := cCell_o hcv hcv9
    obtain ⟨k2, hk2⟩ := xWs_at hcw (hR2 v _ hcw).lt
    refine va_astqO (rest := rest) (E := "java/lang/Object") hx rfl hAmb.1 (xWs_P hR2) (xWs_D hO2) hS k 2 k2 cv hk rfl (hAmb.2.2.2.2.1.2.2 _ hca) hk2 hcl h2 hd (fun H1 locs1 p1 p2 p3 => kk none _ hv H1 locs1 ls hlv ?_ ?_ p3)
    · rw [hI]; exact xWs_back hR2 hk p1 (hc2 (some v)) (hc3 (some v))
    · rw [hI]; exact xOwn_set hO2 (hO2 a _ hc) (hc3 (some v))
theorem xCR_anw {k ci : Nat} (hI : eI E = cI) (X : xCtx W9 E df A p R s m args meth c nL own ws) (h1 : Jvm.Cond.classLink own k "java/lang/Object" ∈ ws) : xCR E (wD W9) vwCl (wY W9) A p l e R s m args below meth c nL (.anewarray k) 1 ci (sp_anw W9) := by
  obtain ⟨hx, hml, hown, hts, hlaw, hAmb, hA, hlocks, hext⟩ := X
  intro pc len H locs ls lv av rest S cs ss KF hd hxl hlen hlv hR hO hS hrc hcat b1 b2 hv kk kx
  cases hxl
  obtain ⟨n, rfl, hn, hv⟩ := hv
  have hR2 := hR
  have hO2 := hO
  rw [hI] at hR2 hO2
  have b1 : cs + 1 ≤ R.cells := b1
  have b2 : ss + 45 ≤ R.slots := b2
  refine va_newq (rest := rest) hx rfl hown (hts _ h1) hAmb.2.2.2.2.2.2.2.1 hAmb.1 (xWs_P hR2) (xWs_D hO2) hS hA (nI_pos (by omega)) (nI_clamp (by omega)) (by omega) b1 (by omega) hd (fun q cA H1 g1 g2 g3 g4 => ?_)
  have eA : wY W9 2 = cA := by
    obtain ⟨_, _, _, _, _, z1⟩ := (g1.2 2 _ rfl).2
    obtain ⟨_, _, _, _, _, z2⟩ := (g1.2 4 _ rfl).2
    exact Option.some.inj (z1.symm.trans z2)
  subst eA
  have hlen : (xWs (wY W9) S H.size ++ [(q, (.inl (wY W9 2, n, .inr (.inr (.inr (.inr (fun _ => none))))) : va_E))])[(xWs (wY W9) S H.size).length]? = some (q, .inl (wY W9 2, n, .inr (.inr (.inr (.inr (fun _ => none)))))) := by simp
  have hold : ∀ (j : Nat) (x : Nat × va_E), (xWs (wY W9) S H.size)[j]? = some x → (xWs (wY W9) S H.size ++ [(q, (.inl (wY W9 2, n, .inr (.inr (.inr (.inr (fun _ => none))))) : va_E))])[j]? = some x := fun j x hj => by
    rw [List.getElem?_append_left (List.getElem?_eq_some_iff.mp hj).1]
    exact hj
  have hdead : cCell S (wY W9) q = none := by
    cases hz : cCell S (wY W9) q with
    | none => rfl
    | some y =>
      obtain ⟨j, hj⟩ := xWs_at hz (hR2 q y hz).lt
      have := g3.1 j _ _ _ (hold j _ hj) hlen rfl
      have := (List.getElem?_eq_some_iff.mp hj).1
      omega
  have hqE : q ≠ wE W9 := fun z => by
    have h := g3.2 _ _ hlen
    rw [z] at h
    exact hAmb.2.2.2.2.2.2.1.out h
  have hc1 : cCell (cNewR S q n) (wY W9) q = some (.inl (wY W9 2, n, .inr (.inr (.inr (.inr (fun _ => none)))))) := by
    refine (cCell_r (S := cNewR S q n) (by simp [cK, cNewR])).trans ?_
    simp [cLen, cRr, cNewR]
  have hc3 : ∀ b, b ≠ q → cCell (cNewR S q n) (wY W9) b = cCell S (wY W9) b := fun b hb => by
    apply cCell_same <;> simp [cK, cFi, cFr, cLen, cRi, cRr, cNewR, hb]
  refine W.widen (Nat.le_refl _) (show ss + n ≤ ss + 45 by omega) ?_
  refine kk (some (.ref q)) _ (hv q (cDead_of hdead) hqE) H1 locs ls hlv ?_ ?_ g4
  · rw [hI]
    intro b y hb
    by_cases z : b = q
    · subst z
      have e3 := Option.some.inj (hc1.symm.trans hb)
      subst e3
      exact g2 _ _ hlen
    · have hb2 : cCell S (wY W9) b = some y := (hc3 b z).symm.trans hb
      obtain ⟨j, hj⟩ := xWs_at hb2 (hR2 b y hb2).lt
      exact g2 j _ (hold j _ hj)
  · rw [hI]
    exact xOwn_set hO2 (g3.2 _ _ hlen) hc3
theorem xCR_cpy {k ci : Nat} (hI : eI E = cI) (X : xCtx W9 E df A p R s m args meth c nL own ws) (w1 : Jvm.Cond.methodLink own k arraycopyName ∈ ws) (w2 : Jvm.Cond.native arraycopyName ∈ ws) (w3 : Jvm.Cond.static arraycopyName ∈ ws) (w4 : Jvm.Cond.initialized "java/lang/System" ∈ ws) (hRm : 1 ≤ R.frames ∧ 60 ≤ R.locals) :
    xCR E (wD W9) vwCl (wY W9) A p l e R s m args below meth c nL (.invokestatic k) 5 ci (sp_cpy W9) := by
  obtain ⟨hx, hml, hown, hts, hlaw, hAmb, hA, hlocks, hext⟩ := X
  intro pc len H locs ls lv av rest S cs ss KF hd hxl hlen hlv hR hO hS hrc hcat b1 b2 hv kk kx
  cases hxl
  obtain ⟨x, y, p1, p2, p3, c9, rfl, ⟨h1, h2⟩, ⟨h3, h4, h5, h6, h7⟩, ⟨h8, h9⟩, hv⟩ := hv
  have hR2 := hR
  have hO2 := hO
  rw [hI] at hR2 hO2
  have hcx : cCell S (wY W9) x = _ := cCell_r h1
  have hcy : cCell S (wY W9) y = _ := cCell_r h2
  obtain ⟨k1, hk1⟩ := xWs_at hcx (hR2 x _ hcx).lt
  obtain ⟨k2, hk2⟩ := xWs_at hcy (hR2 y _ hcy).lt
  obtain ⟨cv, C, T, N, hcv, hcv9, hcl, hca⟩ := cElc h8
  have e1 : (nI p1).toNatClampNeg = p1 := nI_clamp (by omega)
  have e2 : (nI p2).toNatClampNeg = p2 := nI_clamp (by omega)
  have e3 : (nI p3).toNatClampNeg = p3 := nI_clamp (by omega)
  refine va_copyq (rest := rest) (E0 := "java/lang/Object") (E1 := "java/lang/Object") (C := C) hx rfl (by rw [hml]; exact hlv.1.symm) hown (hts _ w1) (hts _ w2) (hts _ w3) (hts _ w4) hAmb.1 (xWs_P hR2) (xWs_D hO2) hS k1 k2 2 2 hk1 hk2 rfl rfl (nI_pos (by omega)) (nI_pos (by omega)) (nI_pos (by omega)) (by rw [e1, e3]; exact h3) (by rw [e2, e3]; exact h4) ?_ ?_ hRm.1 ?_ hd (fun H1 locs1 q1 q2 q3 => kk none _ hv H1 locs1 ls hlv ?_ ?_ q3)
  · intro i hi b hb
    rw [e3] at hi
    rw [e1] at hb
    have hb2 := h9 i hi b hb
    have hcb : cCell S (wY W9) b = _ := cCell_o (ci := cv) (hb2.trans hcv) hcv9
    exact va_recv hAmb.1 (xP1 (hR2 b _ hcb)) hcl (q0 := 0) rfl
  · intro comp c0 z1 z2
    obtain ⟨c1, t1, f1, f2, f3⟩ := Jvm.Cond.castable_spec (va_Nw.use (A := args) rfl (hAmb.2.2.2.2.1.2.2 _ hca))
    cases z2.symm.trans f1
    cases z1.symm.trans f2
    exact f3
  · have hw : nativeFrameWords "java/lang/System" "arraycopy" 5 ≤ 40 := by decide
    omega
  · rw [hI]
    rw [e1, e2, e3] at q1
    refine xWs_back hR2 hk2 q1 ?_ ?_
    · refine (cCell_r (S := cCpy S x y p1 p2 p3) h2).trans ?_
      refine congrArg (fun f => some (Sum.inl (wY W9 2, cLen S y, Sum.inr (Sum.inr (Sum.inr (Sum.inr f)))))) ?_
      funext j
      simp [cRr, cCpy]
    · intro b hb
      apply cCell_same <;> simp [cK, cFi, cFr, cLen, cRi, cRr, cCpy, hb]
  · rw [hI]
    refine xOwn_set (a := y) hO2 (hO2 y _ hcy) ?_
    intro b hb
    apply cCell_same <;> simp [cK, cFi, cFr, cLen, cRi, cRr, cCpy, hb]
theorem xCR_ldk {k ci : Nat} (X : xCtx W9 E df A p R s m args meth c nL own ws) (h1 : Jvm.Cond.classLink own k "[Ljava/lang/Object;" ∈ ws) : xCR E (wD W9) vwCl (wY W9) A p l e R s m args below meth c nL (.ldc k) 0 ci (sp_ldk W9) := by
  obtain ⟨hx, hml, hown, hts, hlaw, hAmb, hA, hlocks, hext⟩ := X
  intro pc len H locs ls lv av rest S cs ss KF hd hxl hlen hlv hR hO hS hrc hcat b1 b2 hv kk kx
  cases hxl
  obtain ⟨rfl, hv⟩ := hv
  exact va_ldcM (rest := rest) hx rfl hown (hts _ h1) hAmb.2.2.2.2.2.2.2.2.2 hd (kk (some (.ref (wMi W9))) S hv H locs ls hlv hR hO hS)
theorem xCR_gcl {k : Nat} (hI : eI E = cI) (X : xCtx W9 E df A p R s m args meth c nL own ws) (w1 : Jvm.Cond.methodLink own k ⟨"java/lang/Object", "getClass", "()Ljava/lang/Class;"⟩ ∈ ws) (w2 : Jvm.Cond.selects "[Ljava/lang/Object;" ⟨"java/lang/Object", "getClass", "()Ljava/lang/Class;"⟩ ⟨"java/lang/Object", "getClass", "()Ljava/lang/Class;"⟩ ∈ ws) (w3 : Jvm.Cond.instanceMethod ⟨"java/lang/Object", "getClass", "()Ljava/lang/Class;"⟩ ∈ ws) (w4 : Jvm.Cond.native ⟨"java/lang/Object", "getClass", "()Ljava/lang/Class;"⟩ ∈ ws) (hRm : 1 ≤ R.frames ∧ 60 ≤ R.locals) :
    xCR E (wD W9) vwCl (wY W9) A p l e R s m args below meth c nL (.invokevirtual k) 1 99 (sp_gcl W9) := by
  obtain ⟨hx, hml, hown, hts, hlaw, hAmb, hA, hlocks, hext⟩ := X
  intro pc len H locs ls lv av rest S cs ss KF hd hxl hlen hlv hR hO hS hrc hcat b1 b2 hv kk kx
  cases hxl
  obtain ⟨a, rfl, h1, hv⟩ := hv
  have hR2 := hR
  rw [hI] at hR2
  have hc : cCell S (wY W9) a = _ := cCell_r h1
  refine va_getC (rest := rest) (C := "[Ljava/lang/Object;") hx rfl (by rw [hml]; exact hlv.1.symm) hown (hts _ w1) (va_Dc.use hAmb.2.2.2.2.2.2.2.2.1) (hts _ w2) (hts _ w3) (hts _ w4) hAmb.2.2.2.2.2.2.2.2.2 ?_ hRm.1 (by omega) hd (kk (some (.ref (wMi W9))) S hv H locs ls hlv hR hO hS)
  have hcell : H[a]? = some (vp_cell (wY W9 2) (cLen S a, .inr (.inr (.inr (.inr (cRr S a)))))) := hR2 a _ hc
  exact ⟨_, hcell, rfl, va_nmO (hAmb.1.2 2 _ rfl).2 rfl⟩
end XL
