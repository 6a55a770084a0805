/-! The law's own body: what its cases rest on; its cases. -/
theorem lM_mk {sp : xSp mS} {av : List Value} {S : lS} {K : xRes → lS → Prop} (h : sp.2 av S.2.1 (fun r M => K r (S.1, M, S.2.2))) : (lM sp).2 av S K := h
abbrev lLv (b x a0 oA i : Nat) (u v : Option Value) : xLv := [some (.ref b), some (.ref x), some (.ref a0), some (.ref oA), some (.int (nI i)), u, v]
def lZ (E : xEnv lS) (W9 : xWd) (A : Nat → Prop) (p : Program) (R : Room) (s : State) (m : MethodId) (args : Array Value) (c : Code) (b L : Nat) (xs : Nat → Int32) (aM : Nat → Nat) (oA : Nat) : Prop :=
  (eI E = lI aM oA ∧ mInj aM ∧ lOut aM oA) ∧ xCtxL W9 E A p s m args c 7 RL wsL_law ∧ c.code = cL_law ∧ lNc s ∧ (va_X b L xs s s.heap ∧ b < s.heap.size ∧ ¬ A b ∧ L ≤ 3584) ∧ 40 ≤ R.frames ∧ 1000 ≤ R.locals
def lNx (E : xEnv lS) (W9 : xWd) (A : Nat → Prop) (p : Program) (l : Launch) (e : Env) (R : Room) (s : State) (m : MethodId) (args : Array Value) (below : List Frame) (meth : Method) (c : Code) (b x : Nat) (aM : Nat → Nat) (oA i B cs ss : Nat) : Prop :=
  ∀ (S : lS) (cs2 ss2 : Nat) (u v : Option Value), RR W9 (B + 15) x S.1 S.2.1 → lApt aM oA S.1 → cs2 ≤ cs + 290 → ss2 ≤ ss + 9660 → wG E W9 A p l e R s m args below meth c 7 2574 (lLv b x (aM 0) oA i u v) [] S cs2 ss2
section LK
variable {E : xEnv lS} {W9 : xWd} {A : Nat → Prop} {aM : Nat → Nat} {oA : Nat}
variable {p : Program} {l : Launch} {e : Env} {R : Room} {s : State} {m : MethodId} {args : Array Value} {below : List Frame} {meth : Method} {c : Code}
variable {b L i x B : Nat} {xs : Nat → Int32} {u v : Option Value} {S : lS} {cs ss : Nat}
set_option maxHeartbeats 1000000 in
set_option maxRecDepth 20000 in
theorem lc_reach (hl : l.stackTraces = false) (Z : lZ E W9 A p R s m args c b L xs aM oA) (hi : i + 7 ≤ L) (hR : RR W9 B x S.1 S.2.1) (hB : B + 15 ≤ 8000) (hd : lApt aM oA S.1) (c1 : cs + 290 ≤ R.cells) (c2 : ss + 9660 ≤ R.slots) (hk : lNx E W9 A p l e R s m args below meth c b x aM oA i B cs ss) : wG E W9 A p l e R s m args below meth c 7 188 (lLv b x (aM 0) oA i u v) [] S cs ss := by
  obtain ⟨⟨hI, hi9, ho⟩, X, hb, hN, ⟨hX, hbl, hbA, hL⟩, r1, r2⟩ := Z
  have hall : iAll S.2.1 := by
    obtain ⟨_, _, _, h⟩ := hR
    exact h.2.2.1
  refine wg_aln (u := 1) (k := 1) X.1 hb (by decide +kernel) rfl rfl ?_
  refine wl_arg (n := 1) (z := 1) (i := i) X hb hX hbl hbA rfl rfl (by decide +kernel) (by decide +kernel) (by decide +kernel) (by decide +kernel) (by decide +kernel) (by decide +kernel) (by omega) hL (by omega) (by omega) (by show 1 + (0) ≤ 8; omega) ?_
  change wG E W9 A p l e R s m args below meth c 7 195 (lLv b x (aM 0) oA i u v) [.int (xs (i + 1)), .ref x] S cs ss
  refine wl_arg (n := 2) (z := 2) (i := i) X hb hX hbl hbA rfl rfl (by decide +kernel) (by decide +kernel) (by decide +kernel) (by decide +kernel) (by decide +kernel) (by decide +kernel) (by omega) hL (by omega) (by omega) (by show 1 + (1 + (0)) ≤ 8; omega) ?_
  change wG E W9 A p l e R s m args below meth c 7 201 (lLv b x (aM 0) oA i u v) [.int (xs (i + 2)), .int (xs (i + 1)), .ref x] S cs ss
  refine wl_arg (n := 3) (z := 3) (i := i) X hb hX hbl hbA rfl rfl (by decide +kernel) (by decide +kernel) (by decide +kernel) (by decide +kernel) (by decide +kernel) (by decide +kernel) (by omega) hL (by omega) (by omega) (by show 1 + (1 + (1 + (0))) ≤ 8; omega) ?_
  change wG E W9 A p l e R s m args below meth c 7 207 (lLv b x (aM 0) oA i u v) [.int (xs (i + 3)), .int (xs (i + 2)), .int (xs (i + 1)), .ref x] S cs ss
  refine wl_arg (n := 4) (z := 4) (i := i) X hb hX hbl hbA rfl rfl (by decide +kernel) (by decide +kernel) (by decide +kernel) (by decide +kernel) (by decide +kernel) (by decide +kernel) (by omega) hL (by omega) (by omega) (by show 1 + (1 + (1 + (1 + (0)))) ≤ 8; omega) ?_
  change wG E W9 A p l e R s m args below meth c 7 213 (lLv b x (aM 0) oA i u v) [.int (xs (i + 4)), .int (xs (i + 3)), .int (xs (i + 2)), .int (xs (i + 1)), .ref x] S cs ss
  refine wl_arg (n := 5) (z := 5) (i := i) X hb hX hbl hbA rfl rfl (by decide +kernel) (by decide +kernel) (by decide +kernel) (by decide +kernel) (by decide +kernel) (by decide +kernel) (by omega) hL (by omega) (by omega) (by show 1 + (1 + (1 + (1 + (1 + (0))))) ≤ 8; omega) ?_
  change wG E W9 A p l e R s m args below meth c 7 219 (lLv b x (aM 0) oA i u v) [.int (xs (i + 5)), .int (xs (i + 4)), .int (xs (i + 3)), .int (xs (i + 2)), .int (xs (i + 1)), .ref x] S cs ss
  refine wl_bool X.1 hb (by decide +kernel) (by decide +kernel) (by decide +kernel) (by decide +kernel) ?_
  change wG E W9 A p l e R s m args below meth c 7 227 (lLv b x (aM 0) oA i u v) [.int (if xs (i + 5) = 0 then 0 else 1), .int (xs (i + 4)), .int (xs (i + 3)), .int (xs (i + 2)), .int (xs (i + 1)), .ref x] S cs ss
  refine wg_call (i := .invokestatic 124) (len := 3) (av := [.ref x, .int (xs (i + 1)), .int (xs (i + 2)), .int (xs (i + 3)), .int (xs (i + 4)), .int (if xs (i + 5) = 0 then 0 else 1)]) (rest := []) (KF := fun r S' => ∃ S2, (r = rI ((oReach S.2.1 (xs (i + 1)) (xs (i + 2)) (xs (i + 3)) (xs (i + 4)) (if xs (i + 5) = 0 then 0 else 1)).1 0) ∧ S' = (S2, S.2.1, S.2.2)) ∧ RR W9 (B + 15) x S2 (oReach S.2.1 (xs (i + 1)) (xs (i + 2)) (xs (i + 3)) (xs (i + 4)) (if xs (i + 5) = 0 then 0 else 1)) ∧ lApt aM oA S2) (xCR_SX (n := 6) (ci := 0) hI X hN (semL_reach l hl W9 aM oA) gL_law_L_reach rfl (by decide +kernel) ⟨by omega, by omega⟩) hb (by decide +kernel) rfl rfl rfl (fun ⟨k, q⟩ => by cases q) (by decide) (by show cs + 5 ≤ _; omega) (by show ss + 30 ≤ _; omega) ⟨x, _, _, _, _, _, B, rfl, wl_b01, ⟨hR, hB, hd⟩, fun S2 h1 h2 => ⟨S2, ⟨rfl, rfl⟩, h1, h2⟩⟩ (fun w S' hk1 => ?_) (fun ex S' hk1 => by obtain ⟨_, ⟨h, _⟩, _⟩ := hk1; cases h)
  obtain ⟨S2, ⟨e1, rfl⟩, g1, g2⟩ := hk1
  cases e1
  refine wg_is (k := 5) X.1 hb (by decide +kernel) (by omega) ?_
  change wG E W9 A p l e R s m args below meth c 7 232 (lLv b x (aM 0) oA i (some (.int ((oReach S.2.1 (xs (i + 1)) (xs (i + 2)) (xs (i + 3)) (xs (i + 4)) (if xs (i + 5) = 0 then 0 else 1)).1 0))) v) [] (S2, S.2.1, S.2.2) (cs + 5) (ss + 30)
  refine wg_aln (u := 2) (k := 2) X.1 hb (by decide +kernel) rfl rfl ?_
  refine wl_arg (n := 1) (z := 1) (i := i) X hb hX hbl hbA rfl rfl (by decide +kernel) (by decide +kernel) (by decide +kernel) (by decide +kernel) (by decide +kernel) (by decide +kernel) (by omega) hL (by omega) (by omega) (by show 1 + (0) ≤ 8; omega) ?_
  change wG E W9 A p l e R s m args below meth c 7 239 (lLv b x (aM 0) oA i (some (.int ((oReach S.2.1 (xs (i + 1)) (xs (i + 2)) (xs (i + 3)) (xs (i + 4)) (if xs (i + 5) = 0 then 0 else 1)).1 0))) v) [.int (xs (i + 1)), .ref (aM 0)] (S2, S.2.1, S.2.2) (cs + 5) (ss + 30)
  refine wl_arg (n := 2) (z := 2) (i := i) X hb hX hbl hbA rfl rfl (by decide +kernel) (by decide +kernel) (by decide +kernel) (by decide +kernel) (by decide +kernel) (by decide +kernel) (by omega) hL (by omega) (by omega) (by show 1 + (1 + (0)) ≤ 8; omega) ?_
  change wG E W9 A p l e R s m args below meth c 7 245 (lLv b x (aM 0) oA i (some (.int ((oReach S.2.1 (xs (i + 1)) (xs (i + 2)) (xs (i + 3)) (xs (i + 4)) (if xs (i + 5) = 0 then 0 else 1)).1 0))) v) [.int (xs (i + 2)), .int (xs (i + 1)), .ref (aM 0)] (S2, S.2.1, S.2.2) (cs + 5) (ss + 30)
  refine wl_arg (n := 3) (z := 3) (i := i) X hb hX hbl hbA rfl rfl (by decide +kernel) (by decide +kernel) (by decide +kernel) (by decide +kernel) (by decide +kernel) (by decide +kernel) (by omega) hL (by omega) (by omega) (by show 1 + (1 + (1 + (0))) ≤ 8; omega) ?_
  change wG E W9 A p l e R s m args below meth c 7 251 (lLv b x (aM 0) oA i (some (.int ((oReach S.2.1 (xs (i + 1)) (xs (i + 2)) (xs (i + 3)) (xs (i + 4)) (if xs (i + 5) = 0 then 0 else 1)).1 0))) v) [.int (xs (i + 3)), .int (xs (i + 2)), .int (xs (i + 1)), .ref (aM 0)] (S2, S.2.1, S.2.2) (cs + 5) (ss + 30)
  refine wl_arg (n := 4) (z := 4) (i := i) X hb hX hbl hbA rfl rfl (by decide +kernel) (by decide +kernel) (by decide +kernel) (by decide +kernel) (by decide +kernel) (by decide +kernel) (by omega) hL (by omega) (by omega) (by show 1 + (1 + (1 + (1 + (0)))) ≤ 8; omega) ?_
  change wG E W9 A p l e R s m args below meth c 7 257 (lLv b x (aM 0) oA i (some (.int ((oReach S.2.1 (xs (i + 1)) (xs (i + 2)) (xs (i + 3)) (xs (i + 4)) (if xs (i + 5) = 0 then 0 else 1)).1 0))) v) [.int (xs (i + 4)), .int (xs (i + 3)), .int (xs (i + 2)), .int (xs (i + 1)), .ref (aM 0)] (S2, S.2.1, S.2.2) (cs + 5) (ss + 30)
  refine wl_arg (n := 5) (z := 5) (i := i) X hb hX hbl hbA rfl rfl (by decide +kernel) (by decide +kernel) (by decide +kernel) (by decide +kernel) (by decide +kernel) (by decide +kernel) (by omega) hL (by omega) (by omega) (by show 1 + (1 + (1 + (1 + (1 + (0))))) ≤ 8; omega) ?_
  change wG E W9 A p l e R s m args below meth c 7 263 (lLv b x (aM 0) oA i (some (.int ((oReach S.2.1 (xs (i + 1)) (xs (i + 2)) (xs (i + 3)) (xs (i + 4)) (if xs (i + 5) = 0 then 0 else 1)).1 0))) v) [.int (xs (i + 5)), .int (xs (i + 4)), .int (xs (i + 3)), .int (xs (i + 2)), .int (xs (i + 1)), .ref (aM 0)] (S2, S.2.1, S.2.2) (cs + 5) (ss + 30)
  refine wl_bool X.1 hb (by decide +kernel) (by decide +kernel) (by decide +kernel) (by decide +kernel) ?_
  change wG E W9 A p l e R s m args below meth c 7 271 (lLv b x (aM 0) oA i (some (.int ((oReach S.2.1 (xs (i + 1)) (xs (i + 2)) (xs (i + 3)) (xs (i + 4)) (if xs (i + 5) = 0 then 0 else 1)).1 0))) v) [.int (if xs (i + 5) = 0 then 0 else 1), .int (xs (i + 4)), .int (xs (i + 3)), .int (xs (i + 2)), .int (xs (i + 1)), .ref (aM 0)] (S2, S.2.1, S.2.2) (cs + 5) (ss + 30)
  refine wg_call (i := .invokevirtual 129) (len := 3) (av := [.ref (aM 0), .int (xs (i + 1)), .int (xs (i + 2)), .int (xs (i + 3)), .int (xs (i + 4)), .int (if xs (i + 5) = 0 then 0 else 1)]) (rest := []) (KF := fun r S' => r = rV ∧ S' = (S2, (oReach S.2.1 (xs (i + 1)) (xs (i + 2)) (xs (i + 3)) (xs (i + 4)) (if xs (i + 5) = 0 then 0 else 1)), S.2.2)) (xCR_VM (n := 5) (ci := 9) hI ho X (semX8_reach l W9 aM hi9) gL_law_X8_reach rfl rfl (by decide +kernel) ⟨by omega, by omega⟩) hb (by decide +kernel) rfl rfl rfl (fun _ => Or.inr (by rw [hI]; exact Or.inr ⟨rfl, rfl, ho 0 (by omega)⟩)) (by decide) (by show (cs + 5) + 0 ≤ _; omega) (by show (ss + 30) + 0 ≤ _; omega) (lM_mk (N_reach hall wl_b01 ⟨rfl, rfl⟩)) (fun w S' hk2 => ?_) (fun ex S' hk2 => by cases hk2.1)
  obtain ⟨e2, rfl⟩ := hk2
  cases e2
  change wG E W9 A p l e R s m args below meth c 7 274 (lLv b x (aM 0) oA i (some (.int ((oReach S.2.1 (xs (i + 1)) (xs (i + 2)) (xs (i + 3)) (xs (i + 4)) (if xs (i + 5) = 0 then 0 else 1)).1 0))) v) [] (S2, (oReach S.2.1 (xs (i + 1)) (xs (i + 2)) (xs (i + 3)) (xs (i + 4)) (if xs (i + 5) = 0 then 0 else 1)), S.2.2) (cs + 5) (ss + 30)
  refine wl_th (k5 := (oReach S.2.1 (xs (i + 1)) (xs (i + 2)) (xs (i + 3)) (xs (i + 4)) (if xs (i + 5) = 0 then 0 else 1)).1 0) hI hi9 ho X hb ⟨by omega, by omega⟩ rfl rfl rfl (by omega) (by omega) (by decide +kernel) (by decide +kernel) (by decide +kernel) (by decide +kernel) ?_
  change wG E W9 A p l e R s m args below meth c 7 285 (lLv b x (aM 0) oA i (some (.int ((oReach S.2.1 (xs (i + 1)) (xs (i + 2)) (xs (i + 3)) (xs (i + 4)) (if xs (i + 5) = 0 then 0 else 1)).1 0))) v) [] (S2, (oReach S.2.1 (xs (i + 1)) (xs (i + 2)) (xs (i + 3)) (xs (i + 4)) (if xs (i + 5) = 0 then 0 else 1)), S.2.2) (cs + 5) (ss + 30)
  refine wg_goto (z := 2574) (n2 := 2289) X.1 hb (by decide +kernel) (by decide) ?_
  exact hk _ _ _ _ _ g1 g2 (by omega) (by omega)
set_option maxHeartbeats 1000000 in
set_option maxRecDepth 20000 in
theorem lc_lock (hl : l.stackTraces = false) (Z : lZ E W9 A p R s m args c b L xs aM oA) (hi : i + 7 ≤ L) (hR : RR W9 B x S.1 S.2.1) (hB : B + 15 ≤ 8000) (hd : lApt aM oA S.1) (c1 : cs + 290 ≤ R.cells) (c2 : ss + 9660 ≤ R.slots) (hk : lNx E W9 A p l e R s m args below meth c b x aM oA i B cs ss) : wG E W9 A p l e R s m args below meth c 7 288 (lLv b x (aM 0) oA i u v) [] S cs ss := by
  obtain ⟨⟨hI, hi9, ho⟩, X, hb, hN, ⟨hX, hbl, hbA, hL⟩, r1, r2⟩ := Z
  have hall : iAll S.2.1 := by
    obtain ⟨_, _, _, h⟩ := hR
    exact h.2.2.1
  refine wg_aln (u := 1) (k := 1) X.1 hb (by decide +kernel) rfl rfl ?_
  refine wl_arg (n := 1) (z := 1) (i := i) X hb hX hbl hbA rfl rfl (by decide +kernel) (by decide +kernel) (by decide +kernel) (by decide +kernel) (by decide +kernel) (by decide +kernel) (by omega) hL (by omega) (by omega) (by show 1 + (0) ≤ 8; omega) ?_
  change wG E W9 A p l e R s m args below meth c 7 295 (lLv b x (aM 0) oA i u v) [.int (xs (i + 1)), .ref x] S cs ss
  refine wl_arg (n := 2) (z := 2) (i := i) X hb hX hbl hbA rfl rfl (by decide +kernel) (by decide +kernel) (by decide +kernel) (by decide +kernel) (by decide +kernel) (by decide +kernel) (by omega) hL (by omega) (by omega) (by show 1 + (1 + (0)) ≤ 8; omega) ?_
  change wG E W9 A p l e R s m args below meth c 7 301 (lLv b x (aM 0) oA i u v) [.int (xs (i + 2)), .int (xs (i + 1)), .ref x] S cs ss
  refine wl_arg (n := 3) (z := 3) (i := i) X hb hX hbl hbA rfl rfl (by decide +kernel) (by decide +kernel) (by decide +kernel) (by decide +kernel) (by decide +kernel) (by decide +kernel) (by omega) hL (by omega) (by omega) (by show 1 + (1 + (1 + (0))) ≤ 8; omega) ?_
  change wG E W9 A p l e R s m args below meth c 7 307 (lLv b x (aM 0) oA i u v) [.int (xs (i + 3)), .int (xs (i + 2)), .int (xs (i + 1)), .ref x] S cs ss
  refine wl_arg (n := 4) (z := 4) (i := i) X hb hX hbl hbA rfl rfl (by decide +kernel) (by decide +kernel) (by decide +kernel) (by decide +kernel) (by decide +kernel) (by decide +kernel) (by omega) hL (by omega) (by omega) (by show 1 + (1 + (1 + (1 + (0)))) ≤ 8; omega) ?_
  change wG E W9 A p l e R s m args below meth c 7 313 (lLv b x (aM 0) oA i u v) [.int (xs (i + 4)), .int (xs (i + 3)), .int (xs (i + 2)), .int (xs (i + 1)), .ref x] S cs ss
  refine wl_bool X.1 hb (by decide +kernel) (by decide +kernel) (by decide +kernel) (by decide +kernel) ?_
  change wG E W9 A p l e R s m args below meth c 7 321 (lLv b x (aM 0) oA i u v) [.int (if xs (i + 4) = 0 then 0 else 1), .int (xs (i + 3)), .int (xs (i + 2)), .int (xs (i + 1)), .ref x] S cs ss
  refine wg_call (i := .invokestatic 134) (len := 3) (av := [.ref x, .int (xs (i + 1)), .int (xs (i + 2)), .int (xs (i + 3)), .int (if xs (i + 4) = 0 then 0 else 1)]) (rest := []) (KF := fun r S' => ∃ S2, (r = rI ((oLock S.2.1 (xs (i + 1)) (xs (i + 2)) (xs (i + 3)) (if xs (i + 4) = 0 then 0 else 1)).1 0) ∧ S' = (S2, S.2.1, S.2.2)) ∧ RR W9 (B + 15) x S2 (oLock S.2.1 (xs (i + 1)) (xs (i + 2)) (xs (i + 3)) (if xs (i + 4) = 0 then 0 else 1)) ∧ lApt aM oA S2) (xCR_SX (n := 5) (ci := 0) hI X hN (semL_lock l hl W9 aM oA) gL_law_L_lock rfl (by decide +kernel) ⟨by omega, by omega⟩) hb (by decide +kernel) rfl rfl rfl (fun ⟨k, q⟩ => by cases q) (by decide) (by show cs + 4 ≤ _; omega) (by show ss + 24 ≤ _; omega) ⟨x, _, _, _, _, B, rfl, wl_b01, ⟨hR, hB, hd⟩, fun S2 h1 h2 => ⟨S2, ⟨rfl, rfl⟩, h1, h2⟩⟩ (fun w S' hk1 => ?_) (fun ex S' hk1 => by obtain ⟨_, ⟨h, _⟩, _⟩ := hk1; cases h)
  obtain ⟨S2, ⟨e1, rfl⟩, g1, g2⟩ := hk1
  cases e1
  refine wg_is (k := 5) X.1 hb (by decide +kernel) (by omega) ?_
  change wG E W9 A p l e R s m args below meth c 7 326 (lLv b x (aM 0) oA i (some (.int ((oLock S.2.1 (xs (i + 1)) (xs (i + 2)) (xs (i + 3)) (if xs (i + 4) = 0 then 0 else 1)).1 0))) v) [] (S2, S.2.1, S.2.2) (cs + 4) (ss + 24)
  refine wg_aln (u := 2) (k := 2) X.1 hb (by decide +kernel) rfl rfl ?_
  refine wl_arg (n := 1) (z := 1) (i := i) X hb hX hbl hbA rfl rfl (by decide +kernel) (by decide +kernel) (by decide +kernel) (by decide +kernel) (by decide +kernel) (by decide +kernel) (by omega) hL (by omega) (by omega) (by show 1 + (0) ≤ 8; omega) ?_
  change wG E W9 A p l e R s m args below meth c 7 333 (lLv b x (aM 0) oA i (some (.int ((oLock S.2.1 (xs (i + 1)) (xs (i + 2)) (xs (i + 3)) (if xs (i + 4) = 0 then 0 else 1)).1 0))) v) [.int (xs (i + 1)), .ref (aM 0)] (S2, S.2.1, S.2.2) (cs + 4) (ss + 24)
  refine wl_arg (n := 2) (z := 2) (i := i) X hb hX hbl hbA rfl rfl (by decide +kernel) (by decide +kernel) (by decide +kernel) (by decide +kernel) (by decide +kernel) (by decide +kernel) (by omega) hL (by omega) (by omega) (by show 1 + (1 + (0)) ≤ 8; omega) ?_
  change wG E W9 A p l e R s m args below meth c 7 339 (lLv b x (aM 0) oA i (some (.int ((oLock S.2.1 (xs (i + 1)) (xs (i + 2)) (xs (i + 3)) (if xs (i + 4) = 0 then 0 else 1)).1 0))) v) [.int (xs (i + 2)), .int (xs (i + 1)), .ref (aM 0)] (S2, S.2.1, S.2.2) (cs + 4) (ss + 24)
  refine wl_arg (n := 3) (z := 3) (i := i) X hb hX hbl hbA rfl rfl (by decide +kernel) (by decide +kernel) (by decide +kernel) (by decide +kernel) (by decide +kernel) (by decide +kernel) (by omega) hL (by omega) (by omega) (by show 1 + (1 + (1 + (0))) ≤ 8; omega) ?_
  change wG E W9 A p l e R s m args below meth c 7 345 (lLv b x (aM 0) oA i (some (.int ((oLock S.2.1 (xs (i + 1)) (xs (i + 2)) (xs (i + 3)) (if xs (i + 4) = 0 then 0 else 1)).1 0))) v) [.int (xs (i + 3)), .int (xs (i + 2)), .int (xs (i + 1)), .ref (aM 0)] (S2, S.2.1, S.2.2) (cs + 4) (ss + 24)
  refine wl_arg (n := 4) (z := 4) (i := i) X hb hX hbl hbA rfl rfl (by decide +kernel) (by decide +kernel) (by decide +kernel) (by decide +kernel) (by decide +kernel) (by decide +kernel) (by omega) hL (by omega) (by omega) (by show 1 + (1 + (1 + (1 + (0)))) ≤ 8; omega) ?_
  change wG E W9 A p l e R s m args below meth c 7 351 (lLv b x (aM 0) oA i (some (.int ((oLock S.2.1 (xs (i + 1)) (xs (i + 2)) (xs (i + 3)) (if xs (i + 4) = 0 then 0 else 1)).1 0))) v) [.int (xs (i + 4)), .int (xs (i + 3)), .int (xs (i + 2)), .int (xs (i + 1)), .ref (aM 0)] (S2, S.2.1, S.2.2) (cs + 4) (ss + 24)
  refine wl_bool X.1 hb (by decide +kernel) (by decide +kernel) (by decide +kernel) (by decide +kernel) ?_
  change wG E W9 A p l e R s m args below meth c 7 359 (lLv b x (aM 0) oA i (some (.int ((oLock S.2.1 (xs (i + 1)) (xs (i + 2)) (xs (i + 3)) (if xs (i + 4) = 0 then 0 else 1)).1 0))) v) [.int (if xs (i + 4) = 0 then 0 else 1), .int (xs (i + 3)), .int (xs (i + 2)), .int (xs (i + 1)), .ref (aM 0)] (S2, S.2.1, S.2.2) (cs + 4) (ss + 24)
  refine wg_call (i := .invokevirtual 137) (len := 3) (av := [.ref (aM 0), .int (xs (i + 1)), .int (xs (i + 2)), .int (xs (i + 3)), .int (if xs (i + 4) = 0 then 0 else 1)]) (rest := []) (KF := fun r S' => r = rV ∧ S' = (S2, (oLock S.2.1 (xs (i + 1)) (xs (i + 2)) (xs (i + 3)) (if xs (i + 4) = 0 then 0 else 1)), S.2.2)) (xCR_VM (n := 4) (ci := 9) hI ho X (semX8_lock l W9 aM hi9) gL_law_X8_lock rfl rfl (by decide +kernel) ⟨by omega, by omega⟩) hb (by decide +kernel) rfl rfl rfl (fun _ => Or.inr (by rw [hI]; exact Or.inr ⟨rfl, rfl, ho 0 (by omega)⟩)) (by decide) (by show (cs + 4) + 0 ≤ _; omega) (by show (ss + 24) + 0 ≤ _; omega) (lM_mk (N_lock hall wl_b01 ⟨rfl, rfl⟩)) (fun w S' hk2 => ?_) (fun ex S' hk2 => by cases hk2.1)
  obtain ⟨e2, rfl⟩ := hk2
  cases e2
  change wG E W9 A p l e R s m args below meth c 7 362 (lLv b x (aM 0) oA i (some (.int ((oLock S.2.1 (xs (i + 1)) (xs (i + 2)) (xs (i + 3)) (if xs (i + 4) = 0 then 0 else 1)).1 0))) v) [] (S2, (oLock S.2.1 (xs (i + 1)) (xs (i + 2)) (xs (i + 3)) (if xs (i + 4) = 0 then 0 else 1)), S.2.2) (cs + 4) (ss + 24)
  refine wl_th (k5 := (oLock S.2.1 (xs (i + 1)) (xs (i + 2)) (xs (i + 3)) (if xs (i + 4) = 0 then 0 else 1)).1 0) hI hi9 ho X hb ⟨by omega, by omega⟩ rfl rfl rfl (by omega) (by omega) (by decide +kernel) (by decide +kernel) (by decide +kernel) (by decide +kernel) ?_
  change wG E W9 A p l e R s m args below meth c 7 373 (lLv b x (aM 0) oA i (some (.int ((oLock S.2.1 (xs (i + 1)) (xs (i + 2)) (xs (i + 3)) (if xs (i + 4) = 0 then 0 else 1)).1 0))) v) [] (S2, (oLock S.2.1 (xs (i + 1)) (xs (i + 2)) (xs (i + 3)) (if xs (i + 4) = 0 then 0 else 1)), S.2.2) (cs + 4) (ss + 24)
  refine wg_goto (z := 2574) (n2 := 2201) X.1 hb (by decide +kernel) (by decide) ?_
  exact hk _ _ _ _ _ g1 g2 (by omega) (by omega)
set_option maxHeartbeats 1000000 in
set_option maxRecDepth 20000 in
theorem lc_dredge (hl : l.stackTraces = false) (Z : lZ E W9 A p R s m args c b L xs aM oA) (hi : i + 7 ≤ L) (hR : RR W9 B x S.1 S.2.1) (hB : B + 15 ≤ 8000) (hd : lApt aM oA S.1) (c1 : cs + 290 ≤ R.cells) (c2 : ss + 9660 ≤ R.slots) (hk : lNx E W9 A p l e R s m args below meth c b x aM oA i B cs ss) : wG E W9 A p l e R s m args below meth c 7 376 (lLv b x (aM 0) oA i u v) [] S cs ss := by
  obtain ⟨⟨hI, hi9, ho⟩, X, hb, hN, ⟨hX, hbl, hbA, hL⟩, r1, r2⟩ := Z
  have hall : iAll S.2.1 := by
    obtain ⟨_, _, _, h⟩ := hR
    exact h.2.2.1
  refine wg_aln (u := 1) (k := 1) X.1 hb (by decide +kernel) rfl rfl ?_
  refine wl_arg (n := 1) (z := 1) (i := i) X hb hX hbl hbA rfl rfl (by decide +kernel) (by decide +kernel) (by decide +kernel) (by decide +kernel) (by decide +kernel) (by decide +kernel) (by omega) hL (by omega) (by omega) (by show 1 + (0) ≤ 8; omega) ?_
  change wG E W9 A p l e R s m args below meth c 7 383 (lLv b x (aM 0) oA i u v) [.int (xs (i + 1)), .ref x] S cs ss
  refine wl_arg (n := 2) (z := 2) (i := i) X hb hX hbl hbA rfl rfl (by decide +kernel) (by decide +kernel) (by decide +kernel) (by decide +kernel) (by decide +kernel) (by decide +kernel) (by omega) hL (by omega) (by omega) (by show 1 + (1 + (0)) ≤ 8; omega) ?_
  change wG E W9 A p l e R s m args below meth c 7 389 (lLv b x (aM 0) oA i u v) [.int (xs (i + 2)), .int (xs (i + 1)), .ref x] S cs ss
  refine wg_aln (u := 3) (k := 3) X.1 hb (by decide +kernel) rfl rfl ?_
  refine wg_call (i := .invokestatic 138) (len := 3) (av := [.ref x, .int (xs (i + 1)), .int (xs (i + 2)), .ref oA]) (rest := []) (KF := fun r S' => ∃ S2 z9, (r = rI ((oDredge S.2.1 (xs (i + 1)) (xs (i + 2))).2.1 0) ∧ S' = (S2, S.2.1, z9)) ∧ RR W9 (B + 15) x S2 (oDredge S.2.1 (xs (i + 1)) (xs (i + 2))).2 ∧ lApt aM oA S2 ∧ ((oDredge S.2.1 (xs (i + 1)) (xs (i + 2))).2.1 0 = 0 → z9 = (oDredge S.2.1 (xs (i + 1)) (xs (i + 2))).1.toInt64)) (xCR_SX (n := 4) (ci := 0) hI X hN (semL_dredge l hl W9 aM oA) gL_law_L_dredge rfl (by decide +kernel) ⟨by omega, by omega⟩) hb (by decide +kernel) rfl rfl rfl (fun ⟨k, q⟩ => by cases q) (by decide) (by show cs + 3 ≤ _; omega) (by show ss + 18 ≤ _; omega) ⟨x, _, _, B, rfl, ⟨hR, hB, hd⟩, fun S2 z9 h1 h2 h3 => ⟨S2, z9, ⟨rfl, rfl⟩, h1, h2, h3⟩⟩ (fun w S' hk1 => ?_) (fun ex S' hk1 => by obtain ⟨_, _, ⟨h, _⟩, _⟩ := hk1; cases h)
  obtain ⟨S2, z9, ⟨e1, rfl⟩, g1, g2, g3⟩ := hk1
  cases e1
  refine wg_is (k := 5) X.1 hb (by decide +kernel) (by omega) ?_
  change wG E W9 A p l e R s m args below meth c 7 395 (lLv b x (aM 0) oA i (some (.int ((oDredge S.2.1 (xs (i + 1)) (xs (i + 2))).2.1 0))) v) [] (S2, S.2.1, z9) (cs + 3) (ss + 18)
  refine wg_aln (u := 2) (k := 2) X.1 hb (by decide +kernel) rfl rfl ?_
  refine wl_arg (n := 1) (z := 1) (i := i) X hb hX hbl hbA rfl rfl (by decide +kernel) (by decide +kernel) (by decide +kernel) (by decide +kernel) (by decide +kernel) (by decide +kernel) (by omega) hL (by omega) (by omega) (by show 1 + (0) ≤ 8; omega) ?_
  change wG E W9 A p l e R s m args below meth c 7 402 (lLv b x (aM 0) oA i (some (.int ((oDredge S.2.1 (xs (i + 1)) (xs (i + 2))).2.1 0))) v) [.int (xs (i + 1)), .ref (aM 0)] (S2, S.2.1, z9) (cs + 3) (ss + 18)
  refine wl_arg (n := 2) (z := 2) (i := i) X hb hX hbl hbA rfl rfl (by decide +kernel) (by decide +kernel) (by decide +kernel) (by decide +kernel) (by decide +kernel) (by decide +kernel) (by omega) hL (by omega) (by omega) (by show 1 + (1 + (0)) ≤ 8; omega) ?_
  change wG E W9 A p l e R s m args below meth c 7 408 (lLv b x (aM 0) oA i (some (.int ((oDredge S.2.1 (xs (i + 1)) (xs (i + 2))).2.1 0))) v) [.int (xs (i + 2)), .int (xs (i + 1)), .ref (aM 0)] (S2, S.2.1, z9) (cs + 3) (ss + 18)
  refine wg_call (i := .invokevirtual 141) (len := 3) (av := [.ref (aM 0), .int (xs (i + 1)), .int (xs (i + 2))]) (rest := []) (KF := fun r S' => r = rI (oDredge S.2.1 (xs (i + 1)) (xs (i + 2))).1 ∧ S' = (S2, (oDredge S.2.1 (xs (i + 1)) (xs (i + 2))).2, z9)) (xCR_VM (n := 2) (ci := 9) hI ho X (semX8_dredge l W9 aM hi9) gL_law_X8_dredge rfl rfl (by decide +kernel) ⟨by omega, by omega⟩) hb (by decide +kernel) rfl rfl rfl (fun _ => Or.inr (by rw [hI]; exact Or.inr ⟨rfl, rfl, ho 0 (by omega)⟩)) (by decide) (by show (cs + 3) + 0 ≤ _; omega) (by show (ss + 18) + 0 ≤ _; omega) (lM_mk (N_dredge hall ⟨rfl, rfl⟩)) (fun w S' hk2 => ?_) (fun ex S' hk2 => by cases hk2.1)
  obtain ⟨e2, rfl⟩ := hk2
  cases e2
  refine wg_is (k := 6) X.1 hb (by decide +kernel) (by omega) ?_
  change wG E W9 A p l e R s m args below meth c 7 413 (lLv b x (aM 0) oA i (some (.int ((oDredge S.2.1 (xs (i + 1)) (xs (i + 2))).2.1 0))) (some (.int (oDredge S.2.1 (xs (i + 1)) (xs (i + 2))).1))) [] (S2, (oDredge S.2.1 (xs (i + 1)) (xs (i + 2))).2, z9) (cs + 3) (ss + 18)
  refine wl_th (k5 := (oDredge S.2.1 (xs (i + 1)) (xs (i + 2))).2.1 0) hI hi9 ho X hb ⟨by omega, by omega⟩ rfl rfl rfl (by omega) (by omega) (by decide +kernel) (by decide +kernel) (by decide +kernel) (by decide +kernel) ?_
  change wG E W9 A p l e R s m args below meth c 7 424 (lLv b x (aM 0) oA i (some (.int ((oDredge S.2.1 (xs (i + 1)) (xs (i + 2))).2.1 0))) (some (.int (oDredge S.2.1 (xs (i + 1)) (xs (i + 2))).1))) [] (S2, (oDredge S.2.1 (xs (i + 1)) (xs (i + 2))).2, z9) (cs + 3) (ss + 18)
  refine wl_cmp (k5 := (oDredge S.2.1 (xs (i + 1)) (xs (i + 2))).2.1 0) (v6 := (oDredge S.2.1 (xs (i + 1)) (xs (i + 2))).1) hI X hb rfl rfl rfl g3 (by omega) (by omega) (by decide +kernel) (by decide +kernel) (by decide +kernel) (by decide +kernel) (by decide +kernel) (by decide +kernel) (by decide +kernel) (by decide +kernel) (by decide +kernel) ?_
  change wG E W9 A p l e R s m args below meth c 7 441 (lLv b x (aM 0) oA i (some (.int ((oDredge S.2.1 (xs (i + 1)) (xs (i + 2))).2.1 0))) (some (.int (oDredge S.2.1 (xs (i + 1)) (xs (i + 2))).1))) [] (S2, (oDredge S.2.1 (xs (i + 1)) (xs (i + 2))).2, z9) (cs + 3) (ss + 18)
  refine wg_goto (z := 2574) (n2 := 2133) X.1 hb (by decide +kernel) (by decide) ?_
  exact hk _ _ _ _ _ g1 g2 (by omega) (by omega)
set_option maxHeartbeats 1000000 in
set_option maxRecDepth 20000 in
theorem lc_stage (hl : l.stackTraces = false) (Z : lZ E W9 A p R s m args c b L xs aM oA) (hi : i + 7 ≤ L) (hR : RR W9 B x S.1 S.2.1) (hB : B + 15 ≤ 8000) (hd : lApt aM oA S.1) (c1 : cs + 290 ≤ R.cells) (c2 : ss + 9660 ≤ R.slots) (hk : lNx E W9 A p l e R s m args below meth c b x aM oA i B cs ss) : wG E W9 A p l e R s m args below meth c 7 444 (lLv b x (aM 0) oA i u v) [] S cs ss := by
  obtain ⟨⟨hI, hi9, ho⟩, X, hb, hN, ⟨hX, hbl, hbA, hL⟩, r1, r2⟩ := Z
  have hall : iAll S.2.1 := by
    obtain ⟨_, _, _, h⟩ := hR
    exact h.2.2.1
  refine wg_aln (u := 1) (k := 1) X.1 hb (by decide +kernel) rfl rfl ?_
  refine wl_arg (n := 1) (z := 1) (i := i) X hb hX hbl hbA rfl rfl (by decide +kernel) (by decide +kernel) (by decide +kernel) (by decide +kernel) (by decide +kernel) (by decide +kernel) (by omega) hL (by omega) (by omega) (by show 1 + (0) ≤ 8; omega) ?_
  change wG E W9 A p l e R s m args below meth c 7 451 (lLv b x (aM 0) oA i u v) [.int (xs (i + 1)), .ref x] S cs ss
  refine wl_arg (n := 2) (z := 2) (i := i) X hb hX hbl hbA rfl rfl (by decide +kernel) (by decide +kernel) (by decide +kernel) (by decide +kernel) (by decide +kernel) (by decide +kernel) (by omega) hL (by omega) (by omega) (by show 1 + (1 + (0)) ≤ 8; omega) ?_
  change wG E W9 A p l e R s m args below meth c 7 457 (lLv b x (aM 0) oA i u v) [.int (xs (i + 2)), .int (xs (i + 1)), .ref x] S cs ss
  refine wg_aln (u := 3) (k := 3) X.1 hb (by decide +kernel) rfl rfl ?_
  refine wg_call (i := .invokestatic 142) (len := 3) (av := [.ref x, .int (xs (i + 1)), .int (xs (i + 2)), .ref oA]) (rest := []) (KF := fun r S' => ∃ S2 z9, (r = rI ((oStage S.2.1 (xs (i + 1)) (xs (i + 2))).2.1 0) ∧ S' = (S2, S.2.1, z9)) ∧ RR W9 (B + 15) x S2 (oStage S.2.1 (xs (i + 1)) (xs (i + 2))).2 ∧ lApt aM oA S2 ∧ ((oStage S.2.1 (xs (i + 1)) (xs (i + 2))).2.1 0 = 0 → z9 = (oStage S.2.1 (xs (i + 1)) (xs (i + 2))).1.toInt64)) (xCR_SX (n := 4) (ci := 0) hI X hN (semL_stage l hl W9 aM oA) gL_law_L_stage rfl (by decide +kernel) ⟨by omega, by omega⟩) hb (by decide +kernel) rfl rfl rfl (fun ⟨k, q⟩ => by cases q) (by decide) (by show cs + 2 ≤ _; omega) (by show ss + 12 ≤ _; omega) ⟨x, _, _, B, rfl, ⟨hR, hB, hd⟩, fun S2 z9 h1 h2 h3 => ⟨S2, z9, ⟨rfl, rfl⟩, h1, h2, h3⟩⟩ (fun w S' hk1 => ?_) (fun ex S' hk1 => by obtain ⟨_, _, ⟨h, _⟩, _⟩ := hk1; cases h)
  obtain ⟨S2, z9, ⟨e1, rfl⟩, g1, g2, g3⟩ := hk1
  cases e1
  refine wg_is (k := 5) X.1 hb (by decide +kernel) (by omega) ?_
  change wG E W9 A p l e R s m args below meth c 7 463 (lLv b x (aM 0) oA i (some (.int ((oStage S.2.1 (xs (i + 1)) (xs (i + 2))).2.1 0))) v) [] (S2, S.2.1, z9) (cs + 2) (ss + 12)
  refine wg_aln (u := 2) (k := 2) X.1 hb (by decide +kernel) rfl rfl ?_
  refine wl_arg (n := 1) (z := 1) (i := i) X hb hX hbl hbA rfl rfl (by decide +kernel) (by decide +kernel) (by decide +kernel) (by decide +kernel) (by decide +kernel) (by decide +kernel) (by omega) hL (by omega) (by omega) (by show 1 + (0) ≤ 8; omega) ?_
  change wG E W9 A p l e R s m args below meth c 7 470 (lLv b x (aM 0) oA i (some (.int ((oStage S.2.1 (xs (i + 1)) (xs (i + 2))).2.1 0))) v) [.int (xs (i + 1)), .ref (aM 0)] (S2, S.2.1, z9) (cs + 2) (ss + 12)
  refine wl_arg (n := 2) (z := 2) (i := i) X hb hX hbl hbA rfl rfl (by decide +kernel) (by decide +kernel) (by decide +kernel) (by decide +kernel) (by decide +kernel) (by decide +kernel) (by omega) hL (by omega) (by omega) (by show 1 + (1 + (0)) ≤ 8; omega) ?_
  change wG E W9 A p l e R s m args below meth c 7 476 (lLv b x (aM 0) oA i (some (.int ((oStage S.2.1 (xs (i + 1)) (xs (i + 2))).2.1 0))) v) [.int (xs (i + 2)), .int (xs (i + 1)), .ref (aM 0)] (S2, S.2.1, z9) (cs + 2) (ss + 12)
  refine wg_call (i := .invokevirtual 144) (len := 3) (av := [.ref (aM 0), .int (xs (i + 1)), .int (xs (i + 2))]) (rest := []) (KF := fun r S' => r = rI (oStage S.2.1 (xs (i + 1)) (xs (i + 2))).1 ∧ S' = (S2, (oStage S.2.1 (xs (i + 1)) (xs (i + 2))).2, z9)) (xCR_VM (n := 2) (ci := 9) hI ho X (semX8_stage l W9 aM hi9) gL_law_X8_stage rfl rfl (by decide +kernel) ⟨by omega, by omega⟩) hb (by decide +kernel) rfl rfl rfl (fun _ => Or.inr (by rw [hI]; exact Or.inr ⟨rfl, rfl, ho 0 (by omega)⟩)) (by decide) (by show (cs + 2) + 0 ≤ _; omega) (by show (ss + 12) + 0 ≤ _; omega) (lM_mk (N_stage hall ⟨rfl, rfl⟩)) (fun w S' hk2 => ?_) (fun ex S' hk2 => by cases hk2.1)
  obtain ⟨e2, rfl⟩ := hk2
  cases e2
  refine wg_is (k := 6) X.1 hb (by decide +kernel) (by omega) ?_
  change wG E W9 A p l e R s m args below meth c 7 481 (lLv b x (aM 0) oA i (some (.int ((oStage S.2.1 (xs (i + 1)) (xs (i + 2))).2.1 0))) (some (.int (oStage S.2.1 (xs (i + 1)) (xs (i + 2))).1))) [] (S2, (oStage S.2.1 (xs (i + 1)) (xs (i + 2))).2, z9) (cs + 2) (ss + 12)
  refine wl_th (k5 := (oStage S.2.1 (xs (i + 1)) (xs (i + 2))).2.1 0) hI hi9 ho X hb ⟨by omega, by omega⟩ rfl rfl rfl (by omega) (by omega) (by decide +kernel) (by decide +kernel) (by decide +kernel) (by decide +kernel) ?_
  change wG E W9 A p l e R s m args below meth c 7 492 (lLv b x (aM 0) oA i (some (.int ((oStage S.2.1 (xs (i + 1)) (xs (i + 2))).2.1 0))) (some (.int (oStage S.2.1 (xs (i + 1)) (xs (i + 2))).1))) [] (S2, (oStage S.2.1 (xs (i + 1)) (xs (i + 2))).2, z9) (cs + 2) (ss + 12)
  refine wl_cmp (k5 := (oStage S.2.1 (xs (i + 1)) (xs (i + 2))).2.1 0) (v6 := (oStage S.2.1 (xs (i + 1)) (xs (i + 2))).1) hI X hb rfl rfl rfl g3 (by omega) (by omega) (by decide +kernel) (by decide +kernel) (by decide +kernel) (by decide +kernel) (by decide +kernel) (by decide +kernel) (by decide +kernel) (by decide +kernel) (by decide +kernel) ?_
  change wG E W9 A p l e R s m args below meth c 7 509 (lLv b x (aM 0) oA i (some (.int ((oStage S.2.1 (xs (i + 1)) (xs (i + 2))).2.1 0))) (some (.int (oStage S.2.1 (xs (i + 1)) (xs (i + 2))).1))) [] (S2, (oStage S.2.1 (xs (i + 1)) (xs (i + 2))).2, z9) (cs + 2) (ss + 12)
  refine wg_goto (z := 2574) (n2 := 2065) X.1 hb (by decide +kernel) (by decide) ?_
  exact hk _ _ _ _ _ g1 g2 (by omega) (by omega)
set_option maxHeartbeats 1000000 in
set_option maxRecDepth 20000 in
theorem lc_weather (hl : l.stackTraces = false) (Z : lZ E W9 A p R s m args c b L xs aM oA) (hi : i + 7 ≤ L) (hR : RR W9 B x S.1 S.2.1) (hB : B + 15 ≤ 8000) (hd : lApt aM oA S.1) (c1 : cs + 290 ≤ R.cells) (c2 : ss + 9660 ≤ R.slots) (hk : lNx E W9 A p l e R s m args below meth c b x aM oA i B cs ss) : wG E W9 A p l e R s m args below meth c 7 512 (lLv b x (aM 0) oA i u v) [] S cs ss := by
  obtain ⟨⟨hI, hi9, ho⟩, X, hb, hN, ⟨hX, hbl, hbA, hL⟩, r1, r2⟩ := Z
  have hall : iAll S.2.1 := by
    obtain ⟨_, _, _, h⟩ := hR
    exact h.2.2.1
  refine wg_aln (u := 1) (k := 1) X.1 hb (by decide +kernel) rfl rfl ?_
  refine wl_arg (n := 1) (z := 1) (i := i) X hb hX hbl hbA rfl rfl (by decide +kernel) (by decide +kernel) (by decide +kernel) (by decide +kernel) (by decide +kernel) (by decide +kernel) (by omega) hL (by omega) (by omega) (by show 1 + (0) ≤ 8; omega) ?_
  change wG E W9 A p l e R s m args below meth c 7 519 (lLv b x (aM 0) oA i u v) [.int (xs (i + 1)), .ref x] S cs ss
  refine wl_arg (n := 2) (z := 2) (i := i) X hb hX hbl hbA rfl rfl (by decide +kernel) (by decide +kernel) (by decide +kernel) (by decide +kernel) (by decide +kernel) (by decide +kernel) (by omega) hL (by omega) (by omega) (by show 1 + (1 + (0)) ≤ 8; omega) ?_
  change wG E W9 A p l e R s m args below meth c 7 525 (lLv b x (aM 0) oA i u v) [.int (xs (i + 2)), .int (xs (i + 1)), .ref x] S cs ss
  refine wl_arg (n := 3) (z := 3) (i := i) X hb hX hbl hbA rfl rfl (by decide +kernel) (by decide +kernel) (by decide +kernel) (by decide +kernel) (by decide +kernel) (by decide +kernel) (by omega) hL (by omega) (by omega) (by show 1 + (1 + (1 + (0))) ≤ 8; omega) ?_
  change wG E W9 A p l e R s m args below meth c 7 531 (lLv b x (aM 0) oA i u v) [.int (xs (i + 3)), .int (xs (i + 2)), .int (xs (i + 1)), .ref x] S cs ss
  refine wl_bool X.1 hb (by decide +kernel) (by decide +kernel) (by decide +kernel) (by decide +kernel) ?_
  change wG E W9 A p l e R s m args below meth c 7 539 (lLv b x (aM 0) oA i u v) [.int (if xs (i + 3) = 0 then 0 else 1), .int (xs (i + 2)), .int (xs (i + 1)), .ref x] S cs ss
  refine wg_aln (u := 3) (k := 3) X.1 hb (by decide +kernel) rfl rfl ?_
  refine wg_call (i := .invokestatic 145) (len := 3) (av := [.ref x, .int (xs (i + 1)), .int (xs (i + 2)), .int (if xs (i + 3) = 0 then 0 else 1), .ref oA]) (rest := []) (KF := fun r S' => ∃ S2 z9, (r = rI ((oWeather S.2.1 (xs (i + 1)) (xs (i + 2)) (if xs (i + 3) = 0 then 0 else 1)).2.1 0) ∧ S' = (S2, S.2.1, z9)) ∧ RR W9 (B + 15) x S2 (oWeather S.2.1 (xs (i + 1)) (xs (i + 2)) (if xs (i + 3) = 0 then 0 else 1)).2 ∧ lApt aM oA S2 ∧ ((oWeather S.2.1 (xs (i + 1)) (xs (i + 2)) (if xs (i + 3) = 0 then 0 else 1)).2.1 0 = 0 → z9 = (oWeather S.2.1 (xs (i + 1)) (xs (i + 2)) (if xs (i + 3) = 0 then 0 else 1)).1.toInt64)) (xCR_SX (n := 5) (ci := 0) hI X hN (semL_weather l hl W9 aM oA) gL_law_L_weather rfl (by decide +kernel) ⟨by omega, by omega⟩) hb (by decide +kernel) rfl rfl rfl (fun ⟨k, q⟩ => by cases q) (by decide) (by show cs + 2 ≤ _; omega) (by show ss + 12 ≤ _; omega) ⟨x, _, _, _, B, rfl, wl_b01, ⟨hR, hB, hd⟩, fun S2 z9 h1 h2 h3 => ⟨S2, z9, ⟨rfl, rfl⟩, h1, h2, h3⟩⟩ (fun w S' hk1 => ?_) (fun ex S' hk1 => by obtain ⟨_, _, ⟨h, _⟩, _⟩ := hk1; cases h)
  obtain ⟨S2, z9, ⟨e1, rfl⟩, g1, g2, g3⟩ := hk1
  cases e1
  refine wg_is (k := 5) X.1 hb (by decide +kernel) (by omega) ?_
  change wG E W9 A p l e R s m args below meth c 7 545 (lLv b x (aM 0) oA i (some (.int ((oWeather S.2.1 (xs (i + 1)) (xs (i + 2)) (if xs (i + 3) = 0 then 0 else 1)).2.1 0))) v) [] (S2, S.2.1, z9) (cs + 2) (ss + 12)
  refine wg_aln (u := 2) (k := 2) X.1 hb (by decide +kernel) rfl rfl ?_
  refine wl_arg (n := 1) (z := 1) (i := i) X hb hX hbl hbA rfl rfl (by decide +kernel) (by decide +kernel) (by decide +kernel) (by decide +kernel) (by decide +kernel) (by decide +kernel) (by omega) hL (by omega) (by omega) (by show 1 + (0) ≤ 8; omega) ?_
  change wG E W9 A p l e R s m args below meth c 7 552 (lLv b x (aM 0) oA i (some (.int ((oWeather S.2.1 (xs (i + 1)) (xs (i + 2)) (if xs (i + 3) = 0 then 0 else 1)).2.1 0))) v) [.int (xs (i + 1)), .ref (aM 0)] (S2, S.2.1, z9) (cs + 2) (ss + 12)
  refine wl_arg (n := 2) (z := 2) (i := i) X hb hX hbl hbA rfl rfl (by decide +kernel) (by decide +kernel) (by decide +kernel) (by decide +kernel) (by decide +kernel) (by decide +kernel) (by omega) hL (by omega) (by omega) (by show 1 + (1 + (0)) ≤ 8; omega) ?_
  change wG E W9 A p l e R s m args below meth c 7 558 (lLv b x (aM 0) oA i (some (.int ((oWeather S.2.1 (xs (i + 1)) (xs (i + 2)) (if xs (i + 3) = 0 then 0 else 1)).2.1 0))) v) [.int (xs (i + 2)), .int (xs (i + 1)), .ref (aM 0)] (S2, S.2.1, z9) (cs + 2) (ss + 12)
  refine wl_arg (n := 3) (z := 3) (i := i) X hb hX hbl hbA rfl rfl (by decide +kernel) (by decide +kernel) (by decide +kernel) (by decide +kernel) (by decide +kernel) (by decide +kernel) (by omega) hL (by omega) (by omega) (by show 1 + (1 + (1 + (0))) ≤ 8; omega) ?_
  change wG E W9 A p l e R s m args below meth c 7 564 (lLv b x (aM 0) oA i (some (.int ((oWeather S.2.1 (xs (i + 1)) (xs (i + 2)) (if xs (i + 3) = 0 then 0 else 1)).2.1 0))) v) [.int (xs (i + 3)), .int (xs (i + 2)), .int (xs (i + 1)), .ref (aM 0)] (S2, S.2.1, z9) (cs + 2) (ss + 12)
  refine wl_bool X.1 hb (by decide +kernel) (by decide +kernel) (by decide +kernel) (by decide +kernel) ?_
  change wG E W9 A p l e R s m args below meth c 7 572 (lLv b x (aM 0) oA i (some (.int ((oWeather S.2.1 (xs (i + 1)) (xs (i + 2)) (if xs (i + 3) = 0 then 0 else 1)).2.1 0))) v) [.int (if xs (i + 3) = 0 then 0 else 1), .int (xs (i + 2)), .int (xs (i + 1)), .ref (aM 0)] (S2, S.2.1, z9) (cs + 2) (ss + 12)
  refine wg_call (i := .invokevirtual 148) (len := 3) (av := [.ref (aM 0), .int (xs (i + 1)), .int (xs (i + 2)), .int (if xs (i + 3) = 0 then 0 else 1)]) (rest := []) (KF := fun r S' => r = rI (oWeather S.2.1 (xs (i + 1)) (xs (i + 2)) (if xs (i + 3) = 0 then 0 else 1)).1 ∧ S' = (S2, (oWeather S.2.1 (xs (i + 1)) (xs (i + 2)) (if xs (i + 3) = 0 then 0 else 1)).2, z9)) (xCR_VM (n := 3) (ci := 9) hI ho X (semX8_weather l W9 aM hi9) gL_law_X8_weather rfl rfl (by decide +kernel) ⟨by omega, by omega⟩) hb (by decide +kernel) rfl rfl rfl (fun _ => Or.inr (by rw [hI]; exact Or.inr ⟨rfl, rfl, ho 0 (by omega)⟩)) (by decide) (by show (cs + 2) + 0 ≤ _; omega) (by show (ss + 12) + 0 ≤ _; omega) (lM_mk (N_weather hall wl_b01 ⟨rfl, rfl⟩)) (fun w S' hk2 => ?_) (fun ex S' hk2 => by cases hk2.1)
  obtain ⟨e2, rfl⟩ := hk2
  cases e2
  refine wg_is (k := 6) X.1 hb (by decide +kernel) (by omega) ?_
  change wG E W9 A p l e R s m args below meth c 7 577 (lLv b x (aM 0) oA i (some (.int ((oWeather S.2.1 (xs (i + 1)) (xs (i + 2)) (if xs (i + 3) = 0 then 0 else 1)).2.1 0))) (some (.int (oWeather S.2.1 (xs (i + 1)) (xs (i + 2)) (if xs (i + 3) = 0 then 0 else 1)).1))) [] (S2, (oWeather S.2.1 (xs (i + 1)) (xs (i + 2)) (if xs (i + 3) = 0 then 0 else 1)).2, z9) (cs + 2) (ss + 12)
  refine wl_th (k5 := (oWeather S.2.1 (xs (i + 1)) (xs (i + 2)) (if xs (i + 3) = 0 then 0 else 1)).2.1 0) hI hi9 ho X hb ⟨by omega, by omega⟩ rfl rfl rfl (by omega) (by omega) (by decide +kernel) (by decide +kernel) (by decide +kernel) (by decide +kernel) ?_
  change wG E W9 A p l e R s m args below meth c 7 588 (lLv b x (aM 0) oA i (some (.int ((oWeather S.2.1 (xs (i + 1)) (xs (i + 2)) (if xs (i + 3) = 0 then 0 else 1)).2.1 0))) (some (.int (oWeather S.2.1 (xs (i + 1)) (xs (i + 2)) (if xs (i + 3) = 0 then 0 else 1)).1))) [] (S2, (oWeather S.2.1 (xs (i + 1)) (xs (i + 2)) (if xs (i + 3) = 0 then 0 else 1)).2, z9) (cs + 2) (ss + 12)
  refine wl_cmp (k5 := (oWeather S.2.1 (xs (i + 1)) (xs (i + 2)) (if xs (i + 3) = 0 then 0 else 1)).2.1 0) (v6 := (oWeather S.2.1 (xs (i + 1)) (xs (i + 2)) (if xs (i + 3) = 0 then 0 else 1)).1) hI X hb rfl rfl rfl g3 (by omega) (by omega) (by decide +kernel) (by decide +kernel) (by decide +kernel) (by decide +kernel) (by decide +kernel) (by decide +kernel) (by decide +kernel) (by decide +kernel) (by decide +kernel) ?_
  change wG E W9 A p l e R s m args below meth c 7 605 (lLv b x (aM 0) oA i (some (.int ((oWeather S.2.1 (xs (i + 1)) (xs (i + 2)) (if xs (i + 3) = 0 then 0 else 1)).2.1 0))) (some (.int (oWeather S.2.1 (xs (i + 1)) (xs (i + 2)) (if xs (i + 3) = 0 then 0 else 1)).1))) [] (S2, (oWeather S.2.1 (xs (i + 1)) (xs (i + 2)) (if xs (i + 3) = 0 then 0 else 1)).2, z9) (cs + 2) (ss + 12)
  refine wg_goto (z := 2574) (n2 := 1969) X.1 hb (by decide +kernel) (by decide) ?_
  exact hk _ _ _ _ _ g1 g2 (by omega) (by omega)
set_option maxHeartbeats 1000000 in
set_option maxRecDepth 20000 in
theorem lc_fog (hl : l.stackTraces = false) (Z : lZ E W9 A p R s m args c b L xs aM oA) (hi : i + 7 ≤ L) (hR : RR W9 B x S.1 S.2.1) (hB : B + 15 ≤ 8000) (hd : lApt aM oA S.1) (c1 : cs + 290 ≤ R.cells) (c2 : ss + 9660 ≤ R.slots) (hk : lNx E W9 A p l e R s m args below meth c b x aM oA i B cs ss) : wG E W9 A p l e R s m args below meth c 7 608 (lLv b x (aM 0) oA i u v) [] S cs ss := by
  obtain ⟨⟨hI, hi9, ho⟩, X, hb, hN, ⟨hX, hbl, hbA, hL⟩, r1, r2⟩ := Z
  have hall : iAll S.2.1 := by
    obtain ⟨_, _, _, h⟩ := hR
    exact h.2.2.1
  refine wg_aln (u := 1) (k := 1) X.1 hb (by decide +kernel) rfl rfl ?_
  refine wl_arg (n := 1) (z := 1) (i := i) X hb hX hbl hbA rfl rfl (by decide +kernel) (by decide +kernel) (by decide +kernel) (by decide +kernel) (by decide +kernel) (by decide +kernel) (by omega) hL (by omega) (by omega) (by show 1 + (0) ≤ 8; omega) ?_
  change wG E W9 A p l e R s m args below meth c 7 615 (lLv b x (aM 0) oA i u v) [.int (xs (i + 1)), .ref x] S cs ss
  refine wl_bool X.1 hb (by decide +kernel) (by decide +kernel) (by decide +kernel) (by decide +kernel) ?_
  change wG E W9 A p l e R s m args below meth c 7 623 (lLv b x (aM 0) oA i u v) [.int (if xs (i + 1) = 0 then 0 else 1), .ref x] S cs ss
  refine wg_call (i := .invokevirtual 149) (len := 3) (av := [.ref x, .int (if xs (i + 1) = 0 then 0 else 1)]) (rest := []) (KF := fun r S' => ∃ S2, (r = rI (oFog S.2.1 (if xs (i + 1) = 0 then 0 else 1)).1 ∧ S' = (S2, S.2)) ∧ RR W9 (B + 15) x S2 (oFog S.2.1 (if xs (i + 1) = 0 then 0 else 1)).2 ∧ lApt aM oA S2) (xCR_VC (n := 1) (ci := 8) hI X (semX7_fog l hl W9) gL_law_X7_fog rfl rfl (by decide +kernel) ⟨by omega, by omega⟩) hb (by decide +kernel) rfl rfl rfl (fun _ => Or.inr (by rw [hI]; exact Or.inl ⟨hd.fr (live_of (RR_k hR) (by omega)), RR_k hR, by omega⟩)) (by decide) (by show cs + 0 ≤ _; omega) (by show ss + 0 ≤ _; omega) ⟨hd, Q_fog hR wl_b01 (fun r S2 ha hd2 => ⟨S2, ⟨ha.2.trans (by unfold rZ; rw [cd_fog, if_pos rfl]), rfl⟩, RR_up ha.1 (by omega) hB, hd2⟩)⟩ (fun w S' hk1 => ?_) (fun ex S' hk1 => by obtain ⟨_, ⟨h, _⟩, _⟩ := hk1; cases h)
  obtain ⟨S2, ⟨e1, rfl⟩, g1, g2⟩ := hk1
  cases e1
  change wG E W9 A p l e R s m args below meth c 7 626 (lLv b x (aM 0) oA i u v) [.int (oFog S.2.1 (if xs (i + 1) = 0 then 0 else 1)).1] (S2, S.2.1, S.2.2) cs ss
  refine wg_aln (u := 2) (k := 2) X.1 hb (by decide +kernel) rfl rfl ?_
  refine wl_arg (n := 1) (z := 1) (i := i) X hb hX hbl hbA rfl rfl (by decide +kernel) (by decide +kernel) (by decide +kernel) (by decide +kernel) (by decide +kernel) (by decide +kernel) (by omega) hL (by omega) (by omega) (by show 1 + (1 + (0)) ≤ 8; omega) ?_
  change wG E W9 A p l e R s m args below meth c 7 633 (lLv b x (aM 0) oA i u v) [.int (xs (i + 1)), .ref (aM 0), .int (oFog S.2.1 (if xs (i + 1) = 0 then 0 else 1)).1] (S2, S.2.1, S.2.2) cs ss
  refine wl_bool X.1 hb (by decide +kernel) (by decide +kernel) (by decide +kernel) (by decide +kernel) ?_
  change wG E W9 A p l e R s m args below meth c 7 641 (lLv b x (aM 0) oA i u v) [.int (if xs (i + 1) = 0 then 0 else 1), .ref (aM 0), .int (oFog S.2.1 (if xs (i + 1) = 0 then 0 else 1)).1] (S2, S.2.1, S.2.2) cs ss
  refine wg_call (i := .invokevirtual 153) (len := 3) (av := [.ref (aM 0), .int (if xs (i + 1) = 0 then 0 else 1)]) (rest := [.int (oFog S.2.1 (if xs (i + 1) = 0 then 0 else 1)).1]) (KF := fun r S' => r = rI (oFog S.2.1 (if xs (i + 1) = 0 then 0 else 1)).1 ∧ S' = (S2, (oFog S.2.1 (if xs (i + 1) = 0 then 0 else 1)).2, S.2.2)) (xCR_VM (n := 1) (ci := 9) hI ho X (semX8_fog l W9 aM hi9) gL_law_X8_fog rfl rfl (by decide +kernel) ⟨by omega, by omega⟩) hb (by decide +kernel) rfl rfl rfl (fun _ => Or.inr (by rw [hI]; exact Or.inr ⟨rfl, rfl, ho 0 (by omega)⟩)) (by show 1 + 0 ≤ 8; omega) (by show cs + 0 ≤ _; omega) (by show ss + 0 ≤ _; omega) (lM_mk (N_fog hall wl_b01 ⟨rfl, rfl⟩)) (fun w S' hk2 => ?_) (fun ex S' hk2 => by cases hk2.1)
  obtain ⟨e2, rfl⟩ := hk2
  cases e2
  change wG E W9 A p l e R s m args below meth c 7 644 (lLv b x (aM 0) oA i u v) [.int (oFog S.2.1 (if xs (i + 1) = 0 then 0 else 1)).1, .int (oFog S.2.1 (if xs (i + 1) = 0 then 0 else 1)).1] (S2, (oFog S.2.1 (if xs (i + 1) = 0 then 0 else 1)).2, S.2.2) cs ss
  exact wg_ieq (t := 2574) (n2 := 1930) X.1 hb (by decide +kernel) (by decide) (fun _ => hk _ _ _ _ _ g1 g2 (by omega) (by omega)) (fun q => absurd rfl q)
set_option maxHeartbeats 1000000 in
set_option maxRecDepth 20000 in
theorem lc_bank (hl : l.stackTraces = false) (Z : lZ E W9 A p R s m args c b L xs aM oA) (hi : i + 7 ≤ L) (hR : RR W9 B x S.1 S.2.1) (hB : B + 15 ≤ 8000) (hd : lApt aM oA S.1) (c1 : cs + 290 ≤ R.cells) (c2 : ss + 9660 ≤ R.slots) (hk : lNx E W9 A p l e R s m args below meth c b x aM oA i B cs ss) : wG E W9 A p l e R s m args below meth c 7 649 (lLv b x (aM 0) oA i u v) [] S cs ss := by
  obtain ⟨⟨hI, hi9, ho⟩, X, hb, hN, ⟨hX, hbl, hbA, hL⟩, r1, r2⟩ := Z
  have hall : iAll S.2.1 := by
    obtain ⟨_, _, _, h⟩ := hR
    exact h.2.2.1
  refine wg_aln (u := 1) (k := 1) X.1 hb (by decide +kernel) rfl rfl ?_
  refine wl_arg (n := 1) (z := 1) (i := i) X hb hX hbl hbA rfl rfl (by decide +kernel) (by decide +kernel) (by decide +kernel) (by decide +kernel) (by decide +kernel) (by decide +kernel) (by omega) hL (by omega) (by omega) (by show 1 + (0) ≤ 8; omega) ?_
  change wG E W9 A p l e R s m args below meth c 7 656 (lLv b x (aM 0) oA i u v) [.int (xs (i + 1)), .ref x] S cs ss
  refine wl_arg (n := 2) (z := 2) (i := i) X hb hX hbl hbA rfl rfl (by decide +kernel) (by decide +kernel) (by decide +kernel) (by decide +kernel) (by decide +kernel) (by decide +kernel) (by omega) hL (by omega) (by omega) (by show 1 + (1 + (0)) ≤ 8; omega) ?_
  change wG E W9 A p l e R s m args below meth c 7 662 (lLv b x (aM 0) oA i u v) [.int (xs (i + 2)), .int (xs (i + 1)), .ref x] S cs ss
  refine wl_arg (n := 3) (z := 3) (i := i) X hb hX hbl hbA rfl rfl (by decide +kernel) (by decide +kernel) (by decide +kernel) (by decide +kernel) (by decide +kernel) (by decide +kernel) (by omega) hL (by omega) (by omega) (by show 1 + (1 + (1 + (0))) ≤ 8; omega) ?_
  change wG E W9 A p l e R s m args below meth c 7 668 (lLv b x (aM 0) oA i u v) [.int (xs (i + 3)), .int (xs (i + 2)), .int (xs (i + 1)), .ref x] S cs ss
  refine wg_aln (u := 3) (k := 3) X.1 hb (by decide +kernel) rfl rfl ?_
  refine wg_call (i := .invokestatic 154) (len := 3) (av := [.ref x, .int (xs (i + 1)), .int (xs (i + 2)), .int (xs (i + 3)), .ref oA]) (rest := []) (KF := fun r S' => ∃ S2 z9, (r = rI ((oBank S.2.1 (xs (i + 1)) (xs (i + 2)) (xs (i + 3))).2.1 0) ∧ S' = (S2, S.2.1, z9)) ∧ RR W9 (B + 15) x S2 (oBank S.2.1 (xs (i + 1)) (xs (i + 2)) (xs (i + 3))).2 ∧ lApt aM oA S2 ∧ ((oBank S.2.1 (xs (i + 1)) (xs (i + 2)) (xs (i + 3))).2.1 0 = 0 → z9 = (oBank S.2.1 (xs (i + 1)) (xs (i + 2)) (xs (i + 3))).1.toInt64)) (xCR_SX (n := 5) (ci := 0) hI X hN (semL_bank l hl W9 aM oA) gL_law_L_bank rfl (by decide +kernel) ⟨by omega, by omega⟩) hb (by decide +kernel) rfl rfl rfl (fun ⟨k, q⟩ => by cases q) (by decide) (by show cs + 5 ≤ _; omega) (by show ss + 30 ≤ _; omega) ⟨x, _, _, _, B, rfl, ⟨hR, hB, hd⟩, fun S2 z9 h1 h2 h3 => ⟨S2, z9, ⟨rfl, rfl⟩, h1, h2, h3⟩⟩ (fun w S' hk1 => ?_) (fun ex S' hk1 => by obtain ⟨_, _, ⟨h, _⟩, _⟩ := hk1; cases h)
  obtain ⟨S2, z9, ⟨e1, rfl⟩, g1, g2, g3⟩ := hk1
  cases e1
  refine wg_is (k := 5) X.1 hb (by decide +kernel) (by omega) ?_
  change wG E W9 A p l e R s m args below meth c 7 674 (lLv b x (aM 0) oA i (some (.int ((oBank S.2.1 (xs (i + 1)) (xs (i + 2)) (xs (i + 3))).2.1 0))) v) [] (S2, S.2.1, z9) (cs + 5) (ss + 30)
  refine wg_aln (u := 2) (k := 2) X.1 hb (by decide +kernel) rfl rfl ?_
  refine wl_arg (n := 1) (z := 1) (i := i) X hb hX hbl hbA rfl rfl (by decide +kernel) (by decide +kernel) (by decide +kernel) (by decide +kernel) (by decide +kernel) (by decide +kernel) (by omega) hL (by omega) (by omega) (by show 1 + (0) ≤ 8; omega) ?_
  change wG E W9 A p l e R s m args below meth c 7 681 (lLv b x (aM 0) oA i (some (.int ((oBank S.2.1 (xs (i + 1)) (xs (i + 2)) (xs (i + 3))).2.1 0))) v) [.int (xs (i + 1)), .ref (aM 0)] (S2, S.2.1, z9) (cs + 5) (ss + 30)
  refine wl_arg (n := 2) (z := 2) (i := i) X hb hX hbl hbA rfl rfl (by decide +kernel) (by decide +kernel) (by decide +kernel) (by decide +kernel) (by decide +kernel) (by decide +kernel) (by omega) hL (by omega) (by omega) (by show 1 + (1 + (0)) ≤ 8; omega) ?_
  change wG E W9 A p l e R s m args below meth c 7 687 (lLv b x (aM 0) oA i (some (.int ((oBank S.2.1 (xs (i + 1)) (xs (i + 2)) (xs (i + 3))).2.1 0))) v) [.int (xs (i + 2)), .int (xs (i + 1)), .ref (aM 0)] (S2, S.2.1, z9) (cs + 5) (ss + 30)
  refine wl_arg (n := 3) (z := 3) (i := i) X hb hX hbl hbA rfl rfl (by decide +kernel) (by decide +kernel) (by decide +kernel) (by decide +kernel) (by decide +kernel) (by decide +kernel) (by omega) hL (by omega) (by omega) (by show 1 + (1 + (1 + (0))) ≤ 8; omega) ?_
  change wG E W9 A p l e R s m args below meth c 7 693 (lLv b x (aM 0) oA i (some (.int ((oBank S.2.1 (xs (i + 1)) (xs (i + 2)) (xs (i + 3))).2.1 0))) v) [.int (xs (i + 3)), .int (xs (i + 2)), .int (xs (i + 1)), .ref (aM 0)] (S2, S.2.1, z9) (cs + 5) (ss + 30)
  refine wg_call (i := .invokevirtual 157) (len := 3) (av := [.ref (aM 0), .int (xs (i + 1)), .int (xs (i + 2)), .int (xs (i + 3))]) (rest := []) (KF := fun r S' => r = rI (oBank S.2.1 (xs (i + 1)) (xs (i + 2)) (xs (i + 3))).1 ∧ S' = (S2, (oBank S.2.1 (xs (i + 1)) (xs (i + 2)) (xs (i + 3))).2, z9)) (xCR_VM (n := 3) (ci := 9) hI ho X (semX8_bank l W9 aM hi9) gL_law_X8_bank rfl rfl (by decide +kernel) ⟨by omega, by omega⟩) hb (by decide +kernel) rfl rfl rfl (fun _ => Or.inr (by rw [hI]; exact Or.inr ⟨rfl, rfl, ho 0 (by omega)⟩)) (by decide) (by show (cs + 5) + 0 ≤ _; omega) (by show (ss + 30) + 0 ≤ _; omega) (lM_mk (N_bank hall ⟨rfl, rfl⟩)) (fun w S' hk2 => ?_) (fun ex S' hk2 => by cases hk2.1)
  obtain ⟨e2, rfl⟩ := hk2
  cases e2
  refine wg_is (k := 6) X.1 hb (by decide +kernel) (by omega) ?_
  change wG E W9 A p l e R s m args below meth c 7 698 (lLv b x (aM 0) oA i (some (.int ((oBank S.2.1 (xs (i + 1)) (xs (i + 2)) (xs (i + 3))).2.1 0))) (some (.int (oBank S.2.1 (xs (i + 1)) (xs (i + 2)) (xs (i + 3))).1))) [] (S2, (oBank S.2.1 (xs (i + 1)) (xs (i + 2)) (xs (i + 3))).2, z9) (cs + 5) (ss + 30)
  refine wl_th (k5 := (oBank S.2.1 (xs (i + 1)) (xs (i + 2)) (xs (i + 3))).2.1 0) hI hi9 ho X hb ⟨by omega, by omega⟩ rfl rfl rfl (by omega) (by omega) (by decide +kernel) (by decide +kernel) (by decide +kernel) (by decide +kernel) ?_
  change wG E W9 A p l e R s m args below meth c 7 709 (lLv b x (aM 0) oA i (some (.int ((oBank S.2.1 (xs (i + 1)) (xs (i + 2)) (xs (i + 3))).2.1 0))) (some (.int (oBank S.2.1 (xs (i + 1)) (xs (i + 2)) (xs (i + 3))).1))) [] (S2, (oBank S.2.1 (xs (i + 1)) (xs (i + 2)) (xs (i + 3))).2, z9) (cs + 5) (ss + 30)
  refine wl_cmp (k5 := (oBank S.2.1 (xs (i + 1)) (xs (i + 2)) (xs (i + 3))).2.1 0) (v6 := (oBank S.2.1 (xs (i + 1)) (xs (i + 2)) (xs (i + 3))).1) hI X hb rfl rfl rfl g3 (by omega) (by omega) (by decide +kernel) (by decide +kernel) (by decide +kernel) (by decide +kernel) (by decide +kernel) (by decide +kernel) (by decide +kernel) (by decide +kernel) (by decide +kernel) ?_
  change wG E W9 A p l e R s m args below meth c 7 726 (lLv b x (aM 0) oA i (some (.int ((oBank S.2.1 (xs (i + 1)) (xs (i + 2)) (xs (i + 3))).2.1 0))) (some (.int (oBank S.2.1 (xs (i + 1)) (xs (i + 2)) (xs (i + 3))).1))) [] (S2, (oBank S.2.1 (xs (i + 1)) (xs (i + 2)) (xs (i + 3))).2, z9) (cs + 5) (ss + 30)
  refine wg_goto (z := 2574) (n2 := 1848) X.1 hb (by decide +kernel) (by decide) ?_
  exact hk _ _ _ _ _ g1 g2 (by omega) (by omega)
set_option maxHeartbeats 1000000 in
set_option maxRecDepth 20000 in
theorem lc_barge (hl : l.stackTraces = false) (Z : lZ E W9 A p R s m args c b L xs aM oA) (hi : i + 7 ≤ L) (hR : RR W9 B x S.1 S.2.1) (hB : B + 15 ≤ 8000) (hd : lApt aM oA S.1) (c1 : cs + 290 ≤ R.cells) (c2 : ss + 9660 ≤ R.slots) (hk : lNx E W9 A p l e R s m args below meth c b x aM oA i B cs ss) : wG E W9 A p l e R s m args below meth c 7 729 (lLv b x (aM 0) oA i u v) [] S cs ss := by
  obtain ⟨⟨hI, hi9, ho⟩, X, hb, hN, ⟨hX, hbl, hbA, hL⟩, r1, r2⟩ := Z
  have hall : iAll S.2.1 := by
    obtain ⟨_, _, _, h⟩ := hR
    exact h.2.2.1
  refine wg_aln (u := 1) (k := 1) X.1 hb (by decide +kernel) rfl rfl ?_
  refine wl_arg (n := 1) (z := 1) (i := i) X hb hX hbl hbA rfl rfl (by decide +kernel) (by decide +kernel) (by decide +kernel) (by decide +kernel) (by decide +kernel) (by decide +kernel) (by omega) hL (by omega) (by omega) (by show 1 + (0) ≤ 8; omega) ?_
  change wG E W9 A p l e R s m args below meth c 7 736 (lLv b x (aM 0) oA i u v) [.int (xs (i + 1)), .ref x] S cs ss
  refine wl_arg (n := 2) (z := 2) (i := i) X hb hX hbl hbA rfl rfl (by decide +kernel) (by decide +kernel) (by decide +kernel) (by decide +kernel) (by decide +kernel) (by decide +kernel) (by omega) hL (by omega) (by omega) (by show 1 + (1 + (0)) ≤ 8; omega) ?_
  change wG E W9 A p l e R s m args below meth c 7 742 (lLv b x (aM 0) oA i u v) [.int (xs (i + 2)), .int (xs (i + 1)), .ref x] S cs ss
  refine wl_arg (n := 3) (z := 3) (i := i) X hb hX hbl hbA rfl rfl (by decide +kernel) (by decide +kernel) (by decide +kernel) (by decide +kernel) (by decide +kernel) (by decide +kernel) (by omega) hL (by omega) (by omega) (by show 1 + (1 + (1 + (0))) ≤ 8; omega) ?_
  change wG E W9 A p l e R s m args below meth c 7 748 (lLv b x (aM 0) oA i u v) [.int (xs (i + 3)), .int (xs (i + 2)), .int (xs (i + 1)), .ref x] S cs ss
  refine wg_aln (u := 3) (k := 3) X.1 hb (by decide +kernel) rfl rfl ?_
  refine wg_call (i := .invokestatic 158) (len := 3) (av := [.ref x, .int (xs (i + 1)), .int (xs (i + 2)), .int (xs (i + 3)), .ref oA]) (rest := []) (KF := fun r S' => ∃ S2 z9, (r = rI ((oBarge S.2.1 (xs (i + 1)) (xs (i + 2)) (xs (i + 3))).2.1 0) ∧ S' = (S2, S.2.1, z9)) ∧ RR W9 (B + 15) x S2 (oBarge S.2.1 (xs (i + 1)) (xs (i + 2)) (xs (i + 3))).2 ∧ lApt aM oA S2 ∧ ((oBarge S.2.1 (xs (i + 1)) (xs (i + 2)) (xs (i + 3))).2.1 0 = 0 → z9 = (oBarge S.2.1 (xs (i + 1)) (xs (i + 2)) (xs (i + 3))).1.toInt64)) (xCR_SX (n := 5) (ci := 0) hI X hN (semL_barge l hl W9 aM oA) gL_law_L_barge rfl (by decide +kernel) ⟨by omega, by omega⟩) hb (by decide +kernel) rfl rfl rfl (fun ⟨k, q⟩ => by cases q) (by decide) (by show cs + 10 ≤ _; omega) (by show ss + 193 ≤ _; omega) ⟨x, _, _, _, B, rfl, ⟨hR, hB, hd⟩, fun S2 z9 h1 h2 h3 => ⟨S2, z9, ⟨rfl, rfl⟩, h1, h2, h3⟩⟩ (fun w S' hk1 => ?_) (fun ex S' hk1 => by obtain ⟨_, _, ⟨h, _⟩, _⟩ := hk1; cases h)
  obtain ⟨S2, z9, ⟨e1, rfl⟩, g1, g2, g3⟩ := hk1
  cases e1
  refine wg_is (k := 5) X.1 hb (by decide +kernel) (by omega) ?_
  change wG E W9 A p l e R s m args below meth c 7 754 (lLv b x (aM 0) oA i (some (.int ((oBarge S.2.1 (xs (i + 1)) (xs (i + 2)) (xs (i + 3))).2.1 0))) v) [] (S2, S.2.1, z9) (cs + 10) (ss + 193)
  refine wg_aln (u := 2) (k := 2) X.1 hb (by decide +kernel) rfl rfl ?_
  refine wl_arg (n := 1) (z := 1) (i := i) X hb hX hbl hbA rfl rfl (by decide +kernel) (by decide +kernel) (by decide +kernel) (by decide +kernel) (by decide +kernel) (by decide +kernel) (by omega) hL (by omega) (by omega) (by show 1 + (0) ≤ 8; omega) ?_
  change wG E W9 A p l e R s m args below meth c 7 761 (lLv b x (aM 0) oA i (some (.int ((oBarge S.2.1 (xs (i + 1)) (xs (i + 2)) (xs (i + 3))).2.1 0))) v) [.int (xs (i + 1)), .ref (aM 0)] (S2, S.2.1, z9) (cs + 10) (ss + 193)
  refine wl_arg (n := 2) (z := 2) (i := i) X hb hX hbl hbA rfl rfl (by decide +kernel) (by decide +kernel) (by decide +kernel) (by decide +kernel) (by decide +kernel) (by decide +kernel) (by omega) hL (by omega) (by omega) (by show 1 + (1 + (0)) ≤ 8; omega) ?_
  change wG E W9 A p l e R s m args below meth c 7 767 (lLv b x (aM 0) oA i (some (.int ((oBarge S.2.1 (xs (i + 1)) (xs (i + 2)) (xs (i + 3))).2.1 0))) v) [.int (xs (i + 2)), .int (xs (i + 1)), .ref (aM 0)] (S2, S.2.1, z9) (cs + 10) (ss + 193)
  refine wl_arg (n := 3) (z := 3) (i := i) X hb hX hbl hbA rfl rfl (by decide +kernel) (by decide +kernel) (by decide +kernel) (by decide +kernel) (by decide +kernel) (by decide +kernel) (by omega) hL (by omega) (by omega) (by show 1 + (1 + (1 + (0))) ≤ 8; omega) ?_
  change wG E W9 A p l e R s m args below meth c 7 773 (lLv b x (aM 0) oA i (some (.int ((oBarge S.2.1 (xs (i + 1)) (xs (i + 2)) (xs (i + 3))).2.1 0))) v) [.int (xs (i + 3)), .int (xs (i + 2)), .int (xs (i + 1)), .ref (aM 0)] (S2, S.2.1, z9) (cs + 10) (ss + 193)
  refine wg_call (i := .invokevirtual 160) (len := 3) (av := [.ref (aM 0), .int (xs (i + 1)), .int (xs (i + 2)), .int (xs (i + 3))]) (rest := []) (KF := fun r S' => r = rI (oBarge S.2.1 (xs (i + 1)) (xs (i + 2)) (xs (i + 3))).1 ∧ S' = (S2, (oBarge S.2.1 (xs (i + 1)) (xs (i + 2)) (xs (i + 3))).2, z9)) (xCR_VM (n := 3) (ci := 9) hI ho X (semX8_barge l W9 aM hi9) gL_law_X8_barge rfl rfl (by decide +kernel) ⟨by omega, by omega⟩) hb (by decide +kernel) rfl rfl rfl (fun _ => Or.inr (by rw [hI]; exact Or.inr ⟨rfl, rfl, ho 0 (by omega)⟩)) (by decide) (by show (cs + 10) + 0 ≤ _; omega) (by show (ss + 193) + 0 ≤ _; omega) (lM_mk (N_barge hall ⟨rfl, rfl⟩)) (fun w S' hk2 => ?_) (fun ex S' hk2 => by cases hk2.1)
  obtain ⟨e2, rfl⟩ := hk2
  cases e2
  refine wg_is (k := 6) X.1 hb (by decide +kernel) (by omega) ?_
  change wG E W9 A p l e R s m args below meth c 7 778 (lLv b x (aM 0) oA i (some (.int ((oBarge S.2.1 (xs (i + 1)) (xs (i + 2)) (xs (i + 3))).2.1 0))) (some (.int (oBarge S.2.1 (xs (i + 1)) (xs (i + 2)) (xs (i + 3))).1))) [] (S2, (oBarge S.2.1 (xs (i + 1)) (xs (i + 2)) (xs (i + 3))).2, z9) (cs + 10) (ss + 193)
  refine wl_th (k5 := (oBarge S.2.1 (xs (i + 1)) (xs (i + 2)) (xs (i + 3))).2.1 0) hI hi9 ho X hb ⟨by omega, by omega⟩ rfl rfl rfl (by omega) (by omega) (by decide +kernel) (by decide +kernel) (by decide +kernel) (by decide +kernel) ?_
  change wG E W9 A p l e R s m args below meth c 7 789 (lLv b x (aM 0) oA i (some (.int ((oBarge S.2.1 (xs (i + 1)) (xs (i + 2)) (xs (i + 3))).2.1 0))) (some (.int (oBarge S.2.1 (xs (i + 1)) (xs (i + 2)) (xs (i + 3))).1))) [] (S2, (oBarge S.2.1 (xs (i + 1)) (xs (i + 2)) (xs (i + 3))).2, z9) (cs + 10) (ss + 193)
  refine wl_cmp (k5 := (oBarge S.2.1 (xs (i + 1)) (xs (i + 2)) (xs (i + 3))).2.1 0) (v6 := (oBarge S.2.1 (xs (i + 1)) (xs (i + 2)) (xs (i + 3))).1) hI X hb rfl rfl rfl g3 (by omega) (by omega) (by decide +kernel) (by decide +kernel) (by decide +kernel) (by decide +kernel) (by decide +kernel) (by decide +kernel) (by decide +kernel) (by decide +kernel) (by decide +kernel) ?_
  change wG E W9 A p l e R s m args below meth c 7 806 (lLv b x (aM 0) oA i (some (.int ((oBarge S.2.1 (xs (i + 1)) (xs (i + 2)) (xs (i + 3))).2.1 0))) (some (.int (oBarge S.2.1 (xs (i + 1)) (xs (i + 2)) (xs (i + 3))).1))) [] (S2, (oBarge S.2.1 (xs (i + 1)) (xs (i + 2)) (xs (i + 3))).2, z9) (cs + 10) (ss + 193)
  refine wg_goto (z := 2574) (n2 := 1768) X.1 hb (by decide +kernel) (by decide) ?_
  exact hk _ _ _ _ _ g1 g2 (by omega) (by omega)
set_option maxHeartbeats 1000000 in
set_option maxRecDepth 20000 in
theorem lc_contract (hl : l.stackTraces = false) (Z : lZ E W9 A p R s m args c b L xs aM oA) (hi : i + 7 ≤ L) (hR : RR W9 B x S.1 S.2.1) (hB : B + 15 ≤ 8000) (hd : lApt aM oA S.1) (c1 : cs + 290 ≤ R.cells) (c2 : ss + 9660 ≤ R.slots) (hk : lNx E W9 A p l e R s m args below meth c b x aM oA i B cs ss) : wG E W9 A p l e R s m args below meth c 7 809 (lLv b x (aM 0) oA i u v) [] S cs ss := by
  obtain ⟨⟨hI, hi9, ho⟩, X, hb, hN, ⟨hX, hbl, hbA, hL⟩, r1, r2⟩ := Z
  have hall : iAll S.2.1 := by
    obtain ⟨_, _, _, h⟩ := hR
    exact h.2.2.1
  refine wg_aln (u := 1) (k := 1) X.1 hb (by decide +kernel) rfl rfl ?_
  refine wl_arg (n := 1) (z := 1) (i := i) X hb hX hbl hbA rfl rfl (by decide +kernel) (by decide +kernel) (by decide +kernel) (by decide +kernel) (by decide +kernel) (by decide +kernel) (by omega) hL (by omega) (by omega) (by show 1 + (0) ≤ 8; omega) ?_
  change wG E W9 A p l e R s m args below meth c 7 816 (lLv b x (aM 0) oA i u v) [.int (xs (i + 1)), .ref x] S cs ss
  refine wl_arg (n := 2) (z := 2) (i := i) X hb hX hbl hbA rfl rfl (by decide +kernel) (by decide +kernel) (by decide +kernel) (by decide +kernel) (by decide +kernel) (by decide +kernel) (by omega) hL (by omega) (by omega) (by show 1 + (1 + (0)) ≤ 8; omega) ?_
  change wG E W9 A p l e R s m args below meth c 7 822 (lLv b x (aM 0) oA i u v) [.int (xs (i + 2)), .int (xs (i + 1)), .ref x] S cs ss
  refine wl_arg (n := 3) (z := 3) (i := i) X hb hX hbl hbA rfl rfl (by decide +kernel) (by decide +kernel) (by decide +kernel) (by decide +kernel) (by decide +kernel) (by decide +kernel) (by omega) hL (by omega) (by omega) (by show 1 + (1 + (1 + (0))) ≤ 8; omega) ?_
  change wG E W9 A p l e R s m args below meth c 7 828 (lLv b x (aM 0) oA i u v) [.int (xs (i + 3)), .int (xs (i + 2)), .int (xs (i + 1)), .ref x] S cs ss
  refine wl_arg (n := 4) (z := 4) (i := i) X hb hX hbl hbA rfl rfl (by decide +kernel) (by decide +kernel) (by decide +kernel) (by decide +kernel) (by decide +kernel) (by decide +kernel) (by omega) hL (by omega) (by omega) (by show 1 + (1 + (1 + (1 + (0)))) ≤ 8; omega) ?_
  change wG E W9 A p l e R s m args below meth c 7 834 (lLv b x (aM 0) oA i u v) [.int (xs (i + 4)), .int (xs (i + 3)), .int (xs (i + 2)), .int (xs (i + 1)), .ref x] S cs ss
  refine wl_arg (n := 5) (z := 5) (i := i) X hb hX hbl hbA rfl rfl (by decide +kernel) (by decide +kernel) (by decide +kernel) (by decide +kernel) (by decide +kernel) (by decide +kernel) (by omega) hL (by omega) (by omega) (by show 1 + (1 + (1 + (1 + (1 + (0))))) ≤ 8; omega) ?_
  change wG E W9 A p l e R s m args below meth c 7 840 (lLv b x (aM 0) oA i u v) [.int (xs (i + 5)), .int (xs (i + 4)), .int (xs (i + 3)), .int (xs (i + 2)), .int (xs (i + 1)), .ref x] S cs ss
  refine wl_argB (n := 6) (z := 6) (i := i) X hb hX hbl hbA rfl rfl (by decide +kernel) (by decide +kernel) (by decide +kernel) (by decide +kernel) (by decide +kernel) (by decide +kernel) (by omega) hL (by omega) (by omega) (by show 1 + (1 + (1 + (1 + (1 + (1 + (0)))))) ≤ 8; omega) ?_
  change wG E W9 A p l e R s m args below meth c 7 847 (lLv b x (aM 0) oA i u v) [.int (xs (i + 6)), .int (xs (i + 5)), .int (xs (i + 4)), .int (xs (i + 3)), .int (xs (i + 2)), .int (xs (i + 1)), .ref x] S cs ss
  refine wg_aln (u := 3) (k := 3) X.1 hb (by decide +kernel) rfl rfl ?_
  refine wg_call (i := .invokestatic 161) (len := 3) (av := [.ref x, .int (xs (i + 1)), .int (xs (i + 2)), .int (xs (i + 3)), .int (xs (i + 4)), .int (xs (i + 5)), .int (xs (i + 6)), .ref oA]) (rest := []) (KF := fun r S' => ∃ S2 z9, (r = rI ((oContract S.2.1 (xs (i + 1)) (xs (i + 2)) (xs (i + 3)) (xs (i + 4)) (xs (i + 5)) (xs (i + 6))).2.1 0) ∧ S' = (S2, S.2.1, z9)) ∧ RR W9 (B + 15) x S2 (oContract S.2.1 (xs (i + 1)) (xs (i + 2)) (xs (i + 3)) (xs (i + 4)) (xs (i + 5)) (xs (i + 6))).2 ∧ lApt aM oA S2 ∧ ((oContract S.2.1 (xs (i + 1)) (xs (i + 2)) (xs (i + 3)) (xs (i + 4)) (xs (i + 5)) (xs (i + 6))).2.1 0 = 0 → z9 = (oContract S.2.1 (xs (i + 1)) (xs (i + 2)) (xs (i + 3)) (xs (i + 4)) (xs (i + 5)) (xs (i + 6))).1.toInt64)) (xCR_SX (n := 8) (ci := 0) hI X hN (semL_contract l hl W9 aM oA) gL_law_L_contract rfl (by decide +kernel) ⟨by omega, by omega⟩) hb (by decide +kernel) rfl rfl rfl (fun ⟨k, q⟩ => by cases q) (by decide) (by show cs + 10 ≤ _; omega) (by show ss + 104 ≤ _; omega) ⟨x, _, _, _, _, _, _, B, rfl, ⟨hR, hB, hd⟩, fun S2 z9 h1 h2 h3 => ⟨S2, z9, ⟨rfl, rfl⟩, h1, h2, h3⟩⟩ (fun w S' hk1 => ?_) (fun ex S' hk1 => by obtain ⟨_, _, ⟨h, _⟩, _⟩ := hk1; cases h)
  obtain ⟨S2, z9, ⟨e1, rfl⟩, g1, g2, g3⟩ := hk1
  cases e1
  refine wg_is (k := 5) X.1 hb (by decide +kernel) (by omega) ?_
  change wG E W9 A p l e R s m args below meth c 7 853 (lLv b x (aM 0) oA i (some (.int ((oContract S.2.1 (xs (i + 1)) (xs (i + 2)) (xs (i + 3)) (xs (i + 4)) (xs (i + 5)) (xs (i + 6))).2.1 0))) v) [] (S2, S.2.1, z9) (cs + 10) (ss + 104)
  refine wg_aln (u := 2) (k := 2) X.1 hb (by decide +kernel) rfl rfl ?_
  refine wl_arg (n := 1) (z := 1) (i := i) X hb hX hbl hbA rfl rfl (by decide +kernel) (by decide +kernel) (by decide +kernel) (by decide +kernel) (by decide +kernel) (by decide +kernel) (by omega) hL (by omega) (by omega) (by show 1 + (0) ≤ 8; omega) ?_
  change wG E W9 A p l e R s m args below meth c 7 860 (lLv b x (aM 0) oA i (some (.int ((oContract S.2.1 (xs (i + 1)) (xs (i + 2)) (xs (i + 3)) (xs (i + 4)) (xs (i + 5)) (xs (i + 6))).2.1 0))) v) [.int (xs (i + 1)), .ref (aM 0)] (S2, S.2.1, z9) (cs + 10) (ss + 104)
  refine wl_arg (n := 2) (z := 2) (i := i) X hb hX hbl hbA rfl rfl (by decide +kernel) (by decide +kernel) (by decide +kernel) (by decide +kernel) (by decide +kernel) (by decide +kernel) (by omega) hL (by omega) (by omega) (by show 1 + (1 + (0)) ≤ 8; omega) ?_
  change wG E W9 A p l e R s m args below meth c 7 866 (lLv b x (aM 0) oA i (some (.int ((oContract S.2.1 (xs (i + 1)) (xs (i + 2)) (xs (i + 3)) (xs (i + 4)) (xs (i + 5)) (xs (i + 6))).2.1 0))) v) [.int (xs (i + 2)), .int (xs (i + 1)), .ref (aM 0)] (S2, S.2.1, z9) (cs + 10) (ss + 104)
  refine wl_arg (n := 3) (z := 3) (i := i) X hb hX hbl hbA rfl rfl (by decide +kernel) (by decide +kernel) (by decide +kernel) (by decide +kernel) (by decide +kernel) (by decide +kernel) (by omega) hL (by omega) (by omega) (by show 1 + (1 + (1 + (0))) ≤ 8; omega) ?_
  change wG E W9 A p l e R s m args below meth c 7 872 (lLv b x (aM 0) oA i (some (.int ((oContract S.2.1 (xs (i + 1)) (xs (i + 2)) (xs (i + 3)) (xs (i + 4)) (xs (i + 5)) (xs (i + 6))).2.1 0))) v) [.int (xs (i + 3)), .int (xs (i + 2)), .int (xs (i + 1)), .ref (aM 0)] (S2, S.2.1, z9) (cs + 10) (ss + 104)
  refine wl_arg (n := 4) (z := 4) (i := i) X hb hX hbl hbA rfl rfl (by decide +kernel) (by decide +kernel) (by decide +kernel) (by decide +kernel) (by decide +kernel) (by decide +kernel) (by omega) hL (by omega) (by omega) (by show 1 + (1 + (1 + (1 + (0)))) ≤ 8; omega) ?_
  change wG E W9 A p l e R s m args below meth c 7 878 (lLv b x (aM 0) oA i (some (.int ((oContract S.2.1 (xs (i + 1)) (xs (i + 2)) (xs (i + 3)) (xs (i + 4)) (xs (i + 5)) (xs (i + 6))).2.1 0))) v) [.int (xs (i + 4)), .int (xs (i + 3)), .int (xs (i + 2)), .int (xs (i + 1)), .ref (aM 0)] (S2, S.2.1, z9) (cs + 10) (ss + 104)
  refine wl_arg (n := 5) (z := 5) (i := i) X hb hX hbl hbA rfl rfl (by decide +kernel) (by decide +kernel) (by decide +kernel) (by decide +kernel) (by decide +kernel) (by decide +kernel) (by omega) hL (by omega) (by omega) (by show 1 + (1 + (1 + (1 + (1 + (0))))) ≤ 8; omega) ?_
  change wG E W9 A p l e R s m args below meth c 7 884 (lLv b x (aM 0) oA i (some (.int ((oContract S.2.1 (xs (i + 1)) (xs (i + 2)) (xs (i + 3)) (xs (i + 4)) (xs (i + 5)) (xs (i + 6))).2.1 0))) v) [.int (xs (i + 5)), .int (xs (i + 4)), .int (xs (i + 3)), .int (xs (i + 2)), .int (xs (i + 1)), .ref (aM 0)] (S2, S.2.1, z9) (cs + 10) (ss + 104)
  refine wl_argB (n := 6) (z := 6) (i := i) X hb hX hbl hbA rfl rfl (by decide +kernel) (by decide +kernel) (by decide +kernel) (by decide +kernel) (by decide +kernel) (by decide +kernel) (by omega) hL (by omega) (by omega) (by show 1 + (1 + (1 + (1 + (1 + (1 + (0)))))) ≤ 8; omega) ?_
  change wG E W9 A p l e R s m args below meth c 7 891 (lLv b x (aM 0) oA i (some (.int ((oContract S.2.1 (xs (i + 1)) (xs (i + 2)) (xs (i + 3)) (xs (i + 4)) (xs (i + 5)) (xs (i + 6))).2.1 0))) v) [.int (xs (i + 6)), .int (xs (i + 5)), .int (xs (i + 4)), .int (xs (i + 3)), .int (xs (i + 2)), .int (xs (i + 1)), .ref (aM 0)] (S2, S.2.1, z9) (cs + 10) (ss + 104)
  refine wg_call (i := .invokevirtual 164) (len := 3) (av := [.ref (aM 0), .int (xs (i + 1)), .int (xs (i + 2)), .int (xs (i + 3)), .int (xs (i + 4)), .int (xs (i + 5)), .int (xs (i + 6))]) (rest := []) (KF := fun r S' => r = rI (oContract S.2.1 (xs (i + 1)) (xs (i + 2)) (xs (i + 3)) (xs (i + 4)) (xs (i + 5)) (xs (i + 6))).1 ∧ S' = (S2, (oContract S.2.1 (xs (i + 1)) (xs (i + 2)) (xs (i + 3)) (xs (i + 4)) (xs (i + 5)) (xs (i + 6))).2, z9)) (xCR_VM (n := 6) (ci := 9) hI ho X (semX8_contract l W9 aM hi9) gL_law_X8_contract rfl rfl (by decide +kernel) ⟨by omega, by omega⟩) hb (by decide +kernel) rfl rfl rfl (fun _ => Or.inr (by rw [hI]; exact Or.inr ⟨rfl, rfl, ho 0 (by omega)⟩)) (by decide) (by show (cs + 10) + 0 ≤ _; omega) (by show (ss + 104) + 0 ≤ _; omega) (lM_mk (N_contract hall ⟨rfl, rfl⟩)) (fun w S' hk2 => ?_) (fun ex S' hk2 => by cases hk2.1)
  obtain ⟨e2, rfl⟩ := hk2
  cases e2
  refine wg_is (k := 6) X.1 hb (by decide +kernel) (by omega) ?_
  change wG E W9 A p l e R s m args below meth c 7 896 (lLv b x (aM 0) oA i (some (.int ((oContract S.2.1 (xs (i + 1)) (xs (i + 2)) (xs (i + 3)) (xs (i + 4)) (xs (i + 5)) (xs (i + 6))).2.1 0))) (some (.int (oContract S.2.1 (xs (i + 1)) (xs (i + 2)) (xs (i + 3)) (xs (i + 4)) (xs (i + 5)) (xs (i + 6))).1))) [] (S2, (oContract S.2.1 (xs (i + 1)) (xs (i + 2)) (xs (i + 3)) (xs (i + 4)) (xs (i + 5)) (xs (i + 6))).2, z9) (cs + 10) (ss + 104)
  refine wl_th (k5 := (oContract S.2.1 (xs (i + 1)) (xs (i + 2)) (xs (i + 3)) (xs (i + 4)) (xs (i + 5)) (xs (i + 6))).2.1 0) hI hi9 ho X hb ⟨by omega, by omega⟩ rfl rfl rfl (by omega) (by omega) (by decide +kernel) (by decide +kernel) (by decide +kernel) (by decide +kernel) ?_
  change wG E W9 A p l e R s m args below meth c 7 907 (lLv b x (aM 0) oA i (some (.int ((oContract S.2.1 (xs (i + 1)) (xs (i + 2)) (xs (i + 3)) (xs (i + 4)) (xs (i + 5)) (xs (i + 6))).2.1 0))) (some (.int (oContract S.2.1 (xs (i + 1)) (xs (i + 2)) (xs (i + 3)) (xs (i + 4)) (xs (i + 5)) (xs (i + 6))).1))) [] (S2, (oContract S.2.1 (xs (i + 1)) (xs (i + 2)) (xs (i + 3)) (xs (i + 4)) (xs (i + 5)) (xs (i + 6))).2, z9) (cs + 10) (ss + 104)
  refine wl_cmp (k5 := (oContract S.2.1 (xs (i + 1)) (xs (i + 2)) (xs (i + 3)) (xs (i + 4)) (xs (i + 5)) (xs (i + 6))).2.1 0) (v6 := (oContract S.2.1 (xs (i + 1)) (xs (i + 2)) (xs (i + 3)) (xs (i + 4)) (xs (i + 5)) (xs (i + 6))).1) hI X hb rfl rfl rfl g3 (by omega) (by omega) (by decide +kernel) (by decide +kernel) (by decide +kernel) (by decide +kernel) (by decide +kernel) (by decide +kernel) (by decide +kernel) (by decide +kernel) (by decide +kernel) ?_
  change wG E W9 A p l e R s m args below meth c 7 924 (lLv b x (aM 0) oA i (some (.int ((oContract S.2.1 (xs (i + 1)) (xs (i + 2)) (xs (i + 3)) (xs (i + 4)) (xs (i + 5)) (xs (i + 6))).2.1 0))) (some (.int (oContract S.2.1 (xs (i + 1)) (xs (i + 2)) (xs (i + 3)) (xs (i + 4)) (xs (i + 5)) (xs (i + 6))).1))) [] (S2, (oContract S.2.1 (xs (i + 1)) (xs (i + 2)) (xs (i + 3)) (xs (i + 4)) (xs (i + 5)) (xs (i + 6))).2, z9) (cs + 10) (ss + 104)
  refine wg_goto (z := 2574) (n2 := 1650) X.1 hb (by decide +kernel) (by decide) ?_
  exact hk _ _ _ _ _ g1 g2 (by omega) (by omega)
end LK
