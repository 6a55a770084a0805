/-! The law's own body: its cases, on. -/
theorem N_shiftsAnew {aM : Nat → Nat} {M : mS} {p : Int32} {s : Int32} {K : xRes → mS → Prop} (hi : iAll M) (hk : K (rI (oShifts M p s).1) (oShifts M p s).2) : (spX8_shiftsAnew aM).2 [.ref (aM 0), .int p, .int s] M K := by
  rw [spwX8_shiftsAnew]
  exact ⟨hi.1.2.1, iAll_td hi, hk⟩
section LK
variable {E : xEnv lS} {W9 : xWd} {A : Nat → Prop} {aM : Nat → Nat} {oA : Nat}
variable {p : Program} {l : Launch} {e : Env} {R : Room} {s : State} {m : MethodId} {args : Array Value} {below : List Frame} {meth : Method} {c : Code}
variable {b L i x B : Nat} {xs : Nat → Int32} {u v : Option Value} {S : lS} {cs ss : Nat}
set_option maxHeartbeats 1000000 in
set_option maxRecDepth 20000 in
theorem lc_ofBoat (hl : l.stackTraces = false) (Z : lZ E W9 A p R s m args c b L xs aM oA) (hi : i + 7 ≤ L) (hR : RR W9 B x S.1 S.2.1) (hB : B + 15 ≤ 8000) (hd : lApt aM oA S.1) (c1 : cs + 290 ≤ R.cells) (c2 : ss + 9660 ≤ R.slots) (hk : lNx E W9 A p l e R s m args below meth c b x aM oA i B cs ss) : wG E W9 A p l e R s m args below meth c 7 2054 (lLv b x (aM 0) oA i u v) [] S cs ss := by
  obtain ⟨⟨hI, hi9, ho⟩, X, hb, hN, ⟨hX, hbl, hbA, hL⟩, r1, r2⟩ := Z
  have hall : iAll S.2.1 := by
    obtain ⟨_, _, _, h⟩ := hR
    exact h.2.2.1
  refine wg_aln (u := 1) (k := 1) X.1 hb (by decide +kernel) rfl rfl ?_
  refine wl_arg (n := 1) (z := 1) (i := i) X hb hX hbl hbA rfl rfl (by decide +kernel) (by decide +kernel) (by decide +kernel) (by decide +kernel) (by decide +kernel) (by decide +kernel) (by omega) hL (by omega) (by omega) (by show 1 + (0) ≤ 8; omega) ?_
  change wG E W9 A p l e R s m args below meth c 7 2061 (lLv b x (aM 0) oA i u v) [.int (xs (i + 1)), .ref x] S cs ss
  refine wl_arg (n := 2) (z := 2) (i := i) X hb hX hbl hbA rfl rfl (by decide +kernel) (by decide +kernel) (by decide +kernel) (by decide +kernel) (by decide +kernel) (by decide +kernel) (by omega) hL (by omega) (by omega) (by show 1 + (1 + (0)) ≤ 8; omega) ?_
  change wG E W9 A p l e R s m args below meth c 7 2067 (lLv b x (aM 0) oA i u v) [.int (xs (i + 2)), .int (xs (i + 1)), .ref x] S cs ss
  refine wg_aln (u := 3) (k := 3) X.1 hb (by decide +kernel) rfl rfl ?_
  refine wg_call (i := .invokestatic 215) (len := 3) (av := [.ref x, .int (xs (i + 1)), .int (xs (i + 2)), .ref oA]) (rest := []) (KF := fun r S' => ∃ S2 z9, (r = rI ((oOfBoat S.2.1 (xs (i + 1)) (xs (i + 2))).2.1 0) ∧ S' = (S2, S.2.1, z9)) ∧ RR W9 (B + 15) x S2 (oOfBoat S.2.1 (xs (i + 1)) (xs (i + 2))).2 ∧ lApt aM oA S2 ∧ ((oOfBoat S.2.1 (xs (i + 1)) (xs (i + 2))).2.1 0 = 0 → z9 = (oOfBoat S.2.1 (xs (i + 1)) (xs (i + 2))).1.toInt64)) (xCR_SX (n := 4) (ci := 0) hI X hN (semL_ofBoat l hl W9 aM oA) gL_law_L_ofBoat rfl (by decide +kernel) ⟨by omega, by omega⟩) hb (by decide +kernel) rfl rfl rfl (fun ⟨k, q⟩ => by cases q) (by decide) (by show cs + 2 ≤ _; omega) (by show ss + 12 ≤ _; omega) ⟨x, _, _, B, rfl, ⟨hR, hB, hd⟩, fun S2 z9 h1 h2 h3 => ⟨S2, z9, ⟨rfl, rfl⟩, h1, h2, h3⟩⟩ (fun w S' hk1 => ?_) (fun ex S' hk1 => by obtain ⟨_, _, ⟨h, _⟩, _⟩ := hk1; cases h)
  obtain ⟨S2, z9, ⟨e1, rfl⟩, g1, g2, g3⟩ := hk1
  cases e1
  refine wg_is (k := 5) X.1 hb (by decide +kernel) (by omega) ?_
  change wG E W9 A p l e R s m args below meth c 7 2073 (lLv b x (aM 0) oA i (some (.int ((oOfBoat S.2.1 (xs (i + 1)) (xs (i + 2))).2.1 0))) v) [] (S2, S.2.1, z9) (cs + 2) (ss + 12)
  refine wg_aln (u := 2) (k := 2) X.1 hb (by decide +kernel) rfl rfl ?_
  refine wl_arg (n := 1) (z := 1) (i := i) X hb hX hbl hbA rfl rfl (by decide +kernel) (by decide +kernel) (by decide +kernel) (by decide +kernel) (by decide +kernel) (by decide +kernel) (by omega) hL (by omega) (by omega) (by show 1 + (0) ≤ 8; omega) ?_
  change wG E W9 A p l e R s m args below meth c 7 2080 (lLv b x (aM 0) oA i (some (.int ((oOfBoat S.2.1 (xs (i + 1)) (xs (i + 2))).2.1 0))) v) [.int (xs (i + 1)), .ref (aM 0)] (S2, S.2.1, z9) (cs + 2) (ss + 12)
  refine wl_arg (n := 2) (z := 2) (i := i) X hb hX hbl hbA rfl rfl (by decide +kernel) (by decide +kernel) (by decide +kernel) (by decide +kernel) (by decide +kernel) (by decide +kernel) (by omega) hL (by omega) (by omega) (by show 1 + (1 + (0)) ≤ 8; omega) ?_
  change wG E W9 A p l e R s m args below meth c 7 2086 (lLv b x (aM 0) oA i (some (.int ((oOfBoat S.2.1 (xs (i + 1)) (xs (i + 2))).2.1 0))) v) [.int (xs (i + 2)), .int (xs (i + 1)), .ref (aM 0)] (S2, S.2.1, z9) (cs + 2) (ss + 12)
  refine wg_call (i := .invokevirtual 217) (len := 3) (av := [.ref (aM 0), .int (xs (i + 1)), .int (xs (i + 2))]) (rest := []) (KF := fun r S' => r = rI (oOfBoat S.2.1 (xs (i + 1)) (xs (i + 2))).1 ∧ S' = (S2, (oOfBoat S.2.1 (xs (i + 1)) (xs (i + 2))).2, z9)) (xCR_VM (n := 2) (ci := 9) hI ho X (semX8_ofBoat l W9 aM hi9) gL_law_X8_ofBoat rfl rfl (by decide +kernel) ⟨by omega, by omega⟩) hb (by decide +kernel) rfl rfl rfl (fun _ => Or.inr (by rw [hI]; exact Or.inr ⟨rfl, rfl, ho 0 (by omega)⟩)) (by decide) (by show (cs + 2) + 0 ≤ _; omega) (by show (ss + 12) + 0 ≤ _; omega) (lM_mk (N_ofBoat hall ⟨rfl, rfl⟩)) (fun w S' hk2 => ?_) (fun ex S' hk2 => by cases hk2.1)
  obtain ⟨e2, rfl⟩ := hk2
  cases e2
  refine wg_is (k := 6) X.1 hb (by decide +kernel) (by omega) ?_
  change wG E W9 A p l e R s m args below meth c 7 2091 (lLv b x (aM 0) oA i (some (.int ((oOfBoat S.2.1 (xs (i + 1)) (xs (i + 2))).2.1 0))) (some (.int (oOfBoat S.2.1 (xs (i + 1)) (xs (i + 2))).1))) [] (S2, (oOfBoat S.2.1 (xs (i + 1)) (xs (i + 2))).2, z9) (cs + 2) (ss + 12)
  refine wl_th (k5 := (oOfBoat S.2.1 (xs (i + 1)) (xs (i + 2))).2.1 0) hI hi9 ho X hb ⟨by omega, by omega⟩ rfl rfl rfl (by omega) (by omega) (by decide +kernel) (by decide +kernel) (by decide +kernel) (by decide +kernel) ?_
  change wG E W9 A p l e R s m args below meth c 7 2102 (lLv b x (aM 0) oA i (some (.int ((oOfBoat S.2.1 (xs (i + 1)) (xs (i + 2))).2.1 0))) (some (.int (oOfBoat S.2.1 (xs (i + 1)) (xs (i + 2))).1))) [] (S2, (oOfBoat S.2.1 (xs (i + 1)) (xs (i + 2))).2, z9) (cs + 2) (ss + 12)
  refine wl_cmp (k5 := (oOfBoat S.2.1 (xs (i + 1)) (xs (i + 2))).2.1 0) (v6 := (oOfBoat S.2.1 (xs (i + 1)) (xs (i + 2))).1) hI X hb rfl rfl rfl g3 (by omega) (by omega) (by decide +kernel) (by decide +kernel) (by decide +kernel) (by decide +kernel) (by decide +kernel) (by decide +kernel) (by decide +kernel) (by decide +kernel) (by decide +kernel) ?_
  change wG E W9 A p l e R s m args below meth c 7 2119 (lLv b x (aM 0) oA i (some (.int ((oOfBoat S.2.1 (xs (i + 1)) (xs (i + 2))).2.1 0))) (some (.int (oOfBoat S.2.1 (xs (i + 1)) (xs (i + 2))).1))) [] (S2, (oOfBoat S.2.1 (xs (i + 1)) (xs (i + 2))).2, z9) (cs + 2) (ss + 12)
  refine wg_goto (z := 2574) (n2 := 455) X.1 hb (by decide +kernel) (by decide) ?_
  exact hk _ _ _ _ _ g1 g2 (by omega) (by omega)
set_option maxHeartbeats 1000000 in
set_option maxRecDepth 20000 in
theorem lc_waited (hl : l.stackTraces = false) (Z : lZ E W9 A p R s m args c b L xs aM oA) (hi : i + 7 ≤ L) (hR : RR W9 B x S.1 S.2.1) (hB : B + 15 ≤ 8000) (hd : lApt aM oA S.1) (c1 : cs + 290 ≤ R.cells) (c2 : ss + 9660 ≤ R.slots) (hk : lNx E W9 A p l e R s m args below meth c b x aM oA i B cs ss) : wG E W9 A p l e R s m args below meth c 7 2122 (lLv b x (aM 0) oA i u v) [] S cs ss := by
  obtain ⟨⟨hI, hi9, ho⟩, X, hb, hN, ⟨hX, hbl, hbA, hL⟩, r1, r2⟩ := Z
  have hall : iAll S.2.1 := by
    obtain ⟨_, _, _, h⟩ := hR
    exact h.2.2.1
  refine wg_aln (u := 1) (k := 1) X.1 hb (by decide +kernel) rfl rfl ?_
  refine wl_arg (n := 1) (z := 1) (i := i) X hb hX hbl hbA rfl rfl (by decide +kernel) (by decide +kernel) (by decide +kernel) (by decide +kernel) (by decide +kernel) (by decide +kernel) (by omega) hL (by omega) (by omega) (by show 1 + (0) ≤ 8; omega) ?_
  change wG E W9 A p l e R s m args below meth c 7 2129 (lLv b x (aM 0) oA i u v) [.int (xs (i + 1)), .ref x] S cs ss
  refine wl_arg (n := 2) (z := 2) (i := i) X hb hX hbl hbA rfl rfl (by decide +kernel) (by decide +kernel) (by decide +kernel) (by decide +kernel) (by decide +kernel) (by decide +kernel) (by omega) hL (by omega) (by omega) (by show 1 + (1 + (0)) ≤ 8; omega) ?_
  change wG E W9 A p l e R s m args below meth c 7 2135 (lLv b x (aM 0) oA i u v) [.int (xs (i + 2)), .int (xs (i + 1)), .ref x] S cs ss
  refine wg_aln (u := 3) (k := 3) X.1 hb (by decide +kernel) rfl rfl ?_
  refine wg_call (i := .invokestatic 218) (len := 3) (av := [.ref x, .int (xs (i + 1)), .int (xs (i + 2)), .ref oA]) (rest := []) (KF := fun r S' => ∃ S2 z9, (r = rI ((oWaited S.2.1 (xs (i + 1)) (xs (i + 2))).2.1 0) ∧ S' = (S2, S.2.1, z9)) ∧ RR W9 (B + 15) x S2 (oWaited S.2.1 (xs (i + 1)) (xs (i + 2))).2 ∧ lApt aM oA S2 ∧ ((oWaited S.2.1 (xs (i + 1)) (xs (i + 2))).2.1 0 = 0 → z9 = (oWaited S.2.1 (xs (i + 1)) (xs (i + 2))).1.toInt64)) (xCR_SX (n := 4) (ci := 0) hI X hN (semL_waited l hl W9 aM oA) gL_law_L_waited rfl (by decide +kernel) ⟨by omega, by omega⟩) hb (by decide +kernel) rfl rfl rfl (fun ⟨k, q⟩ => by cases q) (by decide) (by show cs + 2 ≤ _; omega) (by show ss + 12 ≤ _; omega) ⟨x, _, _, B, rfl, ⟨hR, hB, hd⟩, fun S2 z9 h1 h2 h3 => ⟨S2, z9, ⟨rfl, rfl⟩, h1, h2, h3⟩⟩ (fun w S' hk1 => ?_) (fun ex S' hk1 => by obtain ⟨_, _, ⟨h, _⟩, _⟩ := hk1; cases h)
  obtain ⟨S2, z9, ⟨e1, rfl⟩, g1, g2, g3⟩ := hk1
  cases e1
  refine wg_is (k := 5) X.1 hb (by decide +kernel) (by omega) ?_
  change wG E W9 A p l e R s m args below meth c 7 2141 (lLv b x (aM 0) oA i (some (.int ((oWaited S.2.1 (xs (i + 1)) (xs (i + 2))).2.1 0))) v) [] (S2, S.2.1, z9) (cs + 2) (ss + 12)
  refine wg_aln (u := 2) (k := 2) X.1 hb (by decide +kernel) rfl rfl ?_
  refine wl_arg (n := 1) (z := 1) (i := i) X hb hX hbl hbA rfl rfl (by decide +kernel) (by decide +kernel) (by decide +kernel) (by decide +kernel) (by decide +kernel) (by decide +kernel) (by omega) hL (by omega) (by omega) (by show 1 + (0) ≤ 8; omega) ?_
  change wG E W9 A p l e R s m args below meth c 7 2148 (lLv b x (aM 0) oA i (some (.int ((oWaited S.2.1 (xs (i + 1)) (xs (i + 2))).2.1 0))) v) [.int (xs (i + 1)), .ref (aM 0)] (S2, S.2.1, z9) (cs + 2) (ss + 12)
  refine wl_arg (n := 2) (z := 2) (i := i) X hb hX hbl hbA rfl rfl (by decide +kernel) (by decide +kernel) (by decide +kernel) (by decide +kernel) (by decide +kernel) (by decide +kernel) (by omega) hL (by omega) (by omega) (by show 1 + (1 + (0)) ≤ 8; omega) ?_
  change wG E W9 A p l e R s m args below meth c 7 2154 (lLv b x (aM 0) oA i (some (.int ((oWaited S.2.1 (xs (i + 1)) (xs (i + 2))).2.1 0))) v) [.int (xs (i + 2)), .int (xs (i + 1)), .ref (aM 0)] (S2, S.2.1, z9) (cs + 2) (ss + 12)
  refine wg_call (i := .invokevirtual 220) (len := 3) (av := [.ref (aM 0), .int (xs (i + 1)), .int (xs (i + 2))]) (rest := []) (KF := fun r S' => r = rI (oWaited S.2.1 (xs (i + 1)) (xs (i + 2))).1 ∧ S' = (S2, (oWaited S.2.1 (xs (i + 1)) (xs (i + 2))).2, z9)) (xCR_VM (n := 2) (ci := 9) hI ho X (semX8_waited l W9 aM hi9) gL_law_X8_waited rfl rfl (by decide +kernel) ⟨by omega, by omega⟩) hb (by decide +kernel) rfl rfl rfl (fun _ => Or.inr (by rw [hI]; exact Or.inr ⟨rfl, rfl, ho 0 (by omega)⟩)) (by decide) (by show (cs + 2) + 0 ≤ _; omega) (by show (ss + 12) + 0 ≤ _; omega) (lM_mk (N_waited hall ⟨rfl, rfl⟩)) (fun w S' hk2 => ?_) (fun ex S' hk2 => by cases hk2.1)
  obtain ⟨e2, rfl⟩ := hk2
  cases e2
  refine wg_is (k := 6) X.1 hb (by decide +kernel) (by omega) ?_
  change wG E W9 A p l e R s m args below meth c 7 2159 (lLv b x (aM 0) oA i (some (.int ((oWaited S.2.1 (xs (i + 1)) (xs (i + 2))).2.1 0))) (some (.int (oWaited S.2.1 (xs (i + 1)) (xs (i + 2))).1))) [] (S2, (oWaited S.2.1 (xs (i + 1)) (xs (i + 2))).2, z9) (cs + 2) (ss + 12)
  refine wl_th (k5 := (oWaited S.2.1 (xs (i + 1)) (xs (i + 2))).2.1 0) hI hi9 ho X hb ⟨by omega, by omega⟩ rfl rfl rfl (by omega) (by omega) (by decide +kernel) (by decide +kernel) (by decide +kernel) (by decide +kernel) ?_
  change wG E W9 A p l e R s m args below meth c 7 2170 (lLv b x (aM 0) oA i (some (.int ((oWaited S.2.1 (xs (i + 1)) (xs (i + 2))).2.1 0))) (some (.int (oWaited S.2.1 (xs (i + 1)) (xs (i + 2))).1))) [] (S2, (oWaited S.2.1 (xs (i + 1)) (xs (i + 2))).2, z9) (cs + 2) (ss + 12)
  refine wl_cmp (k5 := (oWaited S.2.1 (xs (i + 1)) (xs (i + 2))).2.1 0) (v6 := (oWaited S.2.1 (xs (i + 1)) (xs (i + 2))).1) hI X hb rfl rfl rfl g3 (by omega) (by omega) (by decide +kernel) (by decide +kernel) (by decide +kernel) (by decide +kernel) (by decide +kernel) (by decide +kernel) (by decide +kernel) (by decide +kernel) (by decide +kernel) ?_
  change wG E W9 A p l e R s m args below meth c 7 2187 (lLv b x (aM 0) oA i (some (.int ((oWaited S.2.1 (xs (i + 1)) (xs (i + 2))).2.1 0))) (some (.int (oWaited S.2.1 (xs (i + 1)) (xs (i + 2))).1))) [] (S2, (oWaited S.2.1 (xs (i + 1)) (xs (i + 2))).2, z9) (cs + 2) (ss + 12)
  refine wg_goto (z := 2574) (n2 := 387) X.1 hb (by decide +kernel) (by decide) ?_
  exact hk _ _ _ _ _ g1 g2 (by omega) (by omega)
set_option maxHeartbeats 1000000 in
set_option maxRecDepth 20000 in
theorem lc_ofBarge (hl : l.stackTraces = false) (Z : lZ E W9 A p R s m args c b L xs aM oA) (hi : i + 7 ≤ L) (hR : RR W9 B x S.1 S.2.1) (hB : B + 15 ≤ 8000) (hd : lApt aM oA S.1) (c1 : cs + 290 ≤ R.cells) (c2 : ss + 9660 ≤ R.slots) (hk : lNx E W9 A p l e R s m args below meth c b x aM oA i B cs ss) : wG E W9 A p l e R s m args below meth c 7 2190 (lLv b x (aM 0) oA i u v) [] S cs ss := by
  obtain ⟨⟨hI, hi9, ho⟩, X, hb, hN, ⟨hX, hbl, hbA, hL⟩, r1, r2⟩ := Z
  have hall : iAll S.2.1 := by
    obtain ⟨_, _, _, h⟩ := hR
    exact h.2.2.1
  refine wg_aln (u := 1) (k := 1) X.1 hb (by decide +kernel) rfl rfl ?_
  refine wl_arg (n := 1) (z := 1) (i := i) X hb hX hbl hbA rfl rfl (by decide +kernel) (by decide +kernel) (by decide +kernel) (by decide +kernel) (by decide +kernel) (by decide +kernel) (by omega) hL (by omega) (by omega) (by show 1 + (0) ≤ 8; omega) ?_
  change wG E W9 A p l e R s m args below meth c 7 2197 (lLv b x (aM 0) oA i u v) [.int (xs (i + 1)), .ref x] S cs ss
  refine wl_arg (n := 2) (z := 2) (i := i) X hb hX hbl hbA rfl rfl (by decide +kernel) (by decide +kernel) (by decide +kernel) (by decide +kernel) (by decide +kernel) (by decide +kernel) (by omega) hL (by omega) (by omega) (by show 1 + (1 + (0)) ≤ 8; omega) ?_
  change wG E W9 A p l e R s m args below meth c 7 2203 (lLv b x (aM 0) oA i u v) [.int (xs (i + 2)), .int (xs (i + 1)), .ref x] S cs ss
  refine wg_aln (u := 3) (k := 3) X.1 hb (by decide +kernel) rfl rfl ?_
  refine wg_call (i := .invokestatic 221) (len := 3) (av := [.ref x, .int (xs (i + 1)), .int (xs (i + 2)), .ref oA]) (rest := []) (KF := fun r S' => ∃ S2 z9, (r = rI ((oOfBarge S.2.1 (xs (i + 1)) (xs (i + 2))).2.1 0) ∧ S' = (S2, S.2.1, z9)) ∧ RR W9 (B + 15) x S2 (oOfBarge S.2.1 (xs (i + 1)) (xs (i + 2))).2 ∧ lApt aM oA S2 ∧ ((oOfBarge S.2.1 (xs (i + 1)) (xs (i + 2))).2.1 0 = 0 → z9 = (oOfBarge S.2.1 (xs (i + 1)) (xs (i + 2))).1.toInt64)) (xCR_SX (n := 4) (ci := 0) hI X hN (semL_ofBarge l hl W9 aM oA) gL_law_L_ofBarge rfl (by decide +kernel) ⟨by omega, by omega⟩) hb (by decide +kernel) rfl rfl rfl (fun ⟨k, q⟩ => by cases q) (by decide) (by show cs + 2 ≤ _; omega) (by show ss + 12 ≤ _; omega) ⟨x, _, _, B, rfl, ⟨hR, hB, hd⟩, fun S2 z9 h1 h2 h3 => ⟨S2, z9, ⟨rfl, rfl⟩, h1, h2, h3⟩⟩ (fun w S' hk1 => ?_) (fun ex S' hk1 => by obtain ⟨_, _, ⟨h, _⟩, _⟩ := hk1; cases h)
  obtain ⟨S2, z9, ⟨e1, rfl⟩, g1, g2, g3⟩ := hk1
  cases e1
  refine wg_is (k := 5) X.1 hb (by decide +kernel) (by omega) ?_
  change wG E W9 A p l e R s m args below meth c 7 2209 (lLv b x (aM 0) oA i (some (.int ((oOfBarge S.2.1 (xs (i + 1)) (xs (i + 2))).2.1 0))) v) [] (S2, S.2.1, z9) (cs + 2) (ss + 12)
  refine wg_aln (u := 2) (k := 2) X.1 hb (by decide +kernel) rfl rfl ?_
  refine wl_arg (n := 1) (z := 1) (i := i) X hb hX hbl hbA rfl rfl (by decide +kernel) (by decide +kernel) (by decide +kernel) (by decide +kernel) (by decide +kernel) (by decide +kernel) (by omega) hL (by omega) (by omega) (by show 1 + (0) ≤ 8; omega) ?_
  change wG E W9 A p l e R s m args below meth c 7 2216 (lLv b x (aM 0) oA i (some (.int ((oOfBarge S.2.1 (xs (i + 1)) (xs (i + 2))).2.1 0))) v) [.int (xs (i + 1)), .ref (aM 0)] (S2, S.2.1, z9) (cs + 2) (ss + 12)
  refine wl_arg (n := 2) (z := 2) (i := i) X hb hX hbl hbA rfl rfl (by decide +kernel) (by decide +kernel) (by decide +kernel) (by decide +kernel) (by decide +kernel) (by decide +kernel) (by omega) hL (by omega) (by omega) (by show 1 + (1 + (0)) ≤ 8; omega) ?_
  change wG E W9 A p l e R s m args below meth c 7 2222 (lLv b x (aM 0) oA i (some (.int ((oOfBarge S.2.1 (xs (i + 1)) (xs (i + 2))).2.1 0))) v) [.int (xs (i + 2)), .int (xs (i + 1)), .ref (aM 0)] (S2, S.2.1, z9) (cs + 2) (ss + 12)
  refine wg_call (i := .invokevirtual 223) (len := 3) (av := [.ref (aM 0), .int (xs (i + 1)), .int (xs (i + 2))]) (rest := []) (KF := fun r S' => r = rI (oOfBarge S.2.1 (xs (i + 1)) (xs (i + 2))).1 ∧ S' = (S2, (oOfBarge S.2.1 (xs (i + 1)) (xs (i + 2))).2, z9)) (xCR_VM (n := 2) (ci := 9) hI ho X (semX8_ofBarge l W9 aM hi9) gL_law_X8_ofBarge rfl rfl (by decide +kernel) ⟨by omega, by omega⟩) hb (by decide +kernel) rfl rfl rfl (fun _ => Or.inr (by rw [hI]; exact Or.inr ⟨rfl, rfl, ho 0 (by omega)⟩)) (by decide) (by show (cs + 2) + 0 ≤ _; omega) (by show (ss + 12) + 0 ≤ _; omega) (lM_mk (N_ofBarge hall ⟨rfl, rfl⟩)) (fun w S' hk2 => ?_) (fun ex S' hk2 => by cases hk2.1)
  obtain ⟨e2, rfl⟩ := hk2
  cases e2
  refine wg_is (k := 6) X.1 hb (by decide +kernel) (by omega) ?_
  change wG E W9 A p l e R s m args below meth c 7 2227 (lLv b x (aM 0) oA i (some (.int ((oOfBarge S.2.1 (xs (i + 1)) (xs (i + 2))).2.1 0))) (some (.int (oOfBarge S.2.1 (xs (i + 1)) (xs (i + 2))).1))) [] (S2, (oOfBarge S.2.1 (xs (i + 1)) (xs (i + 2))).2, z9) (cs + 2) (ss + 12)
  refine wl_th (k5 := (oOfBarge S.2.1 (xs (i + 1)) (xs (i + 2))).2.1 0) hI hi9 ho X hb ⟨by omega, by omega⟩ rfl rfl rfl (by omega) (by omega) (by decide +kernel) (by decide +kernel) (by decide +kernel) (by decide +kernel) ?_
  change wG E W9 A p l e R s m args below meth c 7 2238 (lLv b x (aM 0) oA i (some (.int ((oOfBarge S.2.1 (xs (i + 1)) (xs (i + 2))).2.1 0))) (some (.int (oOfBarge S.2.1 (xs (i + 1)) (xs (i + 2))).1))) [] (S2, (oOfBarge S.2.1 (xs (i + 1)) (xs (i + 2))).2, z9) (cs + 2) (ss + 12)
  refine wl_cmp (k5 := (oOfBarge S.2.1 (xs (i + 1)) (xs (i + 2))).2.1 0) (v6 := (oOfBarge S.2.1 (xs (i + 1)) (xs (i + 2))).1) hI X hb rfl rfl rfl g3 (by omega) (by omega) (by decide +kernel) (by decide +kernel) (by decide +kernel) (by decide +kernel) (by decide +kernel) (by decide +kernel) (by decide +kernel) (by decide +kernel) (by decide +kernel) ?_
  change wG E W9 A p l e R s m args below meth c 7 2255 (lLv b x (aM 0) oA i (some (.int ((oOfBarge S.2.1 (xs (i + 1)) (xs (i + 2))).2.1 0))) (some (.int (oOfBarge S.2.1 (xs (i + 1)) (xs (i + 2))).1))) [] (S2, (oOfBarge S.2.1 (xs (i + 1)) (xs (i + 2))).2, z9) (cs + 2) (ss + 12)
  refine wg_goto (z := 2574) (n2 := 319) X.1 hb (by decide +kernel) (by decide) ?_
  exact hk _ _ _ _ _ g1 g2 (by omega) (by omega)
set_option maxHeartbeats 1000000 in
set_option maxRecDepth 20000 in
theorem lc_placeAnew (hl : l.stackTraces = false) (Z : lZ E W9 A p R s m args c b L xs aM oA) (hi : i + 7 ≤ L) (hR : RR W9 B x S.1 S.2.1) (hB : B + 15 ≤ 8000) (hd : lApt aM oA S.1) (c1 : cs + 290 ≤ R.cells) (c2 : ss + 9660 ≤ R.slots) (hk : lNx E W9 A p l e R s m args below meth c b x aM oA i B cs ss) : wG E W9 A p l e R s m args below meth c 7 2258 (lLv b x (aM 0) oA i u v) [] S cs ss := by
  obtain ⟨⟨hI, hi9, ho⟩, X, hb, hN, ⟨hX, hbl, hbA, hL⟩, r1, r2⟩ := Z
  have hall : iAll S.2.1 := by
    obtain ⟨_, _, _, h⟩ := hR
    exact h.2.2.1
  refine wg_aln (u := 1) (k := 1) X.1 hb (by decide +kernel) rfl rfl ?_
  refine wl_arg (n := 1) (z := 1) (i := i) X hb hX hbl hbA rfl rfl (by decide +kernel) (by decide +kernel) (by decide +kernel) (by decide +kernel) (by decide +kernel) (by decide +kernel) (by omega) hL (by omega) (by omega) (by show 1 + (0) ≤ 8; omega) ?_
  change wG E W9 A p l e R s m args below meth c 7 2265 (lLv b x (aM 0) oA i u v) [.int (xs (i + 1)), .ref x] S cs ss
  refine wg_aln (u := 3) (k := 3) X.1 hb (by decide +kernel) rfl rfl ?_
  refine wg_call (i := .invokestatic 224) (len := 3) (av := [.ref x, .int (xs (i + 1)), .ref oA]) (rest := []) (KF := fun r S' => ∃ S2 z9, (r = rI ((oPlaceAnew S.2.1 (xs (i + 1))).2.1 0) ∧ S' = (S2, S.2.1, z9)) ∧ RR W9 (B + 15) x S2 (oPlaceAnew S.2.1 (xs (i + 1))).2 ∧ lApt aM oA S2 ∧ ((oPlaceAnew S.2.1 (xs (i + 1))).2.1 0 = 0 → z9 = (oPlaceAnew S.2.1 (xs (i + 1))).1.toInt64)) (xCR_SX (n := 3) (ci := 0) hI X hN (semL_placeAnew l hl W9 aM oA) gL_law_L_placeAnew rfl (by decide +kernel) ⟨by omega, by omega⟩) hb (by decide +kernel) rfl rfl rfl (fun ⟨k, q⟩ => by cases q) (by decide) (by show cs + 1 ≤ _; omega) (by show ss + 6 ≤ _; omega) ⟨x, _, B, rfl, ⟨hR, hB, hd⟩, fun S2 z9 h1 h2 h3 => ⟨S2, z9, ⟨rfl, rfl⟩, h1, h2, h3⟩⟩ (fun w S' hk1 => ?_) (fun ex S' hk1 => by obtain ⟨_, _, ⟨h, _⟩, _⟩ := hk1; cases h)
  obtain ⟨S2, z9, ⟨e1, rfl⟩, g1, g2, g3⟩ := hk1
  cases e1
  refine wg_is (k := 5) X.1 hb (by decide +kernel) (by omega) ?_
  change wG E W9 A p l e R s m args below meth c 7 2271 (lLv b x (aM 0) oA i (some (.int ((oPlaceAnew S.2.1 (xs (i + 1))).2.1 0))) v) [] (S2, S.2.1, z9) (cs + 1) (ss + 6)
  refine wg_aln (u := 2) (k := 2) X.1 hb (by decide +kernel) rfl rfl ?_
  refine wl_arg (n := 1) (z := 1) (i := i) X hb hX hbl hbA rfl rfl (by decide +kernel) (by decide +kernel) (by decide +kernel) (by decide +kernel) (by decide +kernel) (by decide +kernel) (by omega) hL (by omega) (by omega) (by show 1 + (0) ≤ 8; omega) ?_
  change wG E W9 A p l e R s m args below meth c 7 2278 (lLv b x (aM 0) oA i (some (.int ((oPlaceAnew S.2.1 (xs (i + 1))).2.1 0))) v) [.int (xs (i + 1)), .ref (aM 0)] (S2, S.2.1, z9) (cs + 1) (ss + 6)
  refine wg_call (i := .invokevirtual 226) (len := 3) (av := [.ref (aM 0), .int (xs (i + 1))]) (rest := []) (KF := fun r S' => r = rI (oPlaceAnew S.2.1 (xs (i + 1))).1 ∧ S' = (S2, (oPlaceAnew S.2.1 (xs (i + 1))).2, z9)) (xCR_VM (n := 1) (ci := 9) hI ho X (semX8_placeAnew l W9 aM hi9) gL_law_X8_placeAnew rfl rfl (by decide +kernel) ⟨by omega, by omega⟩) hb (by decide +kernel) rfl rfl rfl (fun _ => Or.inr (by rw [hI]; exact Or.inr ⟨rfl, rfl, ho 0 (by omega)⟩)) (by decide) (by show (cs + 1) + 0 ≤ _; omega) (by show (ss + 6) + 0 ≤ _; omega) (lM_mk (N_placeAnew hall ⟨rfl, rfl⟩)) (fun w S' hk2 => ?_) (fun ex S' hk2 => by cases hk2.1)
  obtain ⟨e2, rfl⟩ := hk2
  cases e2
  refine wg_is (k := 6) X.1 hb (by decide +kernel) (by omega) ?_
  change wG E W9 A p l e R s m args below meth c 7 2283 (lLv b x (aM 0) oA i (some (.int ((oPlaceAnew S.2.1 (xs (i + 1))).2.1 0))) (some (.int (oPlaceAnew S.2.1 (xs (i + 1))).1))) [] (S2, (oPlaceAnew S.2.1 (xs (i + 1))).2, z9) (cs + 1) (ss + 6)
  refine wl_th (k5 := (oPlaceAnew S.2.1 (xs (i + 1))).2.1 0) hI hi9 ho X hb ⟨by omega, by omega⟩ rfl rfl rfl (by omega) (by omega) (by decide +kernel) (by decide +kernel) (by decide +kernel) (by decide +kernel) ?_
  change wG E W9 A p l e R s m args below meth c 7 2294 (lLv b x (aM 0) oA i (some (.int ((oPlaceAnew S.2.1 (xs (i + 1))).2.1 0))) (some (.int (oPlaceAnew S.2.1 (xs (i + 1))).1))) [] (S2, (oPlaceAnew S.2.1 (xs (i + 1))).2, z9) (cs + 1) (ss + 6)
  refine wl_cmp (k5 := (oPlaceAnew S.2.1 (xs (i + 1))).2.1 0) (v6 := (oPlaceAnew S.2.1 (xs (i + 1))).1) hI X hb rfl rfl rfl g3 (by omega) (by omega) (by decide +kernel) (by decide +kernel) (by decide +kernel) (by decide +kernel) (by decide +kernel) (by decide +kernel) (by decide +kernel) (by decide +kernel) (by decide +kernel) ?_
  change wG E W9 A p l e R s m args below meth c 7 2311 (lLv b x (aM 0) oA i (some (.int ((oPlaceAnew S.2.1 (xs (i + 1))).2.1 0))) (some (.int (oPlaceAnew S.2.1 (xs (i + 1))).1))) [] (S2, (oPlaceAnew S.2.1 (xs (i + 1))).2, z9) (cs + 1) (ss + 6)
  refine wg_goto (z := 2574) (n2 := 263) X.1 hb (by decide +kernel) (by decide) ?_
  exact hk _ _ _ _ _ g1 g2 (by omega) (by omega)
set_option maxHeartbeats 1000000 in
set_option maxRecDepth 20000 in
theorem lc_shifts (hl : l.stackTraces = false) (Z : lZ E W9 A p R s m args c b L xs aM oA) (hi : i + 7 ≤ L) (hR : RR W9 B x S.1 S.2.1) (hB : B + 15 ≤ 8000) (hd : lApt aM oA S.1) (c1 : cs + 290 ≤ R.cells) (c2 : ss + 9660 ≤ R.slots) (hk : lNx E W9 A p l e R s m args below meth c b x aM oA i B cs ss) : wG E W9 A p l e R s m args below meth c 7 2314 (lLv b x (aM 0) oA i u v) [] S cs ss := by
  obtain ⟨⟨hI, hi9, ho⟩, X, hb, hN, ⟨hX, hbl, hbA, hL⟩, r1, r2⟩ := Z
  have hall : iAll S.2.1 := by
    obtain ⟨_, _, _, h⟩ := hR
    exact h.2.2.1
  refine wg_aln (u := 1) (k := 1) X.1 hb (by decide +kernel) rfl rfl ?_
  refine wl_arg (n := 1) (z := 1) (i := i) X hb hX hbl hbA rfl rfl (by decide +kernel) (by decide +kernel) (by decide +kernel) (by decide +kernel) (by decide +kernel) (by decide +kernel) (by omega) hL (by omega) (by omega) (by show 1 + (0) ≤ 8; omega) ?_
  change wG E W9 A p l e R s m args below meth c 7 2321 (lLv b x (aM 0) oA i u v) [.int (xs (i + 1)), .ref x] S cs ss
  refine wl_arg (n := 2) (z := 2) (i := i) X hb hX hbl hbA rfl rfl (by decide +kernel) (by decide +kernel) (by decide +kernel) (by decide +kernel) (by decide +kernel) (by decide +kernel) (by omega) hL (by omega) (by omega) (by show 1 + (1 + (0)) ≤ 8; omega) ?_
  change wG E W9 A p l e R s m args below meth c 7 2327 (lLv b x (aM 0) oA i u v) [.int (xs (i + 2)), .int (xs (i + 1)), .ref x] S cs ss
  refine wg_aln (u := 3) (k := 3) X.1 hb (by decide +kernel) rfl rfl ?_
  refine wg_call (i := .invokestatic 227) (len := 3) (av := [.ref x, .int (xs (i + 1)), .int (xs (i + 2)), .ref oA]) (rest := []) (KF := fun r S' => ∃ S2 z9, (r = rI ((oShifts S.2.1 (xs (i + 1)) (xs (i + 2))).2.1 0) ∧ S' = (S2, S.2.1, z9)) ∧ RR W9 (B + 15) x S2 (oShifts S.2.1 (xs (i + 1)) (xs (i + 2))).2 ∧ lApt aM oA S2 ∧ ((oShifts S.2.1 (xs (i + 1)) (xs (i + 2))).2.1 0 = 0 → z9 = (oShifts S.2.1 (xs (i + 1)) (xs (i + 2))).1.toInt64)) (xCR_SX (n := 4) (ci := 0) hI X hN (semL_shifts l hl W9 aM oA) gL_law_L_shifts rfl (by decide +kernel) ⟨by omega, by omega⟩) hb (by decide +kernel) rfl rfl rfl (fun ⟨k, q⟩ => by cases q) (by decide) (by show cs + 34 ≤ _; omega) (by show ss + 1371 ≤ _; omega) ⟨x, _, _, B, rfl, ⟨hR, hB, hd⟩, fun S2 z9 h1 h2 h3 => ⟨S2, z9, ⟨rfl, rfl⟩, h1, h2, h3⟩⟩ (fun w S' hk1 => ?_) (fun ex S' hk1 => by obtain ⟨_, _, ⟨h, _⟩, _⟩ := hk1; cases h)
  obtain ⟨S2, z9, ⟨e1, rfl⟩, g1, g2, g3⟩ := hk1
  cases e1
  refine wg_is (k := 5) X.1 hb (by decide +kernel) (by omega) ?_
  change wG E W9 A p l e R s m args below meth c 7 2333 (lLv b x (aM 0) oA i (some (.int ((oShifts S.2.1 (xs (i + 1)) (xs (i + 2))).2.1 0))) v) [] (S2, S.2.1, z9) (cs + 34) (ss + 1371)
  refine wg_aln (u := 2) (k := 2) X.1 hb (by decide +kernel) rfl rfl ?_
  refine wl_arg (n := 1) (z := 1) (i := i) X hb hX hbl hbA rfl rfl (by decide +kernel) (by decide +kernel) (by decide +kernel) (by decide +kernel) (by decide +kernel) (by decide +kernel) (by omega) hL (by omega) (by omega) (by show 1 + (0) ≤ 8; omega) ?_
  change wG E W9 A p l e R s m args below meth c 7 2340 (lLv b x (aM 0) oA i (some (.int ((oShifts S.2.1 (xs (i + 1)) (xs (i + 2))).2.1 0))) v) [.int (xs (i + 1)), .ref (aM 0)] (S2, S.2.1, z9) (cs + 34) (ss + 1371)
  refine wl_arg (n := 2) (z := 2) (i := i) X hb hX hbl hbA rfl rfl (by decide +kernel) (by decide +kernel) (by decide +kernel) (by decide +kernel) (by decide +kernel) (by decide +kernel) (by omega) hL (by omega) (by omega) (by show 1 + (1 + (0)) ≤ 8; omega) ?_
  change wG E W9 A p l e R s m args below meth c 7 2346 (lLv b x (aM 0) oA i (some (.int ((oShifts S.2.1 (xs (i + 1)) (xs (i + 2))).2.1 0))) v) [.int (xs (i + 2)), .int (xs (i + 1)), .ref (aM 0)] (S2, S.2.1, z9) (cs + 34) (ss + 1371)
  refine wg_call (i := .invokevirtual 229) (len := 3) (av := [.ref (aM 0), .int (xs (i + 1)), .int (xs (i + 2))]) (rest := []) (KF := fun r S' => r = rI (oShifts S.2.1 (xs (i + 1)) (xs (i + 2))).1 ∧ S' = (S2, (oShifts S.2.1 (xs (i + 1)) (xs (i + 2))).2, z9)) (xCR_VM (n := 2) (ci := 9) hI ho X (semX8_shifts l W9 aM hi9) gL_law_X8_shifts rfl rfl (by decide +kernel) ⟨by omega, by omega⟩) hb (by decide +kernel) rfl rfl rfl (fun _ => Or.inr (by rw [hI]; exact Or.inr ⟨rfl, rfl, ho 0 (by omega)⟩)) (by decide) (by show (cs + 34) + 0 ≤ _; omega) (by show (ss + 1371) + 0 ≤ _; omega) (lM_mk (N_shifts hall ⟨rfl, rfl⟩)) (fun w S' hk2 => ?_) (fun ex S' hk2 => by cases hk2.1)
  obtain ⟨e2, rfl⟩ := hk2
  cases e2
  refine wg_is (k := 6) X.1 hb (by decide +kernel) (by omega) ?_
  change wG E W9 A p l e R s m args below meth c 7 2351 (lLv b x (aM 0) oA i (some (.int ((oShifts S.2.1 (xs (i + 1)) (xs (i + 2))).2.1 0))) (some (.int (oShifts S.2.1 (xs (i + 1)) (xs (i + 2))).1))) [] (S2, (oShifts S.2.1 (xs (i + 1)) (xs (i + 2))).2, z9) (cs + 34) (ss + 1371)
  refine wl_th (k5 := (oShifts S.2.1 (xs (i + 1)) (xs (i + 2))).2.1 0) hI hi9 ho X hb ⟨by omega, by omega⟩ rfl rfl rfl (by omega) (by omega) (by decide +kernel) (by decide +kernel) (by decide +kernel) (by decide +kernel) ?_
  change wG E W9 A p l e R s m args below meth c 7 2362 (lLv b x (aM 0) oA i (some (.int ((oShifts S.2.1 (xs (i + 1)) (xs (i + 2))).2.1 0))) (some (.int (oShifts S.2.1 (xs (i + 1)) (xs (i + 2))).1))) [] (S2, (oShifts S.2.1 (xs (i + 1)) (xs (i + 2))).2, z9) (cs + 34) (ss + 1371)
  refine wl_cmp (k5 := (oShifts S.2.1 (xs (i + 1)) (xs (i + 2))).2.1 0) (v6 := (oShifts S.2.1 (xs (i + 1)) (xs (i + 2))).1) hI X hb rfl rfl rfl g3 (by omega) (by omega) (by decide +kernel) (by decide +kernel) (by decide +kernel) (by decide +kernel) (by decide +kernel) (by decide +kernel) (by decide +kernel) (by decide +kernel) (by decide +kernel) ?_
  change wG E W9 A p l e R s m args below meth c 7 2379 (lLv b x (aM 0) oA i (some (.int ((oShifts S.2.1 (xs (i + 1)) (xs (i + 2))).2.1 0))) (some (.int (oShifts S.2.1 (xs (i + 1)) (xs (i + 2))).1))) [] (S2, (oShifts S.2.1 (xs (i + 1)) (xs (i + 2))).2, z9) (cs + 34) (ss + 1371)
  refine wg_goto (z := 2574) (n2 := 195) X.1 hb (by decide +kernel) (by decide) ?_
  exact hk _ _ _ _ _ g1 g2 (by omega) (by omega)
set_option maxHeartbeats 1000000 in
set_option maxRecDepth 20000 in
theorem lc_shiftsAnew (hl : l.stackTraces = false) (Z : lZ E W9 A p R s m args c b L xs aM oA) (hi : i + 7 ≤ L) (hR : RR W9 B x S.1 S.2.1) (hB : B + 15 ≤ 8000) (hd : lApt aM oA S.1) (c1 : cs + 290 ≤ R.cells) (c2 : ss + 9660 ≤ R.slots) (hk : lNx E W9 A p l e R s m args below meth c b x aM oA i B cs ss) : wG E W9 A p l e R s m args below meth c 7 2382 (lLv b x (aM 0) oA i u v) [] S cs ss := by
  obtain ⟨⟨hI, hi9, ho⟩, X, hb, hN, ⟨hX, hbl, hbA, hL⟩, r1, r2⟩ := Z
  have hall : iAll S.2.1 := by
    obtain ⟨_, _, _, h⟩ := hR
    exact h.2.2.1
  refine wg_aln (u := 1) (k := 1) X.1 hb (by decide +kernel) rfl rfl ?_
  refine wl_arg (n := 1) (z := 1) (i := i) X hb hX hbl hbA rfl rfl (by decide +kernel) (by decide +kernel) (by decide +kernel) (by decide +kernel) (by decide +kernel) (by decide +kernel) (by omega) hL (by omega) (by omega) (by show 1 + (0) ≤ 8; omega) ?_
  change wG E W9 A p l e R s m args below meth c 7 2389 (lLv b x (aM 0) oA i u v) [.int (xs (i + 1)), .ref x] S cs ss
  refine wl_arg (n := 2) (z := 2) (i := i) X hb hX hbl hbA rfl rfl (by decide +kernel) (by decide +kernel) (by decide +kernel) (by decide +kernel) (by decide +kernel) (by decide +kernel) (by omega) hL (by omega) (by omega) (by show 1 + (1 + (0)) ≤ 8; omega) ?_
  change wG E W9 A p l e R s m args below meth c 7 2395 (lLv b x (aM 0) oA i u v) [.int (xs (i + 2)), .int (xs (i + 1)), .ref x] S cs ss
  refine wg_aln (u := 3) (k := 3) X.1 hb (by decide +kernel) rfl rfl ?_
  refine wg_call (i := .invokestatic 230) (len := 3) (av := [.ref x, .int (xs (i + 1)), .int (xs (i + 2)), .ref oA]) (rest := []) (KF := fun r S' => ∃ S2 z9, (r = rI ((oShifts S.2.1 (xs (i + 1)) (xs (i + 2))).2.1 0) ∧ S' = (S2, S.2.1, z9)) ∧ RR W9 (B + 15) x S2 (oShifts S.2.1 (xs (i + 1)) (xs (i + 2))).2 ∧ lApt aM oA S2 ∧ ((oShifts S.2.1 (xs (i + 1)) (xs (i + 2))).2.1 0 = 0 → z9 = (oShifts S.2.1 (xs (i + 1)) (xs (i + 2))).1.toInt64)) (xCR_SX (n := 4) (ci := 0) hI X hN (semL_shiftsAnew l hl W9 aM oA) gL_law_L_shiftsAnew rfl (by decide +kernel) ⟨by omega, by omega⟩) hb (by decide +kernel) rfl rfl rfl (fun ⟨k, q⟩ => by cases q) (by decide) (by show cs + 34 ≤ _; omega) (by show ss + 1371 ≤ _; omega) ⟨x, _, _, B, rfl, ⟨hR, hB, hd⟩, fun S2 z9 h1 h2 h3 => ⟨S2, z9, ⟨rfl, rfl⟩, h1, h2, h3⟩⟩ (fun w S' hk1 => ?_) (fun ex S' hk1 => by obtain ⟨_, _, ⟨h, _⟩, _⟩ := hk1; cases h)
  obtain ⟨S2, z9, ⟨e1, rfl⟩, g1, g2, g3⟩ := hk1
  cases e1
  refine wg_is (k := 5) X.1 hb (by decide +kernel) (by omega) ?_
  change wG E W9 A p l e R s m args below meth c 7 2401 (lLv b x (aM 0) oA i (some (.int ((oShifts S.2.1 (xs (i + 1)) (xs (i + 2))).2.1 0))) v) [] (S2, S.2.1, z9) (cs + 34) (ss + 1371)
  refine wg_aln (u := 2) (k := 2) X.1 hb (by decide +kernel) rfl rfl ?_
  refine wl_arg (n := 1) (z := 1) (i := i) X hb hX hbl hbA rfl rfl (by decide +kernel) (by decide +kernel) (by decide +kernel) (by decide +kernel) (by decide +kernel) (by decide +kernel) (by omega) hL (by omega) (by omega) (by show 1 + (0) ≤ 8; omega) ?_
  change wG E W9 A p l e R s m args below meth c 7 2408 (lLv b x (aM 0) oA i (some (.int ((oShifts S.2.1 (xs (i + 1)) (xs (i + 2))).2.1 0))) v) [.int (xs (i + 1)), .ref (aM 0)] (S2, S.2.1, z9) (cs + 34) (ss + 1371)
  refine wl_arg (n := 2) (z := 2) (i := i) X hb hX hbl hbA rfl rfl (by decide +kernel) (by decide +kernel) (by decide +kernel) (by decide +kernel) (by decide +kernel) (by decide +kernel) (by omega) hL (by omega) (by omega) (by show 1 + (1 + (0)) ≤ 8; omega) ?_
  change wG E W9 A p l e R s m args below meth c 7 2414 (lLv b x (aM 0) oA i (some (.int ((oShifts S.2.1 (xs (i + 1)) (xs (i + 2))).2.1 0))) v) [.int (xs (i + 2)), .int (xs (i + 1)), .ref (aM 0)] (S2, S.2.1, z9) (cs + 34) (ss + 1371)
  refine wg_call (i := .invokevirtual 232) (len := 3) (av := [.ref (aM 0), .int (xs (i + 1)), .int (xs (i + 2))]) (rest := []) (KF := fun r S' => r = rI (oShifts S.2.1 (xs (i + 1)) (xs (i + 2))).1 ∧ S' = (S2, (oShifts S.2.1 (xs (i + 1)) (xs (i + 2))).2, z9)) (xCR_VM (n := 2) (ci := 9) hI ho X (semX8_shiftsAnew l W9 aM hi9) gL_law_X8_shiftsAnew rfl rfl (by decide +kernel) ⟨by omega, by omega⟩) hb (by decide +kernel) rfl rfl rfl (fun _ => Or.inr (by rw [hI]; exact Or.inr ⟨rfl, rfl, ho 0 (by omega)⟩)) (by decide) (by show (cs + 34) + 0 ≤ _; omega) (by show (ss + 1371) + 0 ≤ _; omega) (lM_mk (N_shiftsAnew hall ⟨rfl, rfl⟩)) (fun w S' hk2 => ?_) (fun ex S' hk2 => by cases hk2.1)
  obtain ⟨e2, rfl⟩ := hk2
  cases e2
  refine wg_is (k := 6) X.1 hb (by decide +kernel) (by omega) ?_
  change wG E W9 A p l e R s m args below meth c 7 2419 (lLv b x (aM 0) oA i (some (.int ((oShifts S.2.1 (xs (i + 1)) (xs (i + 2))).2.1 0))) (some (.int (oShifts S.2.1 (xs (i + 1)) (xs (i + 2))).1))) [] (S2, (oShifts S.2.1 (xs (i + 1)) (xs (i + 2))).2, z9) (cs + 34) (ss + 1371)
  refine wl_th (k5 := (oShifts S.2.1 (xs (i + 1)) (xs (i + 2))).2.1 0) hI hi9 ho X hb ⟨by omega, by omega⟩ rfl rfl rfl (by omega) (by omega) (by decide +kernel) (by decide +kernel) (by decide +kernel) (by decide +kernel) ?_
  change wG E W9 A p l e R s m args below meth c 7 2430 (lLv b x (aM 0) oA i (some (.int ((oShifts S.2.1 (xs (i + 1)) (xs (i + 2))).2.1 0))) (some (.int (oShifts S.2.1 (xs (i + 1)) (xs (i + 2))).1))) [] (S2, (oShifts S.2.1 (xs (i + 1)) (xs (i + 2))).2, z9) (cs + 34) (ss + 1371)
  refine wl_cmp (k5 := (oShifts S.2.1 (xs (i + 1)) (xs (i + 2))).2.1 0) (v6 := (oShifts S.2.1 (xs (i + 1)) (xs (i + 2))).1) hI X hb rfl rfl rfl g3 (by omega) (by omega) (by decide +kernel) (by decide +kernel) (by decide +kernel) (by decide +kernel) (by decide +kernel) (by decide +kernel) (by decide +kernel) (by decide +kernel) (by decide +kernel) ?_
  change wG E W9 A p l e R s m args below meth c 7 2447 (lLv b x (aM 0) oA i (some (.int ((oShifts S.2.1 (xs (i + 1)) (xs (i + 2))).2.1 0))) (some (.int (oShifts S.2.1 (xs (i + 1)) (xs (i + 2))).1))) [] (S2, (oShifts S.2.1 (xs (i + 1)) (xs (i + 2))).2, z9) (cs + 34) (ss + 1371)
  refine wg_goto (z := 2574) (n2 := 127) X.1 hb (by decide +kernel) (by decide) ?_
  exact hk _ _ _ _ _ g1 g2 (by omega) (by omega)
set_option maxHeartbeats 1000000 in
set_option maxRecDepth 20000 in
theorem lc_ofContract (hl : l.stackTraces = false) (Z : lZ E W9 A p R s m args c b L xs aM oA) (hi : i + 7 ≤ L) (hR : RR W9 B x S.1 S.2.1) (hB : B + 15 ≤ 8000) (hd : lApt aM oA S.1) (c1 : cs + 290 ≤ R.cells) (c2 : ss + 9660 ≤ R.slots) (hk : lNx E W9 A p l e R s m args below meth c b x aM oA i B cs ss) : wG E W9 A p l e R s m args below meth c 7 2450 (lLv b x (aM 0) oA i u v) [] S cs ss := by
  obtain ⟨⟨hI, hi9, ho⟩, X, hb, hN, ⟨hX, hbl, hbA, hL⟩, r1, r2⟩ := Z
  have hall : iAll S.2.1 := by
    obtain ⟨_, _, _, h⟩ := hR
    exact h.2.2.1
  refine wg_aln (u := 1) (k := 1) X.1 hb (by decide +kernel) rfl rfl ?_
  refine wl_arg (n := 1) (z := 1) (i := i) X hb hX hbl hbA rfl rfl (by decide +kernel) (by decide +kernel) (by decide +kernel) (by decide +kernel) (by decide +kernel) (by decide +kernel) (by omega) hL (by omega) (by omega) (by show 1 + (0) ≤ 8; omega) ?_
  change wG E W9 A p l e R s m args below meth c 7 2457 (lLv b x (aM 0) oA i u v) [.int (xs (i + 1)), .ref x] S cs ss
  refine wl_arg (n := 2) (z := 2) (i := i) X hb hX hbl hbA rfl rfl (by decide +kernel) (by decide +kernel) (by decide +kernel) (by decide +kernel) (by decide +kernel) (by decide +kernel) (by omega) hL (by omega) (by omega) (by show 1 + (1 + (0)) ≤ 8; omega) ?_
  change wG E W9 A p l e R s m args below meth c 7 2463 (lLv b x (aM 0) oA i u v) [.int (xs (i + 2)), .int (xs (i + 1)), .ref x] S cs ss
  refine wg_aln (u := 3) (k := 3) X.1 hb (by decide +kernel) rfl rfl ?_
  refine wg_call (i := .invokestatic 233) (len := 3) (av := [.ref x, .int (xs (i + 1)), .int (xs (i + 2)), .ref oA]) (rest := []) (KF := fun r S' => ∃ S2 z9, (r = rI ((oOfContract S.2.1 (xs (i + 1)) (xs (i + 2))).2.1 0) ∧ S' = (S2, S.2.1, z9)) ∧ RR W9 (B + 15) x S2 (oOfContract S.2.1 (xs (i + 1)) (xs (i + 2))).2 ∧ lApt aM oA S2 ∧ ((oOfContract S.2.1 (xs (i + 1)) (xs (i + 2))).2.1 0 = 0 → z9 = (oOfContract S.2.1 (xs (i + 1)) (xs (i + 2))).1.toInt64)) (xCR_SX (n := 4) (ci := 0) hI X hN (semL_ofContract l hl W9 aM oA) gL_law_L_ofContract rfl (by decide +kernel) ⟨by omega, by omega⟩) hb (by decide +kernel) rfl rfl rfl (fun ⟨k, q⟩ => by cases q) (by decide) (by show cs + 2 ≤ _; omega) (by show ss + 12 ≤ _; omega) ⟨x, _, _, B, rfl, ⟨hR, hB, hd⟩, fun S2 z9 h1 h2 h3 => ⟨S2, z9, ⟨rfl, rfl⟩, h1, h2, h3⟩⟩ (fun w S' hk1 => ?_) (fun ex S' hk1 => by obtain ⟨_, _, ⟨h, _⟩, _⟩ := hk1; cases h)
  obtain ⟨S2, z9, ⟨e1, rfl⟩, g1, g2, g3⟩ := hk1
  cases e1
  refine wg_is (k := 5) X.1 hb (by decide +kernel) (by omega) ?_
  change wG E W9 A p l e R s m args below meth c 7 2469 (lLv b x (aM 0) oA i (some (.int ((oOfContract S.2.1 (xs (i + 1)) (xs (i + 2))).2.1 0))) v) [] (S2, S.2.1, z9) (cs + 2) (ss + 12)
  refine wg_aln (u := 2) (k := 2) X.1 hb (by decide +kernel) rfl rfl ?_
  refine wl_arg (n := 1) (z := 1) (i := i) X hb hX hbl hbA rfl rfl (by decide +kernel) (by decide +kernel) (by decide +kernel) (by decide +kernel) (by decide +kernel) (by decide +kernel) (by omega) hL (by omega) (by omega) (by show 1 + (0) ≤ 8; omega) ?_
  change wG E W9 A p l e R s m args below meth c 7 2476 (lLv b x (aM 0) oA i (some (.int ((oOfContract S.2.1 (xs (i + 1)) (xs (i + 2))).2.1 0))) v) [.int (xs (i + 1)), .ref (aM 0)] (S2, S.2.1, z9) (cs + 2) (ss + 12)
  refine wl_arg (n := 2) (z := 2) (i := i) X hb hX hbl hbA rfl rfl (by decide +kernel) (by decide +kernel) (by decide +kernel) (by decide +kernel) (by decide +kernel) (by decide +kernel) (by omega) hL (by omega) (by omega) (by show 1 + (1 + (0)) ≤ 8; omega) ?_
  change wG E W9 A p l e R s m args below meth c 7 2482 (lLv b x (aM 0) oA i (some (.int ((oOfContract S.2.1 (xs (i + 1)) (xs (i + 2))).2.1 0))) v) [.int (xs (i + 2)), .int (xs (i + 1)), .ref (aM 0)] (S2, S.2.1, z9) (cs + 2) (ss + 12)
  refine wg_call (i := .invokevirtual 235) (len := 3) (av := [.ref (aM 0), .int (xs (i + 1)), .int (xs (i + 2))]) (rest := []) (KF := fun r S' => r = rI (oOfContract S.2.1 (xs (i + 1)) (xs (i + 2))).1 ∧ S' = (S2, (oOfContract S.2.1 (xs (i + 1)) (xs (i + 2))).2, z9)) (xCR_VM (n := 2) (ci := 9) hI ho X (semX8_ofContract l W9 aM hi9) gL_law_X8_ofContract rfl rfl (by decide +kernel) ⟨by omega, by omega⟩) hb (by decide +kernel) rfl rfl rfl (fun _ => Or.inr (by rw [hI]; exact Or.inr ⟨rfl, rfl, ho 0 (by omega)⟩)) (by decide) (by show (cs + 2) + 0 ≤ _; omega) (by show (ss + 12) + 0 ≤ _; omega) (lM_mk (N_ofContract hall ⟨rfl, rfl⟩)) (fun w S' hk2 => ?_) (fun ex S' hk2 => by cases hk2.1)
  obtain ⟨e2, rfl⟩ := hk2
  cases e2
  refine wg_is (k := 6) X.1 hb (by decide +kernel) (by omega) ?_
  change wG E W9 A p l e R s m args below meth c 7 2487 (lLv b x (aM 0) oA i (some (.int ((oOfContract S.2.1 (xs (i + 1)) (xs (i + 2))).2.1 0))) (some (.int (oOfContract S.2.1 (xs (i + 1)) (xs (i + 2))).1))) [] (S2, (oOfContract S.2.1 (xs (i + 1)) (xs (i + 2))).2, z9) (cs + 2) (ss + 12)
  refine wl_th (k5 := (oOfContract S.2.1 (xs (i + 1)) (xs (i + 2))).2.1 0) hI hi9 ho X hb ⟨by omega, by omega⟩ rfl rfl rfl (by omega) (by omega) (by decide +kernel) (by decide +kernel) (by decide +kernel) (by decide +kernel) ?_
  change wG E W9 A p l e R s m args below meth c 7 2498 (lLv b x (aM 0) oA i (some (.int ((oOfContract S.2.1 (xs (i + 1)) (xs (i + 2))).2.1 0))) (some (.int (oOfContract S.2.1 (xs (i + 1)) (xs (i + 2))).1))) [] (S2, (oOfContract S.2.1 (xs (i + 1)) (xs (i + 2))).2, z9) (cs + 2) (ss + 12)
  refine wl_cmp (k5 := (oOfContract S.2.1 (xs (i + 1)) (xs (i + 2))).2.1 0) (v6 := (oOfContract S.2.1 (xs (i + 1)) (xs (i + 2))).1) hI X hb rfl rfl rfl g3 (by omega) (by omega) (by decide +kernel) (by decide +kernel) (by decide +kernel) (by decide +kernel) (by decide +kernel) (by decide +kernel) (by decide +kernel) (by decide +kernel) (by decide +kernel) ?_
  change wG E W9 A p l e R s m args below meth c 7 2515 (lLv b x (aM 0) oA i (some (.int ((oOfContract S.2.1 (xs (i + 1)) (xs (i + 2))).2.1 0))) (some (.int (oOfContract S.2.1 (xs (i + 1)) (xs (i + 2))).1))) [] (S2, (oOfContract S.2.1 (xs (i + 1)) (xs (i + 2))).2, z9) (cs + 2) (ss + 12)
  refine wg_goto (z := 2574) (n2 := 59) X.1 hb (by decide +kernel) (by decide) ?_
  exact hk _ _ _ _ _ g1 g2 (by omega) (by omega)
set_option maxHeartbeats 1000000 in
set_option maxRecDepth 20000 in
theorem lc_all (hl : l.stackTraces = false) (Z : lZ E W9 A p R s m args c b L xs aM oA) (hi : i + 7 ≤ L) (hR : RR W9 B x S.1 S.2.1) (hB : B + 15 ≤ 8000) (hd : lApt aM oA S.1) (c1 : cs + 290 ≤ R.cells) (c2 : ss + 9660 ≤ R.slots) (hk : lNx E W9 A p l e R s m args below meth c b x aM oA i B cs ss) : wG E W9 A p l e R s m args below meth c 7 2518 (lLv b x (aM 0) oA i u v) [] S cs ss := by
  obtain ⟨⟨hI, hi9, ho⟩, X, hb, hN, ⟨hX, hbl, hbA, hL⟩, r1, r2⟩ := Z
  have hall : iAll S.2.1 := by
    obtain ⟨_, _, _, h⟩ := hR
    exact h.2.2.1
  refine wg_aln (u := 1) (k := 1) X.1 hb (by decide +kernel) rfl rfl ?_
  refine wl_arg (n := 1) (z := 1) (i := i) X hb hX hbl hbA rfl rfl (by decide +kernel) (by decide +kernel) (by decide +kernel) (by decide +kernel) (by decide +kernel) (by decide +kernel) (by omega) hL (by omega) (by omega) (by show 1 + (0) ≤ 8; omega) ?_
  change wG E W9 A p l e R s m args below meth c 7 2525 (lLv b x (aM 0) oA i u v) [.int (xs (i + 1)), .ref x] S cs ss
  refine wg_aln (u := 3) (k := 3) X.1 hb (by decide +kernel) rfl rfl ?_
  refine wg_call (i := .invokestatic 236) (len := 3) (av := [.ref x, .int (xs (i + 1)), .ref oA]) (rest := []) (KF := fun r S' => ∃ S2 z9, (r = rI ((oAll S.2.1 (xs (i + 1))).2.1 0) ∧ S' = (S2, S.2.1, z9)) ∧ RR W9 (B + 15) x S2 (oAll S.2.1 (xs (i + 1))).2 ∧ lApt aM oA S2 ∧ ((oAll S.2.1 (xs (i + 1))).2.1 0 = 0 → z9 = (oAll S.2.1 (xs (i + 1))).1.toInt64)) (xCR_SX (n := 3) (ci := 0) hI X hN (semL_all l hl W9 aM oA) gL_law_L_all rfl (by decide +kernel) ⟨by omega, by omega⟩) hb (by decide +kernel) rfl rfl rfl (fun ⟨k, q⟩ => by cases q) (by decide) (by show cs + 1 ≤ _; omega) (by show ss + 6 ≤ _; omega) ⟨x, _, B, rfl, ⟨hR, hB, hd⟩, fun S2 z9 h1 h2 h3 => ⟨S2, z9, ⟨rfl, rfl⟩, h1, h2, h3⟩⟩ (fun w S' hk1 => ?_) (fun ex S' hk1 => by obtain ⟨_, _, ⟨h, _⟩, _⟩ := hk1; cases h)
  obtain ⟨S2, z9, ⟨e1, rfl⟩, g1, g2, g3⟩ := hk1
  cases e1
  refine wg_is (k := 5) X.1 hb (by decide +kernel) (by omega) ?_
  change wG E W9 A p l e R s m args below meth c 7 2531 (lLv b x (aM 0) oA i (some (.int ((oAll S.2.1 (xs (i + 1))).2.1 0))) v) [] (S2, S.2.1, z9) (cs + 1) (ss + 6)
  refine wg_aln (u := 2) (k := 2) X.1 hb (by decide +kernel) rfl rfl ?_
  refine wl_arg (n := 1) (z := 1) (i := i) X hb hX hbl hbA rfl rfl (by decide +kernel) (by decide +kernel) (by decide +kernel) (by decide +kernel) (by decide +kernel) (by decide +kernel) (by omega) hL (by omega) (by omega) (by show 1 + (0) ≤ 8; omega) ?_
  change wG E W9 A p l e R s m args below meth c 7 2538 (lLv b x (aM 0) oA i (some (.int ((oAll S.2.1 (xs (i + 1))).2.1 0))) v) [.int (xs (i + 1)), .ref (aM 0)] (S2, S.2.1, z9) (cs + 1) (ss + 6)
  refine wg_call (i := .invokevirtual 238) (len := 3) (av := [.ref (aM 0), .int (xs (i + 1))]) (rest := []) (KF := fun r S' => r = rI (oAll S.2.1 (xs (i + 1))).1 ∧ S' = (S2, (oAll S.2.1 (xs (i + 1))).2, z9)) (xCR_VM (n := 1) (ci := 9) hI ho X (semX8_all l W9 aM hi9) gL_law_X8_all rfl rfl (by decide +kernel) ⟨by omega, by omega⟩) hb (by decide +kernel) rfl rfl rfl (fun _ => Or.inr (by rw [hI]; exact Or.inr ⟨rfl, rfl, ho 0 (by omega)⟩)) (by decide) (by show (cs + 1) + 0 ≤ _; omega) (by show (ss + 6) + 0 ≤ _; omega) (lM_mk (N_all hall ⟨rfl, rfl⟩)) (fun w S' hk2 => ?_) (fun ex S' hk2 => by cases hk2.1)
  obtain ⟨e2, rfl⟩ := hk2
  cases e2
  refine wg_is (k := 6) X.1 hb (by decide +kernel) (by omega) ?_
  change wG E W9 A p l e R s m args below meth c 7 2543 (lLv b x (aM 0) oA i (some (.int ((oAll S.2.1 (xs (i + 1))).2.1 0))) (some (.int (oAll S.2.1 (xs (i + 1))).1))) [] (S2, (oAll S.2.1 (xs (i + 1))).2, z9) (cs + 1) (ss + 6)
  refine wl_th (k5 := (oAll S.2.1 (xs (i + 1))).2.1 0) hI hi9 ho X hb ⟨by omega, by omega⟩ rfl rfl rfl (by omega) (by omega) (by decide +kernel) (by decide +kernel) (by decide +kernel) (by decide +kernel) ?_
  change wG E W9 A p l e R s m args below meth c 7 2554 (lLv b x (aM 0) oA i (some (.int ((oAll S.2.1 (xs (i + 1))).2.1 0))) (some (.int (oAll S.2.1 (xs (i + 1))).1))) [] (S2, (oAll S.2.1 (xs (i + 1))).2, z9) (cs + 1) (ss + 6)
  refine wl_cmp (k5 := (oAll S.2.1 (xs (i + 1))).2.1 0) (v6 := (oAll S.2.1 (xs (i + 1))).1) hI X hb rfl rfl rfl g3 (by omega) (by omega) (by decide +kernel) (by decide +kernel) (by decide +kernel) (by decide +kernel) (by decide +kernel) (by decide +kernel) (by decide +kernel) (by decide +kernel) (by decide +kernel) ?_
  change wG E W9 A p l e R s m args below meth c 7 2571 (lLv b x (aM 0) oA i (some (.int ((oAll S.2.1 (xs (i + 1))).2.1 0))) (some (.int (oAll S.2.1 (xs (i + 1))).1))) [] (S2, (oAll S.2.1 (xs (i + 1))).2, z9) (cs + 1) (ss + 6)
  refine wg_goto (z := 2574) (n2 := 3) X.1 hb (by decide +kernel) (by decide) ?_
  exact hk _ _ _ _ _ g1 g2 (by omega) (by omega)
end LK
