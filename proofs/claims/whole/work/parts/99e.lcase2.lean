/-! The law's own body: its cases, on. -/
section LK
variable {E : xEnv lS} {W9 : xWd} {A : Nat → Prop} {aM : Nat → Nat} {oA : Nat}
variable {p : Program} {l : Launch} {e : Env} {R : Room} {s : State} {m : MethodId} {args : Array Value} {below : List Frame} {meth : Method} {c : Code}
variable {b L i x B : Nat} {xs : Nat → Int32} {u v : Option Value} {S : lS} {cs ss : Nat}
set_option maxHeartbeats 1000000 in
set_option maxRecDepth 20000 in
theorem lc_divert (hl : l.stackTraces = false) (Z : lZ E W9 A p R s m args c b L xs aM oA) (hi : i + 7 ≤ L) (hR : RR W9 B x S.1 S.2.1) (hB : B + 15 ≤ 8000) (hd : lApt aM oA S.1) (c1 : cs + 290 ≤ R.cells) (c2 : ss + 9660 ≤ R.slots) (hk : lNx E W9 A p l e R s m args below meth c b x aM oA i B cs ss) : wG E W9 A p l e R s m args below meth c 7 927 (lLv b x (aM 0) oA i u v) [] S cs ss := by
  obtain ⟨⟨hI, hi9, ho⟩, X, hb, hN, ⟨hX, hbl, hbA, hL⟩, r1, r2⟩ := Z
  have hall : iAll S.2.1 := by
    obtain ⟨_, _, _, h⟩ := hR
    exact h.2.2.1
  refine wg_aln (u := 1) (k := 1) X.1 hb (by decide +kernel) rfl rfl ?_
  refine wl_arg (n := 1) (z := 1) (i := i) X hb hX hbl hbA rfl rfl (by decide +kernel) (by decide +kernel) (by decide +kernel) (by decide +kernel) (by decide +kernel) (by decide +kernel) (by omega) hL (by omega) (by omega) (by show 1 + (0) ≤ 8; omega) ?_
  change wG E W9 A p l e R s m args below meth c 7 934 (lLv b x (aM 0) oA i u v) [.int (xs (i + 1)), .ref x] S cs ss
  refine wl_arg (n := 2) (z := 2) (i := i) X hb hX hbl hbA rfl rfl (by decide +kernel) (by decide +kernel) (by decide +kernel) (by decide +kernel) (by decide +kernel) (by decide +kernel) (by omega) hL (by omega) (by omega) (by show 1 + (1 + (0)) ≤ 8; omega) ?_
  change wG E W9 A p l e R s m args below meth c 7 940 (lLv b x (aM 0) oA i u v) [.int (xs (i + 2)), .int (xs (i + 1)), .ref x] S cs ss
  refine wg_aln (u := 3) (k := 3) X.1 hb (by decide +kernel) rfl rfl ?_
  refine wg_call (i := .invokestatic 165) (len := 3) (av := [.ref x, .int (xs (i + 1)), .int (xs (i + 2)), .ref oA]) (rest := []) (KF := fun r S' => ∃ S2 z9, (r = rI ((oDivert S.2.1 (xs (i + 1)) (xs (i + 2))).2.1 0) ∧ S' = (S2, S.2.1, z9)) ∧ RR W9 (B + 15) x S2 (oDivert S.2.1 (xs (i + 1)) (xs (i + 2))).2 ∧ lApt aM oA S2 ∧ ((oDivert S.2.1 (xs (i + 1)) (xs (i + 2))).2.1 0 = 0 → z9 = (oDivert S.2.1 (xs (i + 1)) (xs (i + 2))).1.toInt64)) (xCR_SX (n := 4) (ci := 0) hI X hN (semL_divert l hl W9 aM oA) gL_law_L_divert rfl (by decide +kernel) ⟨by omega, by omega⟩) hb (by decide +kernel) rfl rfl rfl (fun ⟨k, q⟩ => by cases q) (by decide) (by show cs + 3 ≤ _; omega) (by show ss + 18 ≤ _; omega) ⟨x, _, _, B, rfl, ⟨hR, hB, hd⟩, fun S2 z9 h1 h2 h3 => ⟨S2, z9, ⟨rfl, rfl⟩, h1, h2, h3⟩⟩ (fun w S' hk1 => ?_) (fun ex S' hk1 => by obtain ⟨_, _, ⟨h, _⟩, _⟩ := hk1; cases h)
  obtain ⟨S2, z9, ⟨e1, rfl⟩, g1, g2, g3⟩ := hk1
  cases e1
  refine wg_is (k := 5) X.1 hb (by decide +kernel) (by omega) ?_
  change wG E W9 A p l e R s m args below meth c 7 946 (lLv b x (aM 0) oA i (some (.int ((oDivert S.2.1 (xs (i + 1)) (xs (i + 2))).2.1 0))) v) [] (S2, S.2.1, z9) (cs + 3) (ss + 18)
  refine wg_aln (u := 2) (k := 2) X.1 hb (by decide +kernel) rfl rfl ?_
  refine wl_arg (n := 1) (z := 1) (i := i) X hb hX hbl hbA rfl rfl (by decide +kernel) (by decide +kernel) (by decide +kernel) (by decide +kernel) (by decide +kernel) (by decide +kernel) (by omega) hL (by omega) (by omega) (by show 1 + (0) ≤ 8; omega) ?_
  change wG E W9 A p l e R s m args below meth c 7 953 (lLv b x (aM 0) oA i (some (.int ((oDivert S.2.1 (xs (i + 1)) (xs (i + 2))).2.1 0))) v) [.int (xs (i + 1)), .ref (aM 0)] (S2, S.2.1, z9) (cs + 3) (ss + 18)
  refine wl_arg (n := 2) (z := 2) (i := i) X hb hX hbl hbA rfl rfl (by decide +kernel) (by decide +kernel) (by decide +kernel) (by decide +kernel) (by decide +kernel) (by decide +kernel) (by omega) hL (by omega) (by omega) (by show 1 + (1 + (0)) ≤ 8; omega) ?_
  change wG E W9 A p l e R s m args below meth c 7 959 (lLv b x (aM 0) oA i (some (.int ((oDivert S.2.1 (xs (i + 1)) (xs (i + 2))).2.1 0))) v) [.int (xs (i + 2)), .int (xs (i + 1)), .ref (aM 0)] (S2, S.2.1, z9) (cs + 3) (ss + 18)
  refine wg_call (i := .invokevirtual 167) (len := 3) (av := [.ref (aM 0), .int (xs (i + 1)), .int (xs (i + 2))]) (rest := []) (KF := fun r S' => r = rI (oDivert S.2.1 (xs (i + 1)) (xs (i + 2))).1 ∧ S' = (S2, (oDivert S.2.1 (xs (i + 1)) (xs (i + 2))).2, z9)) (xCR_VM (n := 2) (ci := 9) hI ho X (semX8_divert l W9 aM hi9) gL_law_X8_divert rfl rfl (by decide +kernel) ⟨by omega, by omega⟩) hb (by decide +kernel) rfl rfl rfl (fun _ => Or.inr (by rw [hI]; exact Or.inr ⟨rfl, rfl, ho 0 (by omega)⟩)) (by decide) (by show (cs + 3) + 0 ≤ _; omega) (by show (ss + 18) + 0 ≤ _; omega) (lM_mk (N_divert hall ⟨rfl, rfl⟩)) (fun w S' hk2 => ?_) (fun ex S' hk2 => by cases hk2.1)
  obtain ⟨e2, rfl⟩ := hk2
  cases e2
  refine wg_is (k := 6) X.1 hb (by decide +kernel) (by omega) ?_
  change wG E W9 A p l e R s m args below meth c 7 964 (lLv b x (aM 0) oA i (some (.int ((oDivert S.2.1 (xs (i + 1)) (xs (i + 2))).2.1 0))) (some (.int (oDivert S.2.1 (xs (i + 1)) (xs (i + 2))).1))) [] (S2, (oDivert S.2.1 (xs (i + 1)) (xs (i + 2))).2, z9) (cs + 3) (ss + 18)
  refine wl_th (k5 := (oDivert S.2.1 (xs (i + 1)) (xs (i + 2))).2.1 0) hI hi9 ho X hb ⟨by omega, by omega⟩ rfl rfl rfl (by omega) (by omega) (by decide +kernel) (by decide +kernel) (by decide +kernel) (by decide +kernel) ?_
  change wG E W9 A p l e R s m args below meth c 7 975 (lLv b x (aM 0) oA i (some (.int ((oDivert S.2.1 (xs (i + 1)) (xs (i + 2))).2.1 0))) (some (.int (oDivert S.2.1 (xs (i + 1)) (xs (i + 2))).1))) [] (S2, (oDivert S.2.1 (xs (i + 1)) (xs (i + 2))).2, z9) (cs + 3) (ss + 18)
  refine wl_cmp (k5 := (oDivert S.2.1 (xs (i + 1)) (xs (i + 2))).2.1 0) (v6 := (oDivert S.2.1 (xs (i + 1)) (xs (i + 2))).1) hI X hb rfl rfl rfl g3 (by omega) (by omega) (by decide +kernel) (by decide +kernel) (by decide +kernel) (by decide +kernel) (by decide +kernel) (by decide +kernel) (by decide +kernel) (by decide +kernel) (by decide +kernel) ?_
  change wG E W9 A p l e R s m args below meth c 7 992 (lLv b x (aM 0) oA i (some (.int ((oDivert S.2.1 (xs (i + 1)) (xs (i + 2))).2.1 0))) (some (.int (oDivert S.2.1 (xs (i + 1)) (xs (i + 2))).1))) [] (S2, (oDivert S.2.1 (xs (i + 1)) (xs (i + 2))).2, z9) (cs + 3) (ss + 18)
  refine wg_goto (z := 2574) (n2 := 1582) X.1 hb (by decide +kernel) (by decide) ?_
  exact hk _ _ _ _ _ g1 g2 (by omega) (by omega)
set_option maxHeartbeats 1000000 in
set_option maxRecDepth 20000 in
theorem lc_load (hl : l.stackTraces = false) (Z : lZ E W9 A p R s m args c b L xs aM oA) (hi : i + 7 ≤ L) (hR : RR W9 B x S.1 S.2.1) (hB : B + 15 ≤ 8000) (hd : lApt aM oA S.1) (c1 : cs + 290 ≤ R.cells) (c2 : ss + 9660 ≤ R.slots) (hk : lNx E W9 A p l e R s m args below meth c b x aM oA i B cs ss) : wG E W9 A p l e R s m args below meth c 7 995 (lLv b x (aM 0) oA i u v) [] S cs ss := by
  obtain ⟨⟨hI, hi9, ho⟩, X, hb, hN, ⟨hX, hbl, hbA, hL⟩, r1, r2⟩ := Z
  have hall : iAll S.2.1 := by
    obtain ⟨_, _, _, h⟩ := hR
    exact h.2.2.1
  refine wg_aln (u := 1) (k := 1) X.1 hb (by decide +kernel) rfl rfl ?_
  refine wl_arg (n := 1) (z := 1) (i := i) X hb hX hbl hbA rfl rfl (by decide +kernel) (by decide +kernel) (by decide +kernel) (by decide +kernel) (by decide +kernel) (by decide +kernel) (by omega) hL (by omega) (by omega) (by show 1 + (0) ≤ 8; omega) ?_
  change wG E W9 A p l e R s m args below meth c 7 1002 (lLv b x (aM 0) oA i u v) [.int (xs (i + 1)), .ref x] S cs ss
  refine wl_arg (n := 2) (z := 2) (i := i) X hb hX hbl hbA rfl rfl (by decide +kernel) (by decide +kernel) (by decide +kernel) (by decide +kernel) (by decide +kernel) (by decide +kernel) (by omega) hL (by omega) (by omega) (by show 1 + (1 + (0)) ≤ 8; omega) ?_
  change wG E W9 A p l e R s m args below meth c 7 1008 (lLv b x (aM 0) oA i u v) [.int (xs (i + 2)), .int (xs (i + 1)), .ref x] S cs ss
  refine wl_arg (n := 3) (z := 3) (i := i) X hb hX hbl hbA rfl rfl (by decide +kernel) (by decide +kernel) (by decide +kernel) (by decide +kernel) (by decide +kernel) (by decide +kernel) (by omega) hL (by omega) (by omega) (by show 1 + (1 + (1 + (0))) ≤ 8; omega) ?_
  change wG E W9 A p l e R s m args below meth c 7 1014 (lLv b x (aM 0) oA i u v) [.int (xs (i + 3)), .int (xs (i + 2)), .int (xs (i + 1)), .ref x] S cs ss
  refine wg_aln (u := 3) (k := 3) X.1 hb (by decide +kernel) rfl rfl ?_
  refine wg_call (i := .invokestatic 168) (len := 3) (av := [.ref x, .int (xs (i + 1)), .int (xs (i + 2)), .int (xs (i + 3)), .ref oA]) (rest := []) (KF := fun r S' => ∃ S2 z9, (r = rI ((oLoad S.2.1 (xs (i + 1)) (xs (i + 2)) (xs (i + 3))).2.1 0) ∧ S' = (S2, S.2.1, z9)) ∧ RR W9 (B + 15) x S2 (oLoad S.2.1 (xs (i + 1)) (xs (i + 2)) (xs (i + 3))).2 ∧ lApt aM oA S2 ∧ ((oLoad S.2.1 (xs (i + 1)) (xs (i + 2)) (xs (i + 3))).2.1 0 = 0 → z9 = (oLoad S.2.1 (xs (i + 1)) (xs (i + 2)) (xs (i + 3))).1.toInt64)) (xCR_SX (n := 5) (ci := 0) hI X hN (semL_load l hl W9 aM oA) gL_law_L_load rfl (by decide +kernel) ⟨by omega, by omega⟩) hb (by decide +kernel) rfl rfl rfl (fun ⟨k, q⟩ => by cases q) (by decide) (by show cs + 6 ≤ _; omega) (by show ss + 36 ≤ _; omega) ⟨x, _, _, _, B, rfl, ⟨hR, hB, hd⟩, fun S2 z9 h1 h2 h3 => ⟨S2, z9, ⟨rfl, rfl⟩, h1, h2, h3⟩⟩ (fun w S' hk1 => ?_) (fun ex S' hk1 => by obtain ⟨_, _, ⟨h, _⟩, _⟩ := hk1; cases h)
  obtain ⟨S2, z9, ⟨e1, rfl⟩, g1, g2, g3⟩ := hk1
  cases e1
  refine wg_is (k := 5) X.1 hb (by decide +kernel) (by omega) ?_
  change wG E W9 A p l e R s m args below meth c 7 1020 (lLv b x (aM 0) oA i (some (.int ((oLoad S.2.1 (xs (i + 1)) (xs (i + 2)) (xs (i + 3))).2.1 0))) v) [] (S2, S.2.1, z9) (cs + 6) (ss + 36)
  refine wg_aln (u := 2) (k := 2) X.1 hb (by decide +kernel) rfl rfl ?_
  refine wl_arg (n := 1) (z := 1) (i := i) X hb hX hbl hbA rfl rfl (by decide +kernel) (by decide +kernel) (by decide +kernel) (by decide +kernel) (by decide +kernel) (by decide +kernel) (by omega) hL (by omega) (by omega) (by show 1 + (0) ≤ 8; omega) ?_
  change wG E W9 A p l e R s m args below meth c 7 1027 (lLv b x (aM 0) oA i (some (.int ((oLoad S.2.1 (xs (i + 1)) (xs (i + 2)) (xs (i + 3))).2.1 0))) v) [.int (xs (i + 1)), .ref (aM 0)] (S2, S.2.1, z9) (cs + 6) (ss + 36)
  refine wl_arg (n := 2) (z := 2) (i := i) X hb hX hbl hbA rfl rfl (by decide +kernel) (by decide +kernel) (by decide +kernel) (by decide +kernel) (by decide +kernel) (by decide +kernel) (by omega) hL (by omega) (by omega) (by show 1 + (1 + (0)) ≤ 8; omega) ?_
  change wG E W9 A p l e R s m args below meth c 7 1033 (lLv b x (aM 0) oA i (some (.int ((oLoad S.2.1 (xs (i + 1)) (xs (i + 2)) (xs (i + 3))).2.1 0))) v) [.int (xs (i + 2)), .int (xs (i + 1)), .ref (aM 0)] (S2, S.2.1, z9) (cs + 6) (ss + 36)
  refine wl_arg (n := 3) (z := 3) (i := i) X hb hX hbl hbA rfl rfl (by decide +kernel) (by decide +kernel) (by decide +kernel) (by decide +kernel) (by decide +kernel) (by decide +kernel) (by omega) hL (by omega) (by omega) (by show 1 + (1 + (1 + (0))) ≤ 8; omega) ?_
  change wG E W9 A p l e R s m args below meth c 7 1039 (lLv b x (aM 0) oA i (some (.int ((oLoad S.2.1 (xs (i + 1)) (xs (i + 2)) (xs (i + 3))).2.1 0))) v) [.int (xs (i + 3)), .int (xs (i + 2)), .int (xs (i + 1)), .ref (aM 0)] (S2, S.2.1, z9) (cs + 6) (ss + 36)
  refine wg_call (i := .invokevirtual 170) (len := 3) (av := [.ref (aM 0), .int (xs (i + 1)), .int (xs (i + 2)), .int (xs (i + 3))]) (rest := []) (KF := fun r S' => r = rI (oLoad S.2.1 (xs (i + 1)) (xs (i + 2)) (xs (i + 3))).1 ∧ S' = (S2, (oLoad S.2.1 (xs (i + 1)) (xs (i + 2)) (xs (i + 3))).2, z9)) (xCR_VM (n := 3) (ci := 9) hI ho X (semX8_load l W9 aM hi9) gL_law_X8_load rfl rfl (by decide +kernel) ⟨by omega, by omega⟩) hb (by decide +kernel) rfl rfl rfl (fun _ => Or.inr (by rw [hI]; exact Or.inr ⟨rfl, rfl, ho 0 (by omega)⟩)) (by decide) (by show (cs + 6) + 0 ≤ _; omega) (by show (ss + 36) + 0 ≤ _; omega) (lM_mk (N_load hall ⟨rfl, rfl⟩)) (fun w S' hk2 => ?_) (fun ex S' hk2 => by cases hk2.1)
  obtain ⟨e2, rfl⟩ := hk2
  cases e2
  refine wg_is (k := 6) X.1 hb (by decide +kernel) (by omega) ?_
  change wG E W9 A p l e R s m args below meth c 7 1044 (lLv b x (aM 0) oA i (some (.int ((oLoad S.2.1 (xs (i + 1)) (xs (i + 2)) (xs (i + 3))).2.1 0))) (some (.int (oLoad S.2.1 (xs (i + 1)) (xs (i + 2)) (xs (i + 3))).1))) [] (S2, (oLoad S.2.1 (xs (i + 1)) (xs (i + 2)) (xs (i + 3))).2, z9) (cs + 6) (ss + 36)
  refine wl_th (k5 := (oLoad S.2.1 (xs (i + 1)) (xs (i + 2)) (xs (i + 3))).2.1 0) hI hi9 ho X hb ⟨by omega, by omega⟩ rfl rfl rfl (by omega) (by omega) (by decide +kernel) (by decide +kernel) (by decide +kernel) (by decide +kernel) ?_
  change wG E W9 A p l e R s m args below meth c 7 1055 (lLv b x (aM 0) oA i (some (.int ((oLoad S.2.1 (xs (i + 1)) (xs (i + 2)) (xs (i + 3))).2.1 0))) (some (.int (oLoad S.2.1 (xs (i + 1)) (xs (i + 2)) (xs (i + 3))).1))) [] (S2, (oLoad S.2.1 (xs (i + 1)) (xs (i + 2)) (xs (i + 3))).2, z9) (cs + 6) (ss + 36)
  refine wl_cmp (k5 := (oLoad S.2.1 (xs (i + 1)) (xs (i + 2)) (xs (i + 3))).2.1 0) (v6 := (oLoad S.2.1 (xs (i + 1)) (xs (i + 2)) (xs (i + 3))).1) hI X hb rfl rfl rfl g3 (by omega) (by omega) (by decide +kernel) (by decide +kernel) (by decide +kernel) (by decide +kernel) (by decide +kernel) (by decide +kernel) (by decide +kernel) (by decide +kernel) (by decide +kernel) ?_
  change wG E W9 A p l e R s m args below meth c 7 1072 (lLv b x (aM 0) oA i (some (.int ((oLoad S.2.1 (xs (i + 1)) (xs (i + 2)) (xs (i + 3))).2.1 0))) (some (.int (oLoad S.2.1 (xs (i + 1)) (xs (i + 2)) (xs (i + 3))).1))) [] (S2, (oLoad S.2.1 (xs (i + 1)) (xs (i + 2)) (xs (i + 3))).2, z9) (cs + 6) (ss + 36)
  refine wg_goto (z := 2574) (n2 := 1502) X.1 hb (by decide +kernel) (by decide) ?_
  exact hk _ _ _ _ _ g1 g2 (by omega) (by omega)
set_option maxHeartbeats 1000000 in
set_option maxRecDepth 20000 in
theorem lc_unload (hl : l.stackTraces = false) (Z : lZ E W9 A p R s m args c b L xs aM oA) (hi : i + 7 ≤ L) (hR : RR W9 B x S.1 S.2.1) (hB : B + 15 ≤ 8000) (hd : lApt aM oA S.1) (c1 : cs + 290 ≤ R.cells) (c2 : ss + 9660 ≤ R.slots) (hk : lNx E W9 A p l e R s m args below meth c b x aM oA i B cs ss) : wG E W9 A p l e R s m args below meth c 7 1075 (lLv b x (aM 0) oA i u v) [] S cs ss := by
  obtain ⟨⟨hI, hi9, ho⟩, X, hb, hN, ⟨hX, hbl, hbA, hL⟩, r1, r2⟩ := Z
  have hall : iAll S.2.1 := by
    obtain ⟨_, _, _, h⟩ := hR
    exact h.2.2.1
  refine wg_aln (u := 1) (k := 1) X.1 hb (by decide +kernel) rfl rfl ?_
  refine wl_arg (n := 1) (z := 1) (i := i) X hb hX hbl hbA rfl rfl (by decide +kernel) (by decide +kernel) (by decide +kernel) (by decide +kernel) (by decide +kernel) (by decide +kernel) (by omega) hL (by omega) (by omega) (by show 1 + (0) ≤ 8; omega) ?_
  change wG E W9 A p l e R s m args below meth c 7 1082 (lLv b x (aM 0) oA i u v) [.int (xs (i + 1)), .ref x] S cs ss
  refine wg_aln (u := 3) (k := 3) X.1 hb (by decide +kernel) rfl rfl ?_
  refine wg_call (i := .invokestatic 171) (len := 3) (av := [.ref x, .int (xs (i + 1)), .ref oA]) (rest := []) (KF := fun r S' => ∃ S2 z9, (r = rI ((oUnload S.2.1 (xs (i + 1))).2.1 0) ∧ S' = (S2, S.2.1, z9)) ∧ RR W9 (B + 15) x S2 (oUnload S.2.1 (xs (i + 1))).2 ∧ lApt aM oA S2 ∧ ((oUnload S.2.1 (xs (i + 1))).2.1 0 = 0 → z9 = (oUnload S.2.1 (xs (i + 1))).1.toInt64)) (xCR_SX (n := 3) (ci := 0) hI X hN (semL_unload l hl W9 aM oA) gL_law_L_unload rfl (by decide +kernel) ⟨by omega, by omega⟩) hb (by decide +kernel) rfl rfl rfl (fun ⟨k, q⟩ => by cases q) (by decide) (by show cs + 2 ≤ _; omega) (by show ss + 12 ≤ _; omega) ⟨x, _, B, rfl, ⟨hR, hB, hd⟩, fun S2 z9 h1 h2 h3 => ⟨S2, z9, ⟨rfl, rfl⟩, h1, h2, h3⟩⟩ (fun w S' hk1 => ?_) (fun ex S' hk1 => by obtain ⟨_, _, ⟨h, _⟩, _⟩ := hk1; cases h)
  obtain ⟨S2, z9, ⟨e1, rfl⟩, g1, g2, g3⟩ := hk1
  cases e1
  refine wg_is (k := 5) X.1 hb (by decide +kernel) (by omega) ?_
  change wG E W9 A p l e R s m args below meth c 7 1088 (lLv b x (aM 0) oA i (some (.int ((oUnload S.2.1 (xs (i + 1))).2.1 0))) v) [] (S2, S.2.1, z9) (cs + 2) (ss + 12)
  refine wg_aln (u := 2) (k := 2) X.1 hb (by decide +kernel) rfl rfl ?_
  refine wl_arg (n := 1) (z := 1) (i := i) X hb hX hbl hbA rfl rfl (by decide +kernel) (by decide +kernel) (by decide +kernel) (by decide +kernel) (by decide +kernel) (by decide +kernel) (by omega) hL (by omega) (by omega) (by show 1 + (0) ≤ 8; omega) ?_
  change wG E W9 A p l e R s m args below meth c 7 1095 (lLv b x (aM 0) oA i (some (.int ((oUnload S.2.1 (xs (i + 1))).2.1 0))) v) [.int (xs (i + 1)), .ref (aM 0)] (S2, S.2.1, z9) (cs + 2) (ss + 12)
  refine wg_call (i := .invokevirtual 174) (len := 3) (av := [.ref (aM 0), .int (xs (i + 1))]) (rest := []) (KF := fun r S' => r = rI (oUnload S.2.1 (xs (i + 1))).1 ∧ S' = (S2, (oUnload S.2.1 (xs (i + 1))).2, z9)) (xCR_VM (n := 1) (ci := 9) hI ho X (semX8_unload l W9 aM hi9) gL_law_X8_unload rfl rfl (by decide +kernel) ⟨by omega, by omega⟩) hb (by decide +kernel) rfl rfl rfl (fun _ => Or.inr (by rw [hI]; exact Or.inr ⟨rfl, rfl, ho 0 (by omega)⟩)) (by decide) (by show (cs + 2) + 0 ≤ _; omega) (by show (ss + 12) + 0 ≤ _; omega) (lM_mk (N_unload hall ⟨rfl, rfl⟩)) (fun w S' hk2 => ?_) (fun ex S' hk2 => by cases hk2.1)
  obtain ⟨e2, rfl⟩ := hk2
  cases e2
  refine wg_is (k := 6) X.1 hb (by decide +kernel) (by omega) ?_
  change wG E W9 A p l e R s m args below meth c 7 1100 (lLv b x (aM 0) oA i (some (.int ((oUnload S.2.1 (xs (i + 1))).2.1 0))) (some (.int (oUnload S.2.1 (xs (i + 1))).1))) [] (S2, (oUnload S.2.1 (xs (i + 1))).2, z9) (cs + 2) (ss + 12)
  refine wl_th (k5 := (oUnload S.2.1 (xs (i + 1))).2.1 0) hI hi9 ho X hb ⟨by omega, by omega⟩ rfl rfl rfl (by omega) (by omega) (by decide +kernel) (by decide +kernel) (by decide +kernel) (by decide +kernel) ?_
  change wG E W9 A p l e R s m args below meth c 7 1111 (lLv b x (aM 0) oA i (some (.int ((oUnload S.2.1 (xs (i + 1))).2.1 0))) (some (.int (oUnload S.2.1 (xs (i + 1))).1))) [] (S2, (oUnload S.2.1 (xs (i + 1))).2, z9) (cs + 2) (ss + 12)
  refine wl_cmp (k5 := (oUnload S.2.1 (xs (i + 1))).2.1 0) (v6 := (oUnload S.2.1 (xs (i + 1))).1) hI X hb rfl rfl rfl g3 (by omega) (by omega) (by decide +kernel) (by decide +kernel) (by decide +kernel) (by decide +kernel) (by decide +kernel) (by decide +kernel) (by decide +kernel) (by decide +kernel) (by decide +kernel) ?_
  change wG E W9 A p l e R s m args below meth c 7 1128 (lLv b x (aM 0) oA i (some (.int ((oUnload S.2.1 (xs (i + 1))).2.1 0))) (some (.int (oUnload S.2.1 (xs (i + 1))).1))) [] (S2, (oUnload S.2.1 (xs (i + 1))).2, z9) (cs + 2) (ss + 12)
  refine wg_goto (z := 2574) (n2 := 1446) X.1 hb (by decide +kernel) (by decide) ?_
  exact hk _ _ _ _ _ g1 g2 (by omega) (by omega)
set_option maxHeartbeats 1000000 in
set_option maxRecDepth 20000 in
theorem lc_clean (hl : l.stackTraces = false) (Z : lZ E W9 A p R s m args c b L xs aM oA) (hi : i + 7 ≤ L) (hR : RR W9 B x S.1 S.2.1) (hB : B + 15 ≤ 8000) (hd : lApt aM oA S.1) (c1 : cs + 290 ≤ R.cells) (c2 : ss + 9660 ≤ R.slots) (hk : lNx E W9 A p l e R s m args below meth c b x aM oA i B cs ss) : wG E W9 A p l e R s m args below meth c 7 1131 (lLv b x (aM 0) oA i u v) [] S cs ss := by
  obtain ⟨⟨hI, hi9, ho⟩, X, hb, hN, ⟨hX, hbl, hbA, hL⟩, r1, r2⟩ := Z
  have hall : iAll S.2.1 := by
    obtain ⟨_, _, _, h⟩ := hR
    exact h.2.2.1
  refine wg_aln (u := 1) (k := 1) X.1 hb (by decide +kernel) rfl rfl ?_
  refine wl_arg (n := 1) (z := 1) (i := i) X hb hX hbl hbA rfl rfl (by decide +kernel) (by decide +kernel) (by decide +kernel) (by decide +kernel) (by decide +kernel) (by decide +kernel) (by omega) hL (by omega) (by omega) (by show 1 + (0) ≤ 8; omega) ?_
  change wG E W9 A p l e R s m args below meth c 7 1138 (lLv b x (aM 0) oA i u v) [.int (xs (i + 1)), .ref x] S cs ss
  refine wg_aln (u := 3) (k := 3) X.1 hb (by decide +kernel) rfl rfl ?_
  refine wg_call (i := .invokestatic 175) (len := 3) (av := [.ref x, .int (xs (i + 1)), .ref oA]) (rest := []) (KF := fun r S' => ∃ S2 z9, (r = rI ((oClean S.2.1 (xs (i + 1))).2.1 0) ∧ S' = (S2, S.2.1, z9)) ∧ RR W9 (B + 15) x S2 (oClean S.2.1 (xs (i + 1))).2 ∧ lApt aM oA S2 ∧ ((oClean S.2.1 (xs (i + 1))).2.1 0 = 0 → z9 = (oClean S.2.1 (xs (i + 1))).1.toInt64)) (xCR_SX (n := 3) (ci := 0) hI X hN (semL_clean l hl W9 aM oA) gL_law_L_clean rfl (by decide +kernel) ⟨by omega, by omega⟩) hb (by decide +kernel) rfl rfl rfl (fun ⟨k, q⟩ => by cases q) (by decide) (by show cs + 2 ≤ _; omega) (by show ss + 12 ≤ _; omega) ⟨x, _, B, rfl, ⟨hR, hB, hd⟩, fun S2 z9 h1 h2 h3 => ⟨S2, z9, ⟨rfl, rfl⟩, h1, h2, h3⟩⟩ (fun w S' hk1 => ?_) (fun ex S' hk1 => by obtain ⟨_, _, ⟨h, _⟩, _⟩ := hk1; cases h)
  obtain ⟨S2, z9, ⟨e1, rfl⟩, g1, g2, g3⟩ := hk1
  cases e1
  refine wg_is (k := 5) X.1 hb (by decide +kernel) (by omega) ?_
  change wG E W9 A p l e R s m args below meth c 7 1144 (lLv b x (aM 0) oA i (some (.int ((oClean S.2.1 (xs (i + 1))).2.1 0))) v) [] (S2, S.2.1, z9) (cs + 2) (ss + 12)
  refine wg_aln (u := 2) (k := 2) X.1 hb (by decide +kernel) rfl rfl ?_
  refine wl_arg (n := 1) (z := 1) (i := i) X hb hX hbl hbA rfl rfl (by decide +kernel) (by decide +kernel) (by decide +kernel) (by decide +kernel) (by decide +kernel) (by decide +kernel) (by omega) hL (by omega) (by omega) (by show 1 + (0) ≤ 8; omega) ?_
  change wG E W9 A p l e R s m args below meth c 7 1151 (lLv b x (aM 0) oA i (some (.int ((oClean S.2.1 (xs (i + 1))).2.1 0))) v) [.int (xs (i + 1)), .ref (aM 0)] (S2, S.2.1, z9) (cs + 2) (ss + 12)
  refine wg_call (i := .invokevirtual 177) (len := 3) (av := [.ref (aM 0), .int (xs (i + 1))]) (rest := []) (KF := fun r S' => r = rI (oClean S.2.1 (xs (i + 1))).1 ∧ S' = (S2, (oClean S.2.1 (xs (i + 1))).2, z9)) (xCR_VM (n := 1) (ci := 9) hI ho X (semX8_clean l W9 aM hi9) gL_law_X8_clean rfl rfl (by decide +kernel) ⟨by omega, by omega⟩) hb (by decide +kernel) rfl rfl rfl (fun _ => Or.inr (by rw [hI]; exact Or.inr ⟨rfl, rfl, ho 0 (by omega)⟩)) (by decide) (by show (cs + 2) + 0 ≤ _; omega) (by show (ss + 12) + 0 ≤ _; omega) (lM_mk (N_clean hall ⟨rfl, rfl⟩)) (fun w S' hk2 => ?_) (fun ex S' hk2 => by cases hk2.1)
  obtain ⟨e2, rfl⟩ := hk2
  cases e2
  refine wg_is (k := 6) X.1 hb (by decide +kernel) (by omega) ?_
  change wG E W9 A p l e R s m args below meth c 7 1156 (lLv b x (aM 0) oA i (some (.int ((oClean S.2.1 (xs (i + 1))).2.1 0))) (some (.int (oClean S.2.1 (xs (i + 1))).1))) [] (S2, (oClean S.2.1 (xs (i + 1))).2, z9) (cs + 2) (ss + 12)
  refine wl_th (k5 := (oClean S.2.1 (xs (i + 1))).2.1 0) hI hi9 ho X hb ⟨by omega, by omega⟩ rfl rfl rfl (by omega) (by omega) (by decide +kernel) (by decide +kernel) (by decide +kernel) (by decide +kernel) ?_
  change wG E W9 A p l e R s m args below meth c 7 1167 (lLv b x (aM 0) oA i (some (.int ((oClean S.2.1 (xs (i + 1))).2.1 0))) (some (.int (oClean S.2.1 (xs (i + 1))).1))) [] (S2, (oClean S.2.1 (xs (i + 1))).2, z9) (cs + 2) (ss + 12)
  refine wl_cmp (k5 := (oClean S.2.1 (xs (i + 1))).2.1 0) (v6 := (oClean S.2.1 (xs (i + 1))).1) hI X hb rfl rfl rfl g3 (by omega) (by omega) (by decide +kernel) (by decide +kernel) (by decide +kernel) (by decide +kernel) (by decide +kernel) (by decide +kernel) (by decide +kernel) (by decide +kernel) (by decide +kernel) ?_
  change wG E W9 A p l e R s m args below meth c 7 1184 (lLv b x (aM 0) oA i (some (.int ((oClean S.2.1 (xs (i + 1))).2.1 0))) (some (.int (oClean S.2.1 (xs (i + 1))).1))) [] (S2, (oClean S.2.1 (xs (i + 1))).2, z9) (cs + 2) (ss + 12)
  refine wg_goto (z := 2574) (n2 := 1390) X.1 hb (by decide +kernel) (by decide) ?_
  exact hk _ _ _ _ _ g1 g2 (by omega) (by omega)
set_option maxHeartbeats 1000000 in
set_option maxRecDepth 20000 in
theorem lc_boat (hl : l.stackTraces = false) (Z : lZ E W9 A p R s m args c b L xs aM oA) (hi : i + 7 ≤ L) (hR : RR W9 B x S.1 S.2.1) (hB : B + 15 ≤ 8000) (hd : lApt aM oA S.1) (c1 : cs + 290 ≤ R.cells) (c2 : ss + 9660 ≤ R.slots) (hk : lNx E W9 A p l e R s m args below meth c b x aM oA i B cs ss) : wG E W9 A p l e R s m args below meth c 7 1187 (lLv b x (aM 0) oA i u v) [] S cs ss := by
  obtain ⟨⟨hI, hi9, ho⟩, X, hb, hN, ⟨hX, hbl, hbA, hL⟩, r1, r2⟩ := Z
  have hall : iAll S.2.1 := by
    obtain ⟨_, _, _, h⟩ := hR
    exact h.2.2.1
  refine wg_aln (u := 1) (k := 1) X.1 hb (by decide +kernel) rfl rfl ?_
  refine wl_arg (n := 1) (z := 1) (i := i) X hb hX hbl hbA rfl rfl (by decide +kernel) (by decide +kernel) (by decide +kernel) (by decide +kernel) (by decide +kernel) (by decide +kernel) (by omega) hL (by omega) (by omega) (by show 1 + (0) ≤ 8; omega) ?_
  change wG E W9 A p l e R s m args below meth c 7 1194 (lLv b x (aM 0) oA i u v) [.int (xs (i + 1)), .ref x] S cs ss
  refine wl_arg (n := 2) (z := 2) (i := i) X hb hX hbl hbA rfl rfl (by decide +kernel) (by decide +kernel) (by decide +kernel) (by decide +kernel) (by decide +kernel) (by decide +kernel) (by omega) hL (by omega) (by omega) (by show 1 + (1 + (0)) ≤ 8; omega) ?_
  change wG E W9 A p l e R s m args below meth c 7 1200 (lLv b x (aM 0) oA i u v) [.int (xs (i + 2)), .int (xs (i + 1)), .ref x] S cs ss
  refine wl_arg (n := 3) (z := 3) (i := i) X hb hX hbl hbA rfl rfl (by decide +kernel) (by decide +kernel) (by decide +kernel) (by decide +kernel) (by decide +kernel) (by decide +kernel) (by omega) hL (by omega) (by omega) (by show 1 + (1 + (1 + (0))) ≤ 8; omega) ?_
  change wG E W9 A p l e R s m args below meth c 7 1206 (lLv b x (aM 0) oA i u v) [.int (xs (i + 3)), .int (xs (i + 2)), .int (xs (i + 1)), .ref x] S cs ss
  refine wg_aln (u := 3) (k := 3) X.1 hb (by decide +kernel) rfl rfl ?_
  refine wg_call (i := .invokestatic 178) (len := 3) (av := [.ref x, .int (xs (i + 1)), .int (xs (i + 2)), .int (xs (i + 3)), .ref oA]) (rest := []) (KF := fun r S' => ∃ S2 z9, (r = rI ((oBoat S.2.1 (xs (i + 1)) (xs (i + 2)) (xs (i + 3))).2.1 0) ∧ S' = (S2, S.2.1, z9)) ∧ RR W9 (B + 15) x S2 (oBoat S.2.1 (xs (i + 1)) (xs (i + 2)) (xs (i + 3))).2 ∧ lApt aM oA S2 ∧ ((oBoat S.2.1 (xs (i + 1)) (xs (i + 2)) (xs (i + 3))).2.1 0 = 0 → z9 = (oBoat S.2.1 (xs (i + 1)) (xs (i + 2)) (xs (i + 3))).1.toInt64)) (xCR_SX (n := 5) (ci := 0) hI X hN (semL_boat l hl W9 aM oA) gL_law_L_boat rfl (by decide +kernel) ⟨by omega, by omega⟩) hb (by decide +kernel) rfl rfl rfl (fun ⟨k, q⟩ => by cases q) (by decide) (by show cs + 11 ≤ _; omega) (by show ss + 170 ≤ _; omega) ⟨x, _, _, _, B, rfl, ⟨hR, hB, hd⟩, fun S2 z9 h1 h2 h3 => ⟨S2, z9, ⟨rfl, rfl⟩, h1, h2, h3⟩⟩ (fun w S' hk1 => ?_) (fun ex S' hk1 => by obtain ⟨_, _, ⟨h, _⟩, _⟩ := hk1; cases h)
  obtain ⟨S2, z9, ⟨e1, rfl⟩, g1, g2, g3⟩ := hk1
  cases e1
  refine wg_is (k := 5) X.1 hb (by decide +kernel) (by omega) ?_
  change wG E W9 A p l e R s m args below meth c 7 1212 (lLv b x (aM 0) oA i (some (.int ((oBoat S.2.1 (xs (i + 1)) (xs (i + 2)) (xs (i + 3))).2.1 0))) v) [] (S2, S.2.1, z9) (cs + 11) (ss + 170)
  refine wg_aln (u := 2) (k := 2) X.1 hb (by decide +kernel) rfl rfl ?_
  refine wl_arg (n := 1) (z := 1) (i := i) X hb hX hbl hbA rfl rfl (by decide +kernel) (by decide +kernel) (by decide +kernel) (by decide +kernel) (by decide +kernel) (by decide +kernel) (by omega) hL (by omega) (by omega) (by show 1 + (0) ≤ 8; omega) ?_
  change wG E W9 A p l e R s m args below meth c 7 1219 (lLv b x (aM 0) oA i (some (.int ((oBoat S.2.1 (xs (i + 1)) (xs (i + 2)) (xs (i + 3))).2.1 0))) v) [.int (xs (i + 1)), .ref (aM 0)] (S2, S.2.1, z9) (cs + 11) (ss + 170)
  refine wl_arg (n := 2) (z := 2) (i := i) X hb hX hbl hbA rfl rfl (by decide +kernel) (by decide +kernel) (by decide +kernel) (by decide +kernel) (by decide +kernel) (by decide +kernel) (by omega) hL (by omega) (by omega) (by show 1 + (1 + (0)) ≤ 8; omega) ?_
  change wG E W9 A p l e R s m args below meth c 7 1225 (lLv b x (aM 0) oA i (some (.int ((oBoat S.2.1 (xs (i + 1)) (xs (i + 2)) (xs (i + 3))).2.1 0))) v) [.int (xs (i + 2)), .int (xs (i + 1)), .ref (aM 0)] (S2, S.2.1, z9) (cs + 11) (ss + 170)
  refine wl_arg (n := 3) (z := 3) (i := i) X hb hX hbl hbA rfl rfl (by decide +kernel) (by decide +kernel) (by decide +kernel) (by decide +kernel) (by decide +kernel) (by decide +kernel) (by omega) hL (by omega) (by omega) (by show 1 + (1 + (1 + (0))) ≤ 8; omega) ?_
  change wG E W9 A p l e R s m args below meth c 7 1231 (lLv b x (aM 0) oA i (some (.int ((oBoat S.2.1 (xs (i + 1)) (xs (i + 2)) (xs (i + 3))).2.1 0))) v) [.int (xs (i + 3)), .int (xs (i + 2)), .int (xs (i + 1)), .ref (aM 0)] (S2, S.2.1, z9) (cs + 11) (ss + 170)
  refine wg_call (i := .invokevirtual 180) (len := 3) (av := [.ref (aM 0), .int (xs (i + 1)), .int (xs (i + 2)), .int (xs (i + 3))]) (rest := []) (KF := fun r S' => r = rI (oBoat S.2.1 (xs (i + 1)) (xs (i + 2)) (xs (i + 3))).1 ∧ S' = (S2, (oBoat S.2.1 (xs (i + 1)) (xs (i + 2)) (xs (i + 3))).2, z9)) (xCR_VM (n := 3) (ci := 9) hI ho X (semX8_boat l W9 aM hi9) gL_law_X8_boat rfl rfl (by decide +kernel) ⟨by omega, by omega⟩) hb (by decide +kernel) rfl rfl rfl (fun _ => Or.inr (by rw [hI]; exact Or.inr ⟨rfl, rfl, ho 0 (by omega)⟩)) (by decide) (by show (cs + 11) + 0 ≤ _; omega) (by show (ss + 170) + 0 ≤ _; omega) (lM_mk (N_boat hall ⟨rfl, rfl⟩)) (fun w S' hk2 => ?_) (fun ex S' hk2 => by cases hk2.1)
  obtain ⟨e2, rfl⟩ := hk2
  cases e2
  refine wg_is (k := 6) X.1 hb (by decide +kernel) (by omega) ?_
  change wG E W9 A p l e R s m args below meth c 7 1236 (lLv b x (aM 0) oA i (some (.int ((oBoat S.2.1 (xs (i + 1)) (xs (i + 2)) (xs (i + 3))).2.1 0))) (some (.int (oBoat S.2.1 (xs (i + 1)) (xs (i + 2)) (xs (i + 3))).1))) [] (S2, (oBoat S.2.1 (xs (i + 1)) (xs (i + 2)) (xs (i + 3))).2, z9) (cs + 11) (ss + 170)
  refine wl_th (k5 := (oBoat S.2.1 (xs (i + 1)) (xs (i + 2)) (xs (i + 3))).2.1 0) hI hi9 ho X hb ⟨by omega, by omega⟩ rfl rfl rfl (by omega) (by omega) (by decide +kernel) (by decide +kernel) (by decide +kernel) (by decide +kernel) ?_
  change wG E W9 A p l e R s m args below meth c 7 1247 (lLv b x (aM 0) oA i (some (.int ((oBoat S.2.1 (xs (i + 1)) (xs (i + 2)) (xs (i + 3))).2.1 0))) (some (.int (oBoat S.2.1 (xs (i + 1)) (xs (i + 2)) (xs (i + 3))).1))) [] (S2, (oBoat S.2.1 (xs (i + 1)) (xs (i + 2)) (xs (i + 3))).2, z9) (cs + 11) (ss + 170)
  refine wl_cmp (k5 := (oBoat S.2.1 (xs (i + 1)) (xs (i + 2)) (xs (i + 3))).2.1 0) (v6 := (oBoat S.2.1 (xs (i + 1)) (xs (i + 2)) (xs (i + 3))).1) hI X hb rfl rfl rfl g3 (by omega) (by omega) (by decide +kernel) (by decide +kernel) (by decide +kernel) (by decide +kernel) (by decide +kernel) (by decide +kernel) (by decide +kernel) (by decide +kernel) (by decide +kernel) ?_
  change wG E W9 A p l e R s m args below meth c 7 1264 (lLv b x (aM 0) oA i (some (.int ((oBoat S.2.1 (xs (i + 1)) (xs (i + 2)) (xs (i + 3))).2.1 0))) (some (.int (oBoat S.2.1 (xs (i + 1)) (xs (i + 2)) (xs (i + 3))).1))) [] (S2, (oBoat S.2.1 (xs (i + 1)) (xs (i + 2)) (xs (i + 3))).2, z9) (cs + 11) (ss + 170)
  refine wg_goto (z := 2574) (n2 := 1310) X.1 hb (by decide +kernel) (by decide) ?_
  exact hk _ _ _ _ _ g1 g2 (by omega) (by omega)
set_option maxHeartbeats 1000000 in
set_option maxRecDepth 20000 in
theorem lc_fuel (hl : l.stackTraces = false) (Z : lZ E W9 A p R s m args c b L xs aM oA) (hi : i + 7 ≤ L) (hR : RR W9 B x S.1 S.2.1) (hB : B + 15 ≤ 8000) (hd : lApt aM oA S.1) (c1 : cs + 290 ≤ R.cells) (c2 : ss + 9660 ≤ R.slots) (hk : lNx E W9 A p l e R s m args below meth c b x aM oA i B cs ss) : wG E W9 A p l e R s m args below meth c 7 1267 (lLv b x (aM 0) oA i u v) [] S cs ss := by
  obtain ⟨⟨hI, hi9, ho⟩, X, hb, hN, ⟨hX, hbl, hbA, hL⟩, r1, r2⟩ := Z
  have hall : iAll S.2.1 := by
    obtain ⟨_, _, _, h⟩ := hR
    exact h.2.2.1
  refine wg_aln (u := 1) (k := 1) X.1 hb (by decide +kernel) rfl rfl ?_
  refine wl_arg (n := 1) (z := 1) (i := i) X hb hX hbl hbA rfl rfl (by decide +kernel) (by decide +kernel) (by decide +kernel) (by decide +kernel) (by decide +kernel) (by decide +kernel) (by omega) hL (by omega) (by omega) (by show 1 + (0) ≤ 8; omega) ?_
  change wG E W9 A p l e R s m args below meth c 7 1274 (lLv b x (aM 0) oA i u v) [.int (xs (i + 1)), .ref x] S cs ss
  refine wl_arg (n := 2) (z := 2) (i := i) X hb hX hbl hbA rfl rfl (by decide +kernel) (by decide +kernel) (by decide +kernel) (by decide +kernel) (by decide +kernel) (by decide +kernel) (by omega) hL (by omega) (by omega) (by show 1 + (1 + (0)) ≤ 8; omega) ?_
  change wG E W9 A p l e R s m args below meth c 7 1280 (lLv b x (aM 0) oA i u v) [.int (xs (i + 2)), .int (xs (i + 1)), .ref x] S cs ss
  refine wg_aln (u := 3) (k := 3) X.1 hb (by decide +kernel) rfl rfl ?_
  refine wg_call (i := .invokestatic 181) (len := 3) (av := [.ref x, .int (xs (i + 1)), .int (xs (i + 2)), .ref oA]) (rest := []) (KF := fun r S' => ∃ S2 z9, (r = rI ((oFuel S.2.1 (xs (i + 1)) (xs (i + 2))).2.1 0) ∧ S' = (S2, S.2.1, z9)) ∧ RR W9 (B + 15) x S2 (oFuel S.2.1 (xs (i + 1)) (xs (i + 2))).2 ∧ lApt aM oA S2 ∧ ((oFuel S.2.1 (xs (i + 1)) (xs (i + 2))).2.1 0 = 0 → z9 = (oFuel S.2.1 (xs (i + 1)) (xs (i + 2))).1.toInt64)) (xCR_SX (n := 4) (ci := 0) hI X hN (semL_fuel l hl W9 aM oA) gL_law_L_fuel rfl (by decide +kernel) ⟨by omega, by omega⟩) hb (by decide +kernel) rfl rfl rfl (fun ⟨k, q⟩ => by cases q) (by decide) (by show cs + 3 ≤ _; omega) (by show ss + 18 ≤ _; omega) ⟨x, _, _, B, rfl, ⟨hR, hB, hd⟩, fun S2 z9 h1 h2 h3 => ⟨S2, z9, ⟨rfl, rfl⟩, h1, h2, h3⟩⟩ (fun w S' hk1 => ?_) (fun ex S' hk1 => by obtain ⟨_, _, ⟨h, _⟩, _⟩ := hk1; cases h)
  obtain ⟨S2, z9, ⟨e1, rfl⟩, g1, g2, g3⟩ := hk1
  cases e1
  refine wg_is (k := 5) X.1 hb (by decide +kernel) (by omega) ?_
  change wG E W9 A p l e R s m args below meth c 7 1286 (lLv b x (aM 0) oA i (some (.int ((oFuel S.2.1 (xs (i + 1)) (xs (i + 2))).2.1 0))) v) [] (S2, S.2.1, z9) (cs + 3) (ss + 18)
  refine wg_aln (u := 2) (k := 2) X.1 hb (by decide +kernel) rfl rfl ?_
  refine wl_arg (n := 1) (z := 1) (i := i) X hb hX hbl hbA rfl rfl (by decide +kernel) (by decide +kernel) (by decide +kernel) (by decide +kernel) (by decide +kernel) (by decide +kernel) (by omega) hL (by omega) (by omega) (by show 1 + (0) ≤ 8; omega) ?_
  change wG E W9 A p l e R s m args below meth c 7 1293 (lLv b x (aM 0) oA i (some (.int ((oFuel S.2.1 (xs (i + 1)) (xs (i + 2))).2.1 0))) v) [.int (xs (i + 1)), .ref (aM 0)] (S2, S.2.1, z9) (cs + 3) (ss + 18)
  refine wl_arg (n := 2) (z := 2) (i := i) X hb hX hbl hbA rfl rfl (by decide +kernel) (by decide +kernel) (by decide +kernel) (by decide +kernel) (by decide +kernel) (by decide +kernel) (by omega) hL (by omega) (by omega) (by show 1 + (1 + (0)) ≤ 8; omega) ?_
  change wG E W9 A p l e R s m args below meth c 7 1299 (lLv b x (aM 0) oA i (some (.int ((oFuel S.2.1 (xs (i + 1)) (xs (i + 2))).2.1 0))) v) [.int (xs (i + 2)), .int (xs (i + 1)), .ref (aM 0)] (S2, S.2.1, z9) (cs + 3) (ss + 18)
  refine wg_call (i := .invokevirtual 183) (len := 3) (av := [.ref (aM 0), .int (xs (i + 1)), .int (xs (i + 2))]) (rest := []) (KF := fun r S' => r = rI (oFuel S.2.1 (xs (i + 1)) (xs (i + 2))).1 ∧ S' = (S2, (oFuel S.2.1 (xs (i + 1)) (xs (i + 2))).2, z9)) (xCR_VM (n := 2) (ci := 9) hI ho X (semX8_fuel l W9 aM hi9) gL_law_X8_fuel rfl rfl (by decide +kernel) ⟨by omega, by omega⟩) hb (by decide +kernel) rfl rfl rfl (fun _ => Or.inr (by rw [hI]; exact Or.inr ⟨rfl, rfl, ho 0 (by omega)⟩)) (by decide) (by show (cs + 3) + 0 ≤ _; omega) (by show (ss + 18) + 0 ≤ _; omega) (lM_mk (N_fuel hall ⟨rfl, rfl⟩)) (fun w S' hk2 => ?_) (fun ex S' hk2 => by cases hk2.1)
  obtain ⟨e2, rfl⟩ := hk2
  cases e2
  refine wg_is (k := 6) X.1 hb (by decide +kernel) (by omega) ?_
  change wG E W9 A p l e R s m args below meth c 7 1304 (lLv b x (aM 0) oA i (some (.int ((oFuel S.2.1 (xs (i + 1)) (xs (i + 2))).2.1 0))) (some (.int (oFuel S.2.1 (xs (i + 1)) (xs (i + 2))).1))) [] (S2, (oFuel S.2.1 (xs (i + 1)) (xs (i + 2))).2, z9) (cs + 3) (ss + 18)
  refine wl_th (k5 := (oFuel S.2.1 (xs (i + 1)) (xs (i + 2))).2.1 0) hI hi9 ho X hb ⟨by omega, by omega⟩ rfl rfl rfl (by omega) (by omega) (by decide +kernel) (by decide +kernel) (by decide +kernel) (by decide +kernel) ?_
  change wG E W9 A p l e R s m args below meth c 7 1315 (lLv b x (aM 0) oA i (some (.int ((oFuel S.2.1 (xs (i + 1)) (xs (i + 2))).2.1 0))) (some (.int (oFuel S.2.1 (xs (i + 1)) (xs (i + 2))).1))) [] (S2, (oFuel S.2.1 (xs (i + 1)) (xs (i + 2))).2, z9) (cs + 3) (ss + 18)
  refine wl_cmp (k5 := (oFuel S.2.1 (xs (i + 1)) (xs (i + 2))).2.1 0) (v6 := (oFuel S.2.1 (xs (i + 1)) (xs (i + 2))).1) hI X hb rfl rfl rfl g3 (by omega) (by omega) (by decide +kernel) (by decide +kernel) (by decide +kernel) (by decide +kernel) (by decide +kernel) (by decide +kernel) (by decide +kernel) (by decide +kernel) (by decide +kernel) ?_
  change wG E W9 A p l e R s m args below meth c 7 1332 (lLv b x (aM 0) oA i (some (.int ((oFuel S.2.1 (xs (i + 1)) (xs (i + 2))).2.1 0))) (some (.int (oFuel S.2.1 (xs (i + 1)) (xs (i + 2))).1))) [] (S2, (oFuel S.2.1 (xs (i + 1)) (xs (i + 2))).2, z9) (cs + 3) (ss + 18)
  refine wg_goto (z := 2574) (n2 := 1242) X.1 hb (by decide +kernel) (by decide) ?_
  exact hk _ _ _ _ _ g1 g2 (by omega) (by omega)
set_option maxHeartbeats 1000000 in
set_option maxRecDepth 20000 in
theorem lc_wide (hl : l.stackTraces = false) (Z : lZ E W9 A p R s m args c b L xs aM oA) (hi : i + 7 ≤ L) (hR : RR W9 B x S.1 S.2.1) (hB : B + 15 ≤ 8000) (hd : lApt aM oA S.1) (c1 : cs + 290 ≤ R.cells) (c2 : ss + 9660 ≤ R.slots) (hk : lNx E W9 A p l e R s m args below meth c b x aM oA i B cs ss) : wG E W9 A p l e R s m args below meth c 7 1335 (lLv b x (aM 0) oA i u v) [] S cs ss := by
  obtain ⟨⟨hI, hi9, ho⟩, X, hb, hN, ⟨hX, hbl, hbA, hL⟩, r1, r2⟩ := Z
  have hall : iAll S.2.1 := by
    obtain ⟨_, _, _, h⟩ := hR
    exact h.2.2.1
  refine wg_aln (u := 1) (k := 1) X.1 hb (by decide +kernel) rfl rfl ?_
  refine wl_arg (n := 1) (z := 1) (i := i) X hb hX hbl hbA rfl rfl (by decide +kernel) (by decide +kernel) (by decide +kernel) (by decide +kernel) (by decide +kernel) (by decide +kernel) (by omega) hL (by omega) (by omega) (by show 1 + (0) ≤ 8; omega) ?_
  change wG E W9 A p l e R s m args below meth c 7 1342 (lLv b x (aM 0) oA i u v) [.int (xs (i + 1)), .ref x] S cs ss
  refine wl_arg (n := 2) (z := 2) (i := i) X hb hX hbl hbA rfl rfl (by decide +kernel) (by decide +kernel) (by decide +kernel) (by decide +kernel) (by decide +kernel) (by decide +kernel) (by omega) hL (by omega) (by omega) (by show 1 + (1 + (0)) ≤ 8; omega) ?_
  change wG E W9 A p l e R s m args below meth c 7 1348 (lLv b x (aM 0) oA i u v) [.int (xs (i + 2)), .int (xs (i + 1)), .ref x] S cs ss
  refine wg_aln (u := 3) (k := 3) X.1 hb (by decide +kernel) rfl rfl ?_
  refine wg_call (i := .invokestatic 184) (len := 3) (av := [.ref x, .int (xs (i + 1)), .int (xs (i + 2)), .ref oA]) (rest := []) (KF := fun r S' => ∃ S2 z9, (r = rI ((oWide S.2.1 (xs (i + 1)) (xs (i + 2))).2.1 0) ∧ S' = (S2, S.2.1, z9)) ∧ RR W9 (B + 15) x S2 (oWide S.2.1 (xs (i + 1)) (xs (i + 2))).2 ∧ lApt aM oA S2 ∧ ((oWide S.2.1 (xs (i + 1)) (xs (i + 2))).2.1 0 = 0 → z9 = (oWide S.2.1 (xs (i + 1)) (xs (i + 2))).1.toInt64)) (xCR_SX (n := 4) (ci := 0) hI X hN (semL_wide l hl W9 aM oA) gL_law_L_wide rfl (by decide +kernel) ⟨by omega, by omega⟩) hb (by decide +kernel) rfl rfl rfl (fun ⟨k, q⟩ => by cases q) (by decide) (by show cs + 3 ≤ _; omega) (by show ss + 18 ≤ _; omega) ⟨x, _, _, B, rfl, ⟨hR, hB, hd⟩, fun S2 z9 h1 h2 h3 => ⟨S2, z9, ⟨rfl, rfl⟩, h1, h2, h3⟩⟩ (fun w S' hk1 => ?_) (fun ex S' hk1 => by obtain ⟨_, _, ⟨h, _⟩, _⟩ := hk1; cases h)
  obtain ⟨S2, z9, ⟨e1, rfl⟩, g1, g2, g3⟩ := hk1
  cases e1
  refine wg_is (k := 5) X.1 hb (by decide +kernel) (by omega) ?_
  change wG E W9 A p l e R s m args below meth c 7 1354 (lLv b x (aM 0) oA i (some (.int ((oWide S.2.1 (xs (i + 1)) (xs (i + 2))).2.1 0))) v) [] (S2, S.2.1, z9) (cs + 3) (ss + 18)
  refine wg_aln (u := 2) (k := 2) X.1 hb (by decide +kernel) rfl rfl ?_
  refine wl_arg (n := 1) (z := 1) (i := i) X hb hX hbl hbA rfl rfl (by decide +kernel) (by decide +kernel) (by decide +kernel) (by decide +kernel) (by decide +kernel) (by decide +kernel) (by omega) hL (by omega) (by omega) (by show 1 + (0) ≤ 8; omega) ?_
  change wG E W9 A p l e R s m args below meth c 7 1361 (lLv b x (aM 0) oA i (some (.int ((oWide S.2.1 (xs (i + 1)) (xs (i + 2))).2.1 0))) v) [.int (xs (i + 1)), .ref (aM 0)] (S2, S.2.1, z9) (cs + 3) (ss + 18)
  refine wl_arg (n := 2) (z := 2) (i := i) X hb hX hbl hbA rfl rfl (by decide +kernel) (by decide +kernel) (by decide +kernel) (by decide +kernel) (by decide +kernel) (by decide +kernel) (by omega) hL (by omega) (by omega) (by show 1 + (1 + (0)) ≤ 8; omega) ?_
  change wG E W9 A p l e R s m args below meth c 7 1367 (lLv b x (aM 0) oA i (some (.int ((oWide S.2.1 (xs (i + 1)) (xs (i + 2))).2.1 0))) v) [.int (xs (i + 2)), .int (xs (i + 1)), .ref (aM 0)] (S2, S.2.1, z9) (cs + 3) (ss + 18)
  refine wg_call (i := .invokevirtual 186) (len := 3) (av := [.ref (aM 0), .int (xs (i + 1)), .int (xs (i + 2))]) (rest := []) (KF := fun r S' => r = rI (oWide S.2.1 (xs (i + 1)) (xs (i + 2))).1 ∧ S' = (S2, (oWide S.2.1 (xs (i + 1)) (xs (i + 2))).2, z9)) (xCR_VM (n := 2) (ci := 9) hI ho X (semX8_wide l W9 aM hi9) gL_law_X8_wide rfl rfl (by decide +kernel) ⟨by omega, by omega⟩) hb (by decide +kernel) rfl rfl rfl (fun _ => Or.inr (by rw [hI]; exact Or.inr ⟨rfl, rfl, ho 0 (by omega)⟩)) (by decide) (by show (cs + 3) + 0 ≤ _; omega) (by show (ss + 18) + 0 ≤ _; omega) (lM_mk (N_wide hall ⟨rfl, rfl⟩)) (fun w S' hk2 => ?_) (fun ex S' hk2 => by cases hk2.1)
  obtain ⟨e2, rfl⟩ := hk2
  cases e2
  refine wg_is (k := 6) X.1 hb (by decide +kernel) (by omega) ?_
  change wG E W9 A p l e R s m args below meth c 7 1372 (lLv b x (aM 0) oA i (some (.int ((oWide S.2.1 (xs (i + 1)) (xs (i + 2))).2.1 0))) (some (.int (oWide S.2.1 (xs (i + 1)) (xs (i + 2))).1))) [] (S2, (oWide S.2.1 (xs (i + 1)) (xs (i + 2))).2, z9) (cs + 3) (ss + 18)
  refine wl_th (k5 := (oWide S.2.1 (xs (i + 1)) (xs (i + 2))).2.1 0) hI hi9 ho X hb ⟨by omega, by omega⟩ rfl rfl rfl (by omega) (by omega) (by decide +kernel) (by decide +kernel) (by decide +kernel) (by decide +kernel) ?_
  change wG E W9 A p l e R s m args below meth c 7 1383 (lLv b x (aM 0) oA i (some (.int ((oWide S.2.1 (xs (i + 1)) (xs (i + 2))).2.1 0))) (some (.int (oWide S.2.1 (xs (i + 1)) (xs (i + 2))).1))) [] (S2, (oWide S.2.1 (xs (i + 1)) (xs (i + 2))).2, z9) (cs + 3) (ss + 18)
  refine wl_cmp (k5 := (oWide S.2.1 (xs (i + 1)) (xs (i + 2))).2.1 0) (v6 := (oWide S.2.1 (xs (i + 1)) (xs (i + 2))).1) hI X hb rfl rfl rfl g3 (by omega) (by omega) (by decide +kernel) (by decide +kernel) (by decide +kernel) (by decide +kernel) (by decide +kernel) (by decide +kernel) (by decide +kernel) (by decide +kernel) (by decide +kernel) ?_
  change wG E W9 A p l e R s m args below meth c 7 1400 (lLv b x (aM 0) oA i (some (.int ((oWide S.2.1 (xs (i + 1)) (xs (i + 2))).2.1 0))) (some (.int (oWide S.2.1 (xs (i + 1)) (xs (i + 2))).1))) [] (S2, (oWide S.2.1 (xs (i + 1)) (xs (i + 2))).2, z9) (cs + 3) (ss + 18)
  refine wg_goto (z := 2574) (n2 := 1174) X.1 hb (by decide +kernel) (by decide) ?_
  exact hk _ _ _ _ _ g1 g2 (by omega) (by omega)
set_option maxHeartbeats 1000000 in
set_option maxRecDepth 20000 in
theorem lc_couple (hl : l.stackTraces = false) (Z : lZ E W9 A p R s m args c b L xs aM oA) (hi : i + 7 ≤ L) (hR : RR W9 B x S.1 S.2.1) (hB : B + 15 ≤ 8000) (hd : lApt aM oA S.1) (c1 : cs + 290 ≤ R.cells) (c2 : ss + 9660 ≤ R.slots) (hk : lNx E W9 A p l e R s m args below meth c b x aM oA i B cs ss) : wG E W9 A p l e R s m args below meth c 7 1403 (lLv b x (aM 0) oA i u v) [] S cs ss := by
  obtain ⟨⟨hI, hi9, ho⟩, X, hb, hN, ⟨hX, hbl, hbA, hL⟩, r1, r2⟩ := Z
  have hall : iAll S.2.1 := by
    obtain ⟨_, _, _, h⟩ := hR
    exact h.2.2.1
  refine wg_aln (u := 1) (k := 1) X.1 hb (by decide +kernel) rfl rfl ?_
  refine wl_arg (n := 1) (z := 1) (i := i) X hb hX hbl hbA rfl rfl (by decide +kernel) (by decide +kernel) (by decide +kernel) (by decide +kernel) (by decide +kernel) (by decide +kernel) (by omega) hL (by omega) (by omega) (by show 1 + (0) ≤ 8; omega) ?_
  change wG E W9 A p l e R s m args below meth c 7 1410 (lLv b x (aM 0) oA i u v) [.int (xs (i + 1)), .ref x] S cs ss
  refine wl_arg (n := 2) (z := 2) (i := i) X hb hX hbl hbA rfl rfl (by decide +kernel) (by decide +kernel) (by decide +kernel) (by decide +kernel) (by decide +kernel) (by decide +kernel) (by omega) hL (by omega) (by omega) (by show 1 + (1 + (0)) ≤ 8; omega) ?_
  change wG E W9 A p l e R s m args below meth c 7 1416 (lLv b x (aM 0) oA i u v) [.int (xs (i + 2)), .int (xs (i + 1)), .ref x] S cs ss
  refine wg_aln (u := 3) (k := 3) X.1 hb (by decide +kernel) rfl rfl ?_
  refine wg_call (i := .invokestatic 187) (len := 3) (av := [.ref x, .int (xs (i + 1)), .int (xs (i + 2)), .ref oA]) (rest := []) (KF := fun r S' => ∃ S2 z9, (r = rI ((oCouple S.2.1 (xs (i + 1)) (xs (i + 2))).2.1 0) ∧ S' = (S2, S.2.1, z9)) ∧ RR W9 (B + 15) x S2 (oCouple S.2.1 (xs (i + 1)) (xs (i + 2))).2 ∧ lApt aM oA S2 ∧ ((oCouple S.2.1 (xs (i + 1)) (xs (i + 2))).2.1 0 = 0 → z9 = (oCouple S.2.1 (xs (i + 1)) (xs (i + 2))).1.toInt64)) (xCR_SX (n := 4) (ci := 0) hI X hN (semL_couple l hl W9 aM oA) gL_law_L_couple rfl (by decide +kernel) ⟨by omega, by omega⟩) hb (by decide +kernel) rfl rfl rfl (fun ⟨k, q⟩ => by cases q) (by decide) (by show cs + 7 ≤ _; omega) (by show ss + 136 ≤ _; omega) ⟨x, _, _, B, rfl, ⟨hR, hB, hd⟩, fun S2 z9 h1 h2 h3 => ⟨S2, z9, ⟨rfl, rfl⟩, h1, h2, h3⟩⟩ (fun w S' hk1 => ?_) (fun ex S' hk1 => by obtain ⟨_, _, ⟨h, _⟩, _⟩ := hk1; cases h)
  obtain ⟨S2, z9, ⟨e1, rfl⟩, g1, g2, g3⟩ := hk1
  cases e1
  refine wg_is (k := 5) X.1 hb (by decide +kernel) (by omega) ?_
  change wG E W9 A p l e R s m args below meth c 7 1422 (lLv b x (aM 0) oA i (some (.int ((oCouple S.2.1 (xs (i + 1)) (xs (i + 2))).2.1 0))) v) [] (S2, S.2.1, z9) (cs + 7) (ss + 136)
  refine wg_aln (u := 2) (k := 2) X.1 hb (by decide +kernel) rfl rfl ?_
  refine wl_arg (n := 1) (z := 1) (i := i) X hb hX hbl hbA rfl rfl (by decide +kernel) (by decide +kernel) (by decide +kernel) (by decide +kernel) (by decide +kernel) (by decide +kernel) (by omega) hL (by omega) (by omega) (by show 1 + (0) ≤ 8; omega) ?_
  change wG E W9 A p l e R s m args below meth c 7 1429 (lLv b x (aM 0) oA i (some (.int ((oCouple S.2.1 (xs (i + 1)) (xs (i + 2))).2.1 0))) v) [.int (xs (i + 1)), .ref (aM 0)] (S2, S.2.1, z9) (cs + 7) (ss + 136)
  refine wl_arg (n := 2) (z := 2) (i := i) X hb hX hbl hbA rfl rfl (by decide +kernel) (by decide +kernel) (by decide +kernel) (by decide +kernel) (by decide +kernel) (by decide +kernel) (by omega) hL (by omega) (by omega) (by show 1 + (1 + (0)) ≤ 8; omega) ?_
  change wG E W9 A p l e R s m args below meth c 7 1435 (lLv b x (aM 0) oA i (some (.int ((oCouple S.2.1 (xs (i + 1)) (xs (i + 2))).2.1 0))) v) [.int (xs (i + 2)), .int (xs (i + 1)), .ref (aM 0)] (S2, S.2.1, z9) (cs + 7) (ss + 136)
  refine wg_call (i := .invokevirtual 189) (len := 3) (av := [.ref (aM 0), .int (xs (i + 1)), .int (xs (i + 2))]) (rest := []) (KF := fun r S' => r = rI (oCouple S.2.1 (xs (i + 1)) (xs (i + 2))).1 ∧ S' = (S2, (oCouple S.2.1 (xs (i + 1)) (xs (i + 2))).2, z9)) (xCR_VM (n := 2) (ci := 9) hI ho X (semX8_couple l W9 aM hi9) gL_law_X8_couple rfl rfl (by decide +kernel) ⟨by omega, by omega⟩) hb (by decide +kernel) rfl rfl rfl (fun _ => Or.inr (by rw [hI]; exact Or.inr ⟨rfl, rfl, ho 0 (by omega)⟩)) (by decide) (by show (cs + 7) + 0 ≤ _; omega) (by show (ss + 136) + 0 ≤ _; omega) (lM_mk (N_couple hall ⟨rfl, rfl⟩)) (fun w S' hk2 => ?_) (fun ex S' hk2 => by cases hk2.1)
  obtain ⟨e2, rfl⟩ := hk2
  cases e2
  refine wg_is (k := 6) X.1 hb (by decide +kernel) (by omega) ?_
  change wG E W9 A p l e R s m args below meth c 7 1440 (lLv b x (aM 0) oA i (some (.int ((oCouple S.2.1 (xs (i + 1)) (xs (i + 2))).2.1 0))) (some (.int (oCouple S.2.1 (xs (i + 1)) (xs (i + 2))).1))) [] (S2, (oCouple S.2.1 (xs (i + 1)) (xs (i + 2))).2, z9) (cs + 7) (ss + 136)
  refine wl_th (k5 := (oCouple S.2.1 (xs (i + 1)) (xs (i + 2))).2.1 0) hI hi9 ho X hb ⟨by omega, by omega⟩ rfl rfl rfl (by omega) (by omega) (by decide +kernel) (by decide +kernel) (by decide +kernel) (by decide +kernel) ?_
  change wG E W9 A p l e R s m args below meth c 7 1451 (lLv b x (aM 0) oA i (some (.int ((oCouple S.2.1 (xs (i + 1)) (xs (i + 2))).2.1 0))) (some (.int (oCouple S.2.1 (xs (i + 1)) (xs (i + 2))).1))) [] (S2, (oCouple S.2.1 (xs (i + 1)) (xs (i + 2))).2, z9) (cs + 7) (ss + 136)
  refine wl_cmp (k5 := (oCouple S.2.1 (xs (i + 1)) (xs (i + 2))).2.1 0) (v6 := (oCouple S.2.1 (xs (i + 1)) (xs (i + 2))).1) hI X hb rfl rfl rfl g3 (by omega) (by omega) (by decide +kernel) (by decide +kernel) (by decide +kernel) (by decide +kernel) (by decide +kernel) (by decide +kernel) (by decide +kernel) (by decide +kernel) (by decide +kernel) ?_
  change wG E W9 A p l e R s m args below meth c 7 1468 (lLv b x (aM 0) oA i (some (.int ((oCouple S.2.1 (xs (i + 1)) (xs (i + 2))).2.1 0))) (some (.int (oCouple S.2.1 (xs (i + 1)) (xs (i + 2))).1))) [] (S2, (oCouple S.2.1 (xs (i + 1)) (xs (i + 2))).2, z9) (cs + 7) (ss + 136)
  refine wg_goto (z := 2574) (n2 := 1106) X.1 hb (by decide +kernel) (by decide) ?_
  exact hk _ _ _ _ _ g1 g2 (by omega) (by omega)
end LK
