/-! The law's own body: its cases, on. -/
section LK
variable {E : xEnv lS} {W9 : xWd} {A : Nat → Prop} {aM : Nat → Nat} {oA : Nat}
variable {p : Program} {l : Launch} {e : Env} {R : Room} {s : State} {m : MethodId} {args : Array Value} {below : List Frame} {meth : Method} {c : Code}
variable {b L i x B : Nat} {xs : Nat → Int32} {u v : Option Value} {S : lS} {cs ss : Nat}
set_option maxHeartbeats 1000000 in
set_option maxRecDepth 20000 in
theorem lc_drop (hl : l.stackTraces = false) (Z : lZ E W9 A p R s m args c b L xs aM oA) (hi : i + 7 ≤ L) (hR : RR W9 B x S.1 S.2.1) (hB : B + 15 ≤ 8000) (hd : lApt aM oA S.1) (c1 : cs + 290 ≤ R.cells) (c2 : ss + 9660 ≤ R.slots) (hk : lNx E W9 A p l e R s m args below meth c b x aM oA i B cs ss) : wG E W9 A p l e R s m args below meth c 7 1471 (lLv b x (aM 0) oA i u v) [] S cs ss := by
  obtain ⟨⟨hI, hi9, ho⟩, X, hb, hN, ⟨hX, hbl, hbA, hL⟩, r1, r2⟩ := Z
  have hall : iAll S.2.1 := by
    obtain ⟨_, _, _, h⟩ := hR
    exact h.2.2.1
  refine wg_aln (u := 1) (k := 1) X.1 hb (by decide +kernel) rfl rfl ?_
  refine wl_arg (n := 1) (z := 1) (i := i) X hb hX hbl hbA rfl rfl (by decide +kernel) (by decide +kernel) (by decide +kernel) (by decide +kernel) (by decide +kernel) (by decide +kernel) (by omega) hL (by omega) (by omega) (by show 1 + (0) ≤ 8; omega) ?_
  change wG E W9 A p l e R s m args below meth c 7 1478 (lLv b x (aM 0) oA i u v) [.int (xs (i + 1)), .ref x] S cs ss
  refine wl_arg (n := 2) (z := 2) (i := i) X hb hX hbl hbA rfl rfl (by decide +kernel) (by decide +kernel) (by decide +kernel) (by decide +kernel) (by decide +kernel) (by decide +kernel) (by omega) hL (by omega) (by omega) (by show 1 + (1 + (0)) ≤ 8; omega) ?_
  change wG E W9 A p l e R s m args below meth c 7 1484 (lLv b x (aM 0) oA i u v) [.int (xs (i + 2)), .int (xs (i + 1)), .ref x] S cs ss
  refine wl_arg (n := 3) (z := 3) (i := i) X hb hX hbl hbA rfl rfl (by decide +kernel) (by decide +kernel) (by decide +kernel) (by decide +kernel) (by decide +kernel) (by decide +kernel) (by omega) hL (by omega) (by omega) (by show 1 + (1 + (1 + (0))) ≤ 8; omega) ?_
  change wG E W9 A p l e R s m args below meth c 7 1490 (lLv b x (aM 0) oA i u v) [.int (xs (i + 3)), .int (xs (i + 2)), .int (xs (i + 1)), .ref x] S cs ss
  refine wg_aln (u := 3) (k := 3) X.1 hb (by decide +kernel) rfl rfl ?_
  refine wg_call (i := .invokestatic 190) (len := 3) (av := [.ref x, .int (xs (i + 1)), .int (xs (i + 2)), .int (xs (i + 3)), .ref oA]) (rest := []) (KF := fun r S' => ∃ S2 z9, (r = rI ((oDrop S.2.1 (xs (i + 1)) (xs (i + 2)) (xs (i + 3))).2.1 0) ∧ S' = (S2, S.2.1, z9)) ∧ RR W9 (B + 15) x S2 (oDrop S.2.1 (xs (i + 1)) (xs (i + 2)) (xs (i + 3))).2 ∧ lApt aM oA S2 ∧ ((oDrop S.2.1 (xs (i + 1)) (xs (i + 2)) (xs (i + 3))).2.1 0 = 0 → z9 = (oDrop S.2.1 (xs (i + 1)) (xs (i + 2)) (xs (i + 3))).1.toInt64)) (xCR_SX (n := 5) (ci := 0) hI X hN (semL_drop l hl W9 aM oA) gL_law_L_drop rfl (by decide +kernel) ⟨by omega, by omega⟩) hb (by decide +kernel) rfl rfl rfl (fun ⟨k, q⟩ => by cases q) (by decide) (by show cs + 11 ≤ _; omega) (by show ss + 160 ≤ _; omega) ⟨x, _, _, _, B, rfl, ⟨hR, hB, hd⟩, fun S2 z9 h1 h2 h3 => ⟨S2, z9, ⟨rfl, rfl⟩, h1, h2, h3⟩⟩ (fun w S' hk1 => ?_) (fun ex S' hk1 => by obtain ⟨_, _, ⟨h, _⟩, _⟩ := hk1; cases h)
  obtain ⟨S2, z9, ⟨e1, rfl⟩, g1, g2, g3⟩ := hk1
  cases e1
  refine wg_is (k := 5) X.1 hb (by decide +kernel) (by omega) ?_
  change wG E W9 A p l e R s m args below meth c 7 1496 (lLv b x (aM 0) oA i (some (.int ((oDrop S.2.1 (xs (i + 1)) (xs (i + 2)) (xs (i + 3))).2.1 0))) v) [] (S2, S.2.1, z9) (cs + 11) (ss + 160)
  refine wg_aln (u := 2) (k := 2) X.1 hb (by decide +kernel) rfl rfl ?_
  refine wl_arg (n := 1) (z := 1) (i := i) X hb hX hbl hbA rfl rfl (by decide +kernel) (by decide +kernel) (by decide +kernel) (by decide +kernel) (by decide +kernel) (by decide +kernel) (by omega) hL (by omega) (by omega) (by show 1 + (0) ≤ 8; omega) ?_
  change wG E W9 A p l e R s m args below meth c 7 1503 (lLv b x (aM 0) oA i (some (.int ((oDrop S.2.1 (xs (i + 1)) (xs (i + 2)) (xs (i + 3))).2.1 0))) v) [.int (xs (i + 1)), .ref (aM 0)] (S2, S.2.1, z9) (cs + 11) (ss + 160)
  refine wl_arg (n := 2) (z := 2) (i := i) X hb hX hbl hbA rfl rfl (by decide +kernel) (by decide +kernel) (by decide +kernel) (by decide +kernel) (by decide +kernel) (by decide +kernel) (by omega) hL (by omega) (by omega) (by show 1 + (1 + (0)) ≤ 8; omega) ?_
  change wG E W9 A p l e R s m args below meth c 7 1509 (lLv b x (aM 0) oA i (some (.int ((oDrop S.2.1 (xs (i + 1)) (xs (i + 2)) (xs (i + 3))).2.1 0))) v) [.int (xs (i + 2)), .int (xs (i + 1)), .ref (aM 0)] (S2, S.2.1, z9) (cs + 11) (ss + 160)
  refine wl_arg (n := 3) (z := 3) (i := i) X hb hX hbl hbA rfl rfl (by decide +kernel) (by decide +kernel) (by decide +kernel) (by decide +kernel) (by decide +kernel) (by decide +kernel) (by omega) hL (by omega) (by omega) (by show 1 + (1 + (1 + (0))) ≤ 8; omega) ?_
  change wG E W9 A p l e R s m args below meth c 7 1515 (lLv b x (aM 0) oA i (some (.int ((oDrop S.2.1 (xs (i + 1)) (xs (i + 2)) (xs (i + 3))).2.1 0))) v) [.int (xs (i + 3)), .int (xs (i + 2)), .int (xs (i + 1)), .ref (aM 0)] (S2, S.2.1, z9) (cs + 11) (ss + 160)
  refine wg_call (i := .invokevirtual 192) (len := 3) (av := [.ref (aM 0), .int (xs (i + 1)), .int (xs (i + 2)), .int (xs (i + 3))]) (rest := []) (KF := fun r S' => r = rI (oDrop S.2.1 (xs (i + 1)) (xs (i + 2)) (xs (i + 3))).1 ∧ S' = (S2, (oDrop S.2.1 (xs (i + 1)) (xs (i + 2)) (xs (i + 3))).2, z9)) (xCR_VM (n := 3) (ci := 9) hI ho X (semX8_dropB l W9 aM hi9) gL_law_X8_drop rfl rfl (by decide +kernel) ⟨by omega, by omega⟩) hb (by decide +kernel) rfl rfl rfl (fun _ => Or.inr (by rw [hI]; exact Or.inr ⟨rfl, rfl, ho 0 (by omega)⟩)) (by decide) (by show (cs + 11) + 0 ≤ _; omega) (by show (ss + 160) + 0 ≤ _; omega) (lM_mk (N_dropB hall ⟨rfl, rfl⟩)) (fun w S' hk2 => ?_) (fun ex S' hk2 => by cases hk2.1)
  obtain ⟨e2, rfl⟩ := hk2
  cases e2
  refine wg_is (k := 6) X.1 hb (by decide +kernel) (by omega) ?_
  change wG E W9 A p l e R s m args below meth c 7 1520 (lLv b x (aM 0) oA i (some (.int ((oDrop S.2.1 (xs (i + 1)) (xs (i + 2)) (xs (i + 3))).2.1 0))) (some (.int (oDrop S.2.1 (xs (i + 1)) (xs (i + 2)) (xs (i + 3))).1))) [] (S2, (oDrop S.2.1 (xs (i + 1)) (xs (i + 2)) (xs (i + 3))).2, z9) (cs + 11) (ss + 160)
  refine wl_th (k5 := (oDrop S.2.1 (xs (i + 1)) (xs (i + 2)) (xs (i + 3))).2.1 0) hI hi9 ho X hb ⟨by omega, by omega⟩ rfl rfl rfl (by omega) (by omega) (by decide +kernel) (by decide +kernel) (by decide +kernel) (by decide +kernel) ?_
  change wG E W9 A p l e R s m args below meth c 7 1531 (lLv b x (aM 0) oA i (some (.int ((oDrop S.2.1 (xs (i + 1)) (xs (i + 2)) (xs (i + 3))).2.1 0))) (some (.int (oDrop S.2.1 (xs (i + 1)) (xs (i + 2)) (xs (i + 3))).1))) [] (S2, (oDrop S.2.1 (xs (i + 1)) (xs (i + 2)) (xs (i + 3))).2, z9) (cs + 11) (ss + 160)
  refine wl_cmp (k5 := (oDrop S.2.1 (xs (i + 1)) (xs (i + 2)) (xs (i + 3))).2.1 0) (v6 := (oDrop S.2.1 (xs (i + 1)) (xs (i + 2)) (xs (i + 3))).1) hI X hb rfl rfl rfl g3 (by omega) (by omega) (by decide +kernel) (by decide +kernel) (by decide +kernel) (by decide +kernel) (by decide +kernel) (by decide +kernel) (by decide +kernel) (by decide +kernel) (by decide +kernel) ?_
  change wG E W9 A p l e R s m args below meth c 7 1548 (lLv b x (aM 0) oA i (some (.int ((oDrop S.2.1 (xs (i + 1)) (xs (i + 2)) (xs (i + 3))).2.1 0))) (some (.int (oDrop S.2.1 (xs (i + 1)) (xs (i + 2)) (xs (i + 3))).1))) [] (S2, (oDrop S.2.1 (xs (i + 1)) (xs (i + 2)) (xs (i + 3))).2, z9) (cs + 11) (ss + 160)
  refine wg_goto (z := 2574) (n2 := 1026) X.1 hb (by decide +kernel) (by decide) ?_
  exact hk _ _ _ _ _ g1 g2 (by omega) (by omega)
set_option maxHeartbeats 1000000 in
set_option maxRecDepth 20000 in
theorem lc_radio (hl : l.stackTraces = false) (Z : lZ E W9 A p R s m args c b L xs aM oA) (hi : i + 7 ≤ L) (hR : RR W9 B x S.1 S.2.1) (hB : B + 15 ≤ 8000) (hd : lApt aM oA S.1) (c1 : cs + 290 ≤ R.cells) (c2 : ss + 9660 ≤ R.slots) (hk : lNx E W9 A p l e R s m args below meth c b x aM oA i B cs ss) : wG E W9 A p l e R s m args below meth c 7 1551 (lLv b x (aM 0) oA i u v) [] S cs ss := by
  obtain ⟨⟨hI, hi9, ho⟩, X, hb, hN, ⟨hX, hbl, hbA, hL⟩, r1, r2⟩ := Z
  have hall : iAll S.2.1 := by
    obtain ⟨_, _, _, h⟩ := hR
    exact h.2.2.1
  refine wg_aln (u := 1) (k := 1) X.1 hb (by decide +kernel) rfl rfl ?_
  refine wl_arg (n := 1) (z := 1) (i := i) X hb hX hbl hbA rfl rfl (by decide +kernel) (by decide +kernel) (by decide +kernel) (by decide +kernel) (by decide +kernel) (by decide +kernel) (by omega) hL (by omega) (by omega) (by show 1 + (0) ≤ 8; omega) ?_
  change wG E W9 A p l e R s m args below meth c 7 1558 (lLv b x (aM 0) oA i u v) [.int (xs (i + 1)), .ref x] S cs ss
  refine wl_arg (n := 2) (z := 2) (i := i) X hb hX hbl hbA rfl rfl (by decide +kernel) (by decide +kernel) (by decide +kernel) (by decide +kernel) (by decide +kernel) (by decide +kernel) (by omega) hL (by omega) (by omega) (by show 1 + (1 + (0)) ≤ 8; omega) ?_
  change wG E W9 A p l e R s m args below meth c 7 1564 (lLv b x (aM 0) oA i u v) [.int (xs (i + 2)), .int (xs (i + 1)), .ref x] S cs ss
  refine wl_arg (n := 3) (z := 3) (i := i) X hb hX hbl hbA rfl rfl (by decide +kernel) (by decide +kernel) (by decide +kernel) (by decide +kernel) (by decide +kernel) (by decide +kernel) (by omega) hL (by omega) (by omega) (by show 1 + (1 + (1 + (0))) ≤ 8; omega) ?_
  change wG E W9 A p l e R s m args below meth c 7 1570 (lLv b x (aM 0) oA i u v) [.int (xs (i + 3)), .int (xs (i + 2)), .int (xs (i + 1)), .ref x] S cs ss
  refine wl_bool X.1 hb (by decide +kernel) (by decide +kernel) (by decide +kernel) (by decide +kernel) ?_
  change wG E W9 A p l e R s m args below meth c 7 1578 (lLv b x (aM 0) oA i u v) [.int (if xs (i + 3) = 0 then 0 else 1), .int (xs (i + 2)), .int (xs (i + 1)), .ref x] S cs ss
  refine wg_aln (u := 3) (k := 3) X.1 hb (by decide +kernel) rfl rfl ?_
  refine wg_call (i := .invokestatic 193) (len := 3) (av := [.ref x, .int (xs (i + 1)), .int (xs (i + 2)), .int (if xs (i + 3) = 0 then 0 else 1), .ref oA]) (rest := []) (KF := fun r S' => ∃ S2 z9, (r = rI ((oRadio S.2.1 (xs (i + 1)) (xs (i + 2)) (if xs (i + 3) = 0 then 0 else 1)).2.1 0) ∧ S' = (S2, S.2.1, z9)) ∧ RR W9 (B + 15) x S2 (oRadio S.2.1 (xs (i + 1)) (xs (i + 2)) (if xs (i + 3) = 0 then 0 else 1)).2 ∧ lApt aM oA S2 ∧ ((oRadio S.2.1 (xs (i + 1)) (xs (i + 2)) (if xs (i + 3) = 0 then 0 else 1)).2.1 0 = 0 → z9 = (if (oRadio S.2.1 (xs (i + 1)) (xs (i + 2)) (if xs (i + 3) = 0 then 0 else 1)).1 = 0 then 0 else 1))) (xCR_SX (n := 5) (ci := 0) hI X hN (semL_radio l hl W9 aM oA) gL_law_L_radio rfl (by decide +kernel) ⟨by omega, by omega⟩) hb (by decide +kernel) rfl rfl rfl (fun ⟨k, q⟩ => by cases q) (by decide) (by show cs + 3 ≤ _; omega) (by show ss + 18 ≤ _; omega) ⟨x, _, _, _, B, rfl, wl_b01, ⟨hR, hB, hd⟩, fun S2 z9 h1 h2 h3 => ⟨S2, z9, ⟨rfl, rfl⟩, h1, h2, h3⟩⟩ (fun w S' hk1 => ?_) (fun ex S' hk1 => by obtain ⟨_, _, ⟨h, _⟩, _⟩ := hk1; cases h)
  obtain ⟨S2, z9, ⟨e1, rfl⟩, g1, g2, g3⟩ := hk1
  cases e1
  refine wg_is (k := 5) X.1 hb (by decide +kernel) (by omega) ?_
  change wG E W9 A p l e R s m args below meth c 7 1584 (lLv b x (aM 0) oA i (some (.int ((oRadio S.2.1 (xs (i + 1)) (xs (i + 2)) (if xs (i + 3) = 0 then 0 else 1)).2.1 0))) v) [] (S2, S.2.1, z9) (cs + 3) (ss + 18)
  refine wg_aln (u := 2) (k := 2) X.1 hb (by decide +kernel) rfl rfl ?_
  refine wl_arg (n := 1) (z := 1) (i := i) X hb hX hbl hbA rfl rfl (by decide +kernel) (by decide +kernel) (by decide +kernel) (by decide +kernel) (by decide +kernel) (by decide +kernel) (by omega) hL (by omega) (by omega) (by show 1 + (0) ≤ 8; omega) ?_
  change wG E W9 A p l e R s m args below meth c 7 1591 (lLv b x (aM 0) oA i (some (.int ((oRadio S.2.1 (xs (i + 1)) (xs (i + 2)) (if xs (i + 3) = 0 then 0 else 1)).2.1 0))) v) [.int (xs (i + 1)), .ref (aM 0)] (S2, S.2.1, z9) (cs + 3) (ss + 18)
  refine wl_arg (n := 2) (z := 2) (i := i) X hb hX hbl hbA rfl rfl (by decide +kernel) (by decide +kernel) (by decide +kernel) (by decide +kernel) (by decide +kernel) (by decide +kernel) (by omega) hL (by omega) (by omega) (by show 1 + (1 + (0)) ≤ 8; omega) ?_
  change wG E W9 A p l e R s m args below meth c 7 1597 (lLv b x (aM 0) oA i (some (.int ((oRadio S.2.1 (xs (i + 1)) (xs (i + 2)) (if xs (i + 3) = 0 then 0 else 1)).2.1 0))) v) [.int (xs (i + 2)), .int (xs (i + 1)), .ref (aM 0)] (S2, S.2.1, z9) (cs + 3) (ss + 18)
  refine wl_arg (n := 3) (z := 3) (i := i) X hb hX hbl hbA rfl rfl (by decide +kernel) (by decide +kernel) (by decide +kernel) (by decide +kernel) (by decide +kernel) (by decide +kernel) (by omega) hL (by omega) (by omega) (by show 1 + (1 + (1 + (0))) ≤ 8; omega) ?_
  change wG E W9 A p l e R s m args below meth c 7 1603 (lLv b x (aM 0) oA i (some (.int ((oRadio S.2.1 (xs (i + 1)) (xs (i + 2)) (if xs (i + 3) = 0 then 0 else 1)).2.1 0))) v) [.int (xs (i + 3)), .int (xs (i + 2)), .int (xs (i + 1)), .ref (aM 0)] (S2, S.2.1, z9) (cs + 3) (ss + 18)
  refine wl_bool X.1 hb (by decide +kernel) (by decide +kernel) (by decide +kernel) (by decide +kernel) ?_
  change wG E W9 A p l e R s m args below meth c 7 1611 (lLv b x (aM 0) oA i (some (.int ((oRadio S.2.1 (xs (i + 1)) (xs (i + 2)) (if xs (i + 3) = 0 then 0 else 1)).2.1 0))) v) [.int (if xs (i + 3) = 0 then 0 else 1), .int (xs (i + 2)), .int (xs (i + 1)), .ref (aM 0)] (S2, S.2.1, z9) (cs + 3) (ss + 18)
  refine wg_call (i := .invokevirtual 195) (len := 3) (av := [.ref (aM 0), .int (xs (i + 1)), .int (xs (i + 2)), .int (if xs (i + 3) = 0 then 0 else 1)]) (rest := []) (KF := fun r S' => r = rI (oRadio S.2.1 (xs (i + 1)) (xs (i + 2)) (if xs (i + 3) = 0 then 0 else 1)).1 ∧ S' = (S2, (oRadio S.2.1 (xs (i + 1)) (xs (i + 2)) (if xs (i + 3) = 0 then 0 else 1)).2, z9)) (xCR_VM (n := 3) (ci := 9) hI ho X (semX8_radio l W9 aM hi9) gL_law_X8_radio rfl rfl (by decide +kernel) ⟨by omega, by omega⟩) hb (by decide +kernel) rfl rfl rfl (fun _ => Or.inr (by rw [hI]; exact Or.inr ⟨rfl, rfl, ho 0 (by omega)⟩)) (by decide) (by show (cs + 3) + 0 ≤ _; omega) (by show (ss + 18) + 0 ≤ _; omega) (lM_mk (N_radio hall wl_b01 ⟨rfl, rfl⟩)) (fun w S' hk2 => ?_) (fun ex S' hk2 => by cases hk2.1)
  obtain ⟨e2, rfl⟩ := hk2
  cases e2
  refine wg_is (k := 6) X.1 hb (by decide +kernel) (by omega) ?_
  change wG E W9 A p l e R s m args below meth c 7 1616 (lLv b x (aM 0) oA i (some (.int ((oRadio S.2.1 (xs (i + 1)) (xs (i + 2)) (if xs (i + 3) = 0 then 0 else 1)).2.1 0))) (some (.int (oRadio S.2.1 (xs (i + 1)) (xs (i + 2)) (if xs (i + 3) = 0 then 0 else 1)).1))) [] (S2, (oRadio S.2.1 (xs (i + 1)) (xs (i + 2)) (if xs (i + 3) = 0 then 0 else 1)).2, z9) (cs + 3) (ss + 18)
  refine wl_th (k5 := (oRadio S.2.1 (xs (i + 1)) (xs (i + 2)) (if xs (i + 3) = 0 then 0 else 1)).2.1 0) hI hi9 ho X hb ⟨by omega, by omega⟩ rfl rfl rfl (by omega) (by omega) (by decide +kernel) (by decide +kernel) (by decide +kernel) (by decide +kernel) ?_
  change wG E W9 A p l e R s m args below meth c 7 1627 (lLv b x (aM 0) oA i (some (.int ((oRadio S.2.1 (xs (i + 1)) (xs (i + 2)) (if xs (i + 3) = 0 then 0 else 1)).2.1 0))) (some (.int (oRadio S.2.1 (xs (i + 1)) (xs (i + 2)) (if xs (i + 3) = 0 then 0 else 1)).1))) [] (S2, (oRadio S.2.1 (xs (i + 1)) (xs (i + 2)) (if xs (i + 3) = 0 then 0 else 1)).2, z9) (cs + 3) (ss + 18)
  refine wl_radc (k5 := (oRadio S.2.1 (xs (i + 1)) (xs (i + 2)) (if xs (i + 3) = 0 then 0 else 1)).2.1 0) (v6 := (oRadio S.2.1 (xs (i + 1)) (xs (i + 2)) (if xs (i + 3) = 0 then 0 else 1)).1) hI X hb rfl rfl rfl g3 (by omega) (by omega) (by decide +kernel) (by decide +kernel) (by decide +kernel) (by decide +kernel) (by decide +kernel) (by decide +kernel) (by decide +kernel) (by decide +kernel) (by decide +kernel) (by decide +kernel) (by decide +kernel) (by decide +kernel) ?_
  change wG E W9 A p l e R s m args below meth c 7 1651 (lLv b x (aM 0) oA i (some (.int ((oRadio S.2.1 (xs (i + 1)) (xs (i + 2)) (if xs (i + 3) = 0 then 0 else 1)).2.1 0))) (some (.int (oRadio S.2.1 (xs (i + 1)) (xs (i + 2)) (if xs (i + 3) = 0 then 0 else 1)).1))) [] (S2, (oRadio S.2.1 (xs (i + 1)) (xs (i + 2)) (if xs (i + 3) = 0 then 0 else 1)).2, z9) (cs + 3) (ss + 18)
  refine wg_goto (z := 2574) (n2 := 923) X.1 hb (by decide +kernel) (by decide) ?_
  exact hk _ _ _ _ _ g1 g2 (by omega) (by omega)
set_option maxHeartbeats 1000000 in
set_option maxRecDepth 20000 in
theorem lc_go (hl : l.stackTraces = false) (Z : lZ E W9 A p R s m args c b L xs aM oA) (hi : i + 7 ≤ L) (hR : RR W9 B x S.1 S.2.1) (hB : B + 15 ≤ 8000) (hd : lApt aM oA S.1) (c1 : cs + 290 ≤ R.cells) (c2 : ss + 9660 ≤ R.slots) (hk : lNx E W9 A p l e R s m args below meth c b x aM oA i B cs ss) : wG E W9 A p l e R s m args below meth c 7 1654 (lLv b x (aM 0) oA i u v) [] S cs ss := by
  obtain ⟨⟨hI, hi9, ho⟩, X, hb, hN, ⟨hX, hbl, hbA, hL⟩, r1, r2⟩ := Z
  have hall : iAll S.2.1 := by
    obtain ⟨_, _, _, h⟩ := hR
    exact h.2.2.1
  refine wg_aln (u := 1) (k := 1) X.1 hb (by decide +kernel) rfl rfl ?_
  refine wl_arg (n := 1) (z := 1) (i := i) X hb hX hbl hbA rfl rfl (by decide +kernel) (by decide +kernel) (by decide +kernel) (by decide +kernel) (by decide +kernel) (by decide +kernel) (by omega) hL (by omega) (by omega) (by show 1 + (0) ≤ 8; omega) ?_
  change wG E W9 A p l e R s m args below meth c 7 1661 (lLv b x (aM 0) oA i u v) [.int (xs (i + 1)), .ref x] S cs ss
  refine wl_arg (n := 2) (z := 2) (i := i) X hb hX hbl hbA rfl rfl (by decide +kernel) (by decide +kernel) (by decide +kernel) (by decide +kernel) (by decide +kernel) (by decide +kernel) (by omega) hL (by omega) (by omega) (by show 1 + (1 + (0)) ≤ 8; omega) ?_
  change wG E W9 A p l e R s m args below meth c 7 1667 (lLv b x (aM 0) oA i u v) [.int (xs (i + 2)), .int (xs (i + 1)), .ref x] S cs ss
  refine wg_aln (u := 3) (k := 3) X.1 hb (by decide +kernel) rfl rfl ?_
  refine wg_call (i := .invokestatic 196) (len := 3) (av := [.ref x, .int (xs (i + 1)), .int (xs (i + 2)), .ref oA]) (rest := []) (KF := fun r S' => ∃ S2 z9, (r = rI ((oGo S.2.1 (xs (i + 1)) (xs (i + 2))).2.1 0) ∧ S' = (S2, S.2.1, z9)) ∧ RR W9 (B + 15) x S2 (oGo S.2.1 (xs (i + 1)) (xs (i + 2))).2 ∧ lApt aM oA S2 ∧ ((oGo S.2.1 (xs (i + 1)) (xs (i + 2))).2.1 0 = 0 → z9 = (oGo S.2.1 (xs (i + 1)) (xs (i + 2))).1.toInt64)) (xCR_SX (n := 4) (ci := 0) hI X hN (semL_go l hl W9 aM oA) gL_law_L_go rfl (by decide +kernel) ⟨by omega, by omega⟩) hb (by decide +kernel) rfl rfl rfl (fun ⟨k, q⟩ => by cases q) (by decide) (by show cs + 2 ≤ _; omega) (by show ss + 12 ≤ _; omega) ⟨x, _, _, B, rfl, ⟨hR, hB, hd⟩, fun S2 z9 h1 h2 h3 => ⟨S2, z9, ⟨rfl, rfl⟩, h1, h2, h3⟩⟩ (fun w S' hk1 => ?_) (fun ex S' hk1 => by obtain ⟨_, _, ⟨h, _⟩, _⟩ := hk1; cases h)
  obtain ⟨S2, z9, ⟨e1, rfl⟩, g1, g2, g3⟩ := hk1
  cases e1
  refine wg_is (k := 5) X.1 hb (by decide +kernel) (by omega) ?_
  change wG E W9 A p l e R s m args below meth c 7 1673 (lLv b x (aM 0) oA i (some (.int ((oGo S.2.1 (xs (i + 1)) (xs (i + 2))).2.1 0))) v) [] (S2, S.2.1, z9) (cs + 2) (ss + 12)
  refine wg_aln (u := 2) (k := 2) X.1 hb (by decide +kernel) rfl rfl ?_
  refine wl_arg (n := 1) (z := 1) (i := i) X hb hX hbl hbA rfl rfl (by decide +kernel) (by decide +kernel) (by decide +kernel) (by decide +kernel) (by decide +kernel) (by decide +kernel) (by omega) hL (by omega) (by omega) (by show 1 + (0) ≤ 8; omega) ?_
  change wG E W9 A p l e R s m args below meth c 7 1680 (lLv b x (aM 0) oA i (some (.int ((oGo S.2.1 (xs (i + 1)) (xs (i + 2))).2.1 0))) v) [.int (xs (i + 1)), .ref (aM 0)] (S2, S.2.1, z9) (cs + 2) (ss + 12)
  refine wl_arg (n := 2) (z := 2) (i := i) X hb hX hbl hbA rfl rfl (by decide +kernel) (by decide +kernel) (by decide +kernel) (by decide +kernel) (by decide +kernel) (by decide +kernel) (by omega) hL (by omega) (by omega) (by show 1 + (1 + (0)) ≤ 8; omega) ?_
  change wG E W9 A p l e R s m args below meth c 7 1686 (lLv b x (aM 0) oA i (some (.int ((oGo S.2.1 (xs (i + 1)) (xs (i + 2))).2.1 0))) v) [.int (xs (i + 2)), .int (xs (i + 1)), .ref (aM 0)] (S2, S.2.1, z9) (cs + 2) (ss + 12)
  refine wg_call (i := .invokevirtual 198) (len := 3) (av := [.ref (aM 0), .int (xs (i + 1)), .int (xs (i + 2))]) (rest := []) (KF := fun r S' => r = rI (oGo S.2.1 (xs (i + 1)) (xs (i + 2))).1 ∧ S' = (S2, (oGo S.2.1 (xs (i + 1)) (xs (i + 2))).2, z9)) (xCR_VM (n := 2) (ci := 9) hI ho X (semX8_go l W9 aM hi9) gL_law_X8_go rfl rfl (by decide +kernel) ⟨by omega, by omega⟩) hb (by decide +kernel) rfl rfl rfl (fun _ => Or.inr (by rw [hI]; exact Or.inr ⟨rfl, rfl, ho 0 (by omega)⟩)) (by decide) (by show (cs + 2) + 0 ≤ _; omega) (by show (ss + 12) + 0 ≤ _; omega) (lM_mk (N_go hall ⟨rfl, rfl⟩)) (fun w S' hk2 => ?_) (fun ex S' hk2 => by cases hk2.1)
  obtain ⟨e2, rfl⟩ := hk2
  cases e2
  refine wg_is (k := 6) X.1 hb (by decide +kernel) (by omega) ?_
  change wG E W9 A p l e R s m args below meth c 7 1691 (lLv b x (aM 0) oA i (some (.int ((oGo S.2.1 (xs (i + 1)) (xs (i + 2))).2.1 0))) (some (.int (oGo S.2.1 (xs (i + 1)) (xs (i + 2))).1))) [] (S2, (oGo S.2.1 (xs (i + 1)) (xs (i + 2))).2, z9) (cs + 2) (ss + 12)
  refine wl_th (k5 := (oGo S.2.1 (xs (i + 1)) (xs (i + 2))).2.1 0) hI hi9 ho X hb ⟨by omega, by omega⟩ rfl rfl rfl (by omega) (by omega) (by decide +kernel) (by decide +kernel) (by decide +kernel) (by decide +kernel) ?_
  change wG E W9 A p l e R s m args below meth c 7 1702 (lLv b x (aM 0) oA i (some (.int ((oGo S.2.1 (xs (i + 1)) (xs (i + 2))).2.1 0))) (some (.int (oGo S.2.1 (xs (i + 1)) (xs (i + 2))).1))) [] (S2, (oGo S.2.1 (xs (i + 1)) (xs (i + 2))).2, z9) (cs + 2) (ss + 12)
  refine wl_cmp (k5 := (oGo S.2.1 (xs (i + 1)) (xs (i + 2))).2.1 0) (v6 := (oGo S.2.1 (xs (i + 1)) (xs (i + 2))).1) hI X hb rfl rfl rfl g3 (by omega) (by omega) (by decide +kernel) (by decide +kernel) (by decide +kernel) (by decide +kernel) (by decide +kernel) (by decide +kernel) (by decide +kernel) (by decide +kernel) (by decide +kernel) ?_
  change wG E W9 A p l e R s m args below meth c 7 1719 (lLv b x (aM 0) oA i (some (.int ((oGo S.2.1 (xs (i + 1)) (xs (i + 2))).2.1 0))) (some (.int (oGo S.2.1 (xs (i + 1)) (xs (i + 2))).1))) [] (S2, (oGo S.2.1 (xs (i + 1)) (xs (i + 2))).2, z9) (cs + 2) (ss + 12)
  refine wg_goto (z := 2574) (n2 := 855) X.1 hb (by decide +kernel) (by decide) ?_
  exact hk _ _ _ _ _ g1 g2 (by omega) (by omega)
set_option maxHeartbeats 1000000 in
set_option maxRecDepth 20000 in
theorem lc_pass (hl : l.stackTraces = false) (Z : lZ E W9 A p R s m args c b L xs aM oA) (hi : i + 7 ≤ L) (hR : RR W9 B x S.1 S.2.1) (hB : B + 15 ≤ 8000) (hd : lApt aM oA S.1) (c1 : cs + 290 ≤ R.cells) (c2 : ss + 9660 ≤ R.slots) (hk : lNx E W9 A p l e R s m args below meth c b x aM oA i B cs ss) : wG E W9 A p l e R s m args below meth c 7 1722 (lLv b x (aM 0) oA i u v) [] S cs ss := by
  obtain ⟨⟨hI, hi9, ho⟩, X, hb, hN, ⟨hX, hbl, hbA, hL⟩, r1, r2⟩ := Z
  have hall : iAll S.2.1 := by
    obtain ⟨_, _, _, h⟩ := hR
    exact h.2.2.1
  refine wg_aln (u := 1) (k := 1) X.1 hb (by decide +kernel) rfl rfl ?_
  refine wl_arg (n := 1) (z := 1) (i := i) X hb hX hbl hbA rfl rfl (by decide +kernel) (by decide +kernel) (by decide +kernel) (by decide +kernel) (by decide +kernel) (by decide +kernel) (by omega) hL (by omega) (by omega) (by show 1 + (0) ≤ 8; omega) ?_
  change wG E W9 A p l e R s m args below meth c 7 1729 (lLv b x (aM 0) oA i u v) [.int (xs (i + 1)), .ref x] S cs ss
  refine wg_aln (u := 3) (k := 3) X.1 hb (by decide +kernel) rfl rfl ?_
  refine wg_call (i := .invokestatic 199) (len := 3) (av := [.ref x, .int (xs (i + 1)), .ref oA]) (rest := []) (KF := fun r S' => ∃ S2 z9, (r = rI ((oPass S.2.1 (xs (i + 1))).2.1 0) ∧ S' = (S2, S.2.1, z9)) ∧ RR W9 (B + 15) x S2 (oPass S.2.1 (xs (i + 1))).2 ∧ lApt aM oA S2 ∧ ((oPass S.2.1 (xs (i + 1))).2.1 0 = 0 → z9 = (oPass S.2.1 (xs (i + 1))).1.toInt64)) (xCR_SX (n := 3) (ci := 0) hI X hN (semL_pass l hl W9 aM oA) gL_law_L_pass rfl (by decide +kernel) ⟨by omega, by omega⟩) hb (by decide +kernel) rfl rfl rfl (fun ⟨k, q⟩ => by cases q) (by decide) (by show cs + 290 ≤ _; omega) (by show ss + 9660 ≤ _; omega) ⟨x, _, B, rfl, ⟨hR, hB, hd⟩, fun S2 z9 h1 h2 h3 => ⟨S2, z9, ⟨rfl, rfl⟩, h1, h2, h3⟩⟩ (fun w S' hk1 => ?_) (fun ex S' hk1 => by obtain ⟨_, _, ⟨h, _⟩, _⟩ := hk1; cases h)
  obtain ⟨S2, z9, ⟨e1, rfl⟩, g1, g2, g3⟩ := hk1
  cases e1
  refine wg_is (k := 5) X.1 hb (by decide +kernel) (by omega) ?_
  change wG E W9 A p l e R s m args below meth c 7 1735 (lLv b x (aM 0) oA i (some (.int ((oPass S.2.1 (xs (i + 1))).2.1 0))) v) [] (S2, S.2.1, z9) (cs + 290) (ss + 9660)
  refine wg_aln (u := 2) (k := 2) X.1 hb (by decide +kernel) rfl rfl ?_
  refine wl_arg (n := 1) (z := 1) (i := i) X hb hX hbl hbA rfl rfl (by decide +kernel) (by decide +kernel) (by decide +kernel) (by decide +kernel) (by decide +kernel) (by decide +kernel) (by omega) hL (by omega) (by omega) (by show 1 + (0) ≤ 8; omega) ?_
  change wG E W9 A p l e R s m args below meth c 7 1742 (lLv b x (aM 0) oA i (some (.int ((oPass S.2.1 (xs (i + 1))).2.1 0))) v) [.int (xs (i + 1)), .ref (aM 0)] (S2, S.2.1, z9) (cs + 290) (ss + 9660)
  refine wg_call (i := .invokevirtual 201) (len := 3) (av := [.ref (aM 0), .int (xs (i + 1))]) (rest := []) (KF := fun r S' => r = rI (oPass S.2.1 (xs (i + 1))).1 ∧ S' = (S2, (oPass S.2.1 (xs (i + 1))).2, z9)) (xCR_VM (n := 1) (ci := 9) hI ho X (semX8_pass l W9 aM hi9) gL_law_X8_pass rfl rfl (by decide +kernel) ⟨by omega, by omega⟩) hb (by decide +kernel) rfl rfl rfl (fun _ => Or.inr (by rw [hI]; exact Or.inr ⟨rfl, rfl, ho 0 (by omega)⟩)) (by decide) (by show (cs + 290) + 0 ≤ _; omega) (by show (ss + 9660) + 0 ≤ _; omega) (lM_mk (N_pass hall ⟨rfl, rfl⟩)) (fun w S' hk2 => ?_) (fun ex S' hk2 => by cases hk2.1)
  obtain ⟨e2, rfl⟩ := hk2
  cases e2
  refine wg_is (k := 6) X.1 hb (by decide +kernel) (by omega) ?_
  change wG E W9 A p l e R s m args below meth c 7 1747 (lLv b x (aM 0) oA i (some (.int ((oPass S.2.1 (xs (i + 1))).2.1 0))) (some (.int (oPass S.2.1 (xs (i + 1))).1))) [] (S2, (oPass S.2.1 (xs (i + 1))).2, z9) (cs + 290) (ss + 9660)
  refine wl_th (k5 := (oPass S.2.1 (xs (i + 1))).2.1 0) hI hi9 ho X hb ⟨by omega, by omega⟩ rfl rfl rfl (by omega) (by omega) (by decide +kernel) (by decide +kernel) (by decide +kernel) (by decide +kernel) ?_
  change wG E W9 A p l e R s m args below meth c 7 1758 (lLv b x (aM 0) oA i (some (.int ((oPass S.2.1 (xs (i + 1))).2.1 0))) (some (.int (oPass S.2.1 (xs (i + 1))).1))) [] (S2, (oPass S.2.1 (xs (i + 1))).2, z9) (cs + 290) (ss + 9660)
  refine wl_cmp (k5 := (oPass S.2.1 (xs (i + 1))).2.1 0) (v6 := (oPass S.2.1 (xs (i + 1))).1) hI X hb rfl rfl rfl g3 (by omega) (by omega) (by decide +kernel) (by decide +kernel) (by decide +kernel) (by decide +kernel) (by decide +kernel) (by decide +kernel) (by decide +kernel) (by decide +kernel) (by decide +kernel) ?_
  change wG E W9 A p l e R s m args below meth c 7 1775 (lLv b x (aM 0) oA i (some (.int ((oPass S.2.1 (xs (i + 1))).2.1 0))) (some (.int (oPass S.2.1 (xs (i + 1))).1))) [] (S2, (oPass S.2.1 (xs (i + 1))).2, z9) (cs + 290) (ss + 9660)
  refine wg_goto (z := 2574) (n2 := 799) X.1 hb (by decide +kernel) (by decide) ?_
  exact hk _ _ _ _ _ g1 g2 (by omega) (by omega)
set_option maxHeartbeats 1000000 in
set_option maxRecDepth 20000 in
theorem lc_water (hl : l.stackTraces = false) (Z : lZ E W9 A p R s m args c b L xs aM oA) (hi : i + 7 ≤ L) (hR : RR W9 B x S.1 S.2.1) (hB : B + 15 ≤ 8000) (hd : lApt aM oA S.1) (c1 : cs + 290 ≤ R.cells) (c2 : ss + 9660 ≤ R.slots) (hk : lNx E W9 A p l e R s m args below meth c b x aM oA i B cs ss) : wG E W9 A p l e R s m args below meth c 7 1778 (lLv b x (aM 0) oA i u v) [] S cs ss := by
  obtain ⟨⟨hI, hi9, ho⟩, X, hb, hN, ⟨hX, hbl, hbA, hL⟩, r1, r2⟩ := Z
  have hall : iAll S.2.1 := by
    obtain ⟨_, _, _, h⟩ := hR
    exact h.2.2.1
  refine wg_aln (u := 1) (k := 1) X.1 hb (by decide +kernel) rfl rfl ?_
  refine wl_arg (n := 1) (z := 1) (i := i) X hb hX hbl hbA rfl rfl (by decide +kernel) (by decide +kernel) (by decide +kernel) (by decide +kernel) (by decide +kernel) (by decide +kernel) (by omega) hL (by omega) (by omega) (by show 1 + (0) ≤ 8; omega) ?_
  change wG E W9 A p l e R s m args below meth c 7 1785 (lLv b x (aM 0) oA i u v) [.int (xs (i + 1)), .ref x] S cs ss
  refine wl_arg (n := 2) (z := 2) (i := i) X hb hX hbl hbA rfl rfl (by decide +kernel) (by decide +kernel) (by decide +kernel) (by decide +kernel) (by decide +kernel) (by decide +kernel) (by omega) hL (by omega) (by omega) (by show 1 + (1 + (0)) ≤ 8; omega) ?_
  change wG E W9 A p l e R s m args below meth c 7 1791 (lLv b x (aM 0) oA i u v) [.int (xs (i + 2)), .int (xs (i + 1)), .ref x] S cs ss
  refine wg_aln (u := 3) (k := 3) X.1 hb (by decide +kernel) rfl rfl ?_
  refine wg_call (i := .invokestatic 202) (len := 3) (av := [.ref x, .int (xs (i + 1)), .int (xs (i + 2)), .ref oA]) (rest := []) (KF := fun r S' => ∃ S2 z9, (r = rI ((oWater S.2.1 (xs (i + 1)) (xs (i + 2))).2.1 0) ∧ S' = (S2, S.2.1, z9)) ∧ RR W9 (B + 15) x S2 (oWater S.2.1 (xs (i + 1)) (xs (i + 2))).2 ∧ lApt aM oA S2 ∧ ((oWater S.2.1 (xs (i + 1)) (xs (i + 2))).2.1 0 = 0 → z9 = (oWater S.2.1 (xs (i + 1)) (xs (i + 2))).1.toInt64)) (xCR_SX (n := 4) (ci := 0) hI X hN (semL_water l hl W9 aM oA) gL_law_L_water rfl (by decide +kernel) ⟨by omega, by omega⟩) hb (by decide +kernel) rfl rfl rfl (fun ⟨k, q⟩ => by cases q) (by decide) (by show cs + 2 ≤ _; omega) (by show ss + 12 ≤ _; omega) ⟨x, _, _, B, rfl, ⟨hR, hB, hd⟩, fun S2 z9 h1 h2 h3 => ⟨S2, z9, ⟨rfl, rfl⟩, h1, h2, h3⟩⟩ (fun w S' hk1 => ?_) (fun ex S' hk1 => by obtain ⟨_, _, ⟨h, _⟩, _⟩ := hk1; cases h)
  obtain ⟨S2, z9, ⟨e1, rfl⟩, g1, g2, g3⟩ := hk1
  cases e1
  refine wg_is (k := 5) X.1 hb (by decide +kernel) (by omega) ?_
  change wG E W9 A p l e R s m args below meth c 7 1797 (lLv b x (aM 0) oA i (some (.int ((oWater S.2.1 (xs (i + 1)) (xs (i + 2))).2.1 0))) v) [] (S2, S.2.1, z9) (cs + 2) (ss + 12)
  refine wg_aln (u := 2) (k := 2) X.1 hb (by decide +kernel) rfl rfl ?_
  refine wl_arg (n := 1) (z := 1) (i := i) X hb hX hbl hbA rfl rfl (by decide +kernel) (by decide +kernel) (by decide +kernel) (by decide +kernel) (by decide +kernel) (by decide +kernel) (by omega) hL (by omega) (by omega) (by show 1 + (0) ≤ 8; omega) ?_
  change wG E W9 A p l e R s m args below meth c 7 1804 (lLv b x (aM 0) oA i (some (.int ((oWater S.2.1 (xs (i + 1)) (xs (i + 2))).2.1 0))) v) [.int (xs (i + 1)), .ref (aM 0)] (S2, S.2.1, z9) (cs + 2) (ss + 12)
  refine wl_arg (n := 2) (z := 2) (i := i) X hb hX hbl hbA rfl rfl (by decide +kernel) (by decide +kernel) (by decide +kernel) (by decide +kernel) (by decide +kernel) (by decide +kernel) (by omega) hL (by omega) (by omega) (by show 1 + (1 + (0)) ≤ 8; omega) ?_
  change wG E W9 A p l e R s m args below meth c 7 1810 (lLv b x (aM 0) oA i (some (.int ((oWater S.2.1 (xs (i + 1)) (xs (i + 2))).2.1 0))) v) [.int (xs (i + 2)), .int (xs (i + 1)), .ref (aM 0)] (S2, S.2.1, z9) (cs + 2) (ss + 12)
  refine wg_call (i := .invokevirtual 204) (len := 3) (av := [.ref (aM 0), .int (xs (i + 1)), .int (xs (i + 2))]) (rest := []) (KF := fun r S' => r = rI (oWater S.2.1 (xs (i + 1)) (xs (i + 2))).1 ∧ S' = (S2, (oWater S.2.1 (xs (i + 1)) (xs (i + 2))).2, z9)) (xCR_VM (n := 2) (ci := 9) hI ho X (semX8_water l W9 aM hi9) gL_law_X8_water rfl rfl (by decide +kernel) ⟨by omega, by omega⟩) hb (by decide +kernel) rfl rfl rfl (fun _ => Or.inr (by rw [hI]; exact Or.inr ⟨rfl, rfl, ho 0 (by omega)⟩)) (by decide) (by show (cs + 2) + 0 ≤ _; omega) (by show (ss + 12) + 0 ≤ _; omega) (lM_mk (N_water hall ⟨rfl, rfl⟩)) (fun w S' hk2 => ?_) (fun ex S' hk2 => by cases hk2.1)
  obtain ⟨e2, rfl⟩ := hk2
  cases e2
  refine wg_is (k := 6) X.1 hb (by decide +kernel) (by omega) ?_
  change wG E W9 A p l e R s m args below meth c 7 1815 (lLv b x (aM 0) oA i (some (.int ((oWater S.2.1 (xs (i + 1)) (xs (i + 2))).2.1 0))) (some (.int (oWater S.2.1 (xs (i + 1)) (xs (i + 2))).1))) [] (S2, (oWater S.2.1 (xs (i + 1)) (xs (i + 2))).2, z9) (cs + 2) (ss + 12)
  refine wl_th (k5 := (oWater S.2.1 (xs (i + 1)) (xs (i + 2))).2.1 0) hI hi9 ho X hb ⟨by omega, by omega⟩ rfl rfl rfl (by omega) (by omega) (by decide +kernel) (by decide +kernel) (by decide +kernel) (by decide +kernel) ?_
  change wG E W9 A p l e R s m args below meth c 7 1826 (lLv b x (aM 0) oA i (some (.int ((oWater S.2.1 (xs (i + 1)) (xs (i + 2))).2.1 0))) (some (.int (oWater S.2.1 (xs (i + 1)) (xs (i + 2))).1))) [] (S2, (oWater S.2.1 (xs (i + 1)) (xs (i + 2))).2, z9) (cs + 2) (ss + 12)
  refine wl_cmp (k5 := (oWater S.2.1 (xs (i + 1)) (xs (i + 2))).2.1 0) (v6 := (oWater S.2.1 (xs (i + 1)) (xs (i + 2))).1) hI X hb rfl rfl rfl g3 (by omega) (by omega) (by decide +kernel) (by decide +kernel) (by decide +kernel) (by decide +kernel) (by decide +kernel) (by decide +kernel) (by decide +kernel) (by decide +kernel) (by decide +kernel) ?_
  change wG E W9 A p l e R s m args below meth c 7 1843 (lLv b x (aM 0) oA i (some (.int ((oWater S.2.1 (xs (i + 1)) (xs (i + 2))).2.1 0))) (some (.int (oWater S.2.1 (xs (i + 1)) (xs (i + 2))).1))) [] (S2, (oWater S.2.1 (xs (i + 1)) (xs (i + 2))).2, z9) (cs + 2) (ss + 12)
  refine wg_goto (z := 2574) (n2 := 731) X.1 hb (by decide +kernel) (by decide) ?_
  exact hk _ _ _ _ _ g1 g2 (by omega) (by omega)
set_option maxHeartbeats 1000000 in
set_option maxRecDepth 20000 in
theorem lc_most (hl : l.stackTraces = false) (Z : lZ E W9 A p R s m args c b L xs aM oA) (hi : i + 7 ≤ L) (hR : RR W9 B x S.1 S.2.1) (hB : B + 15 ≤ 8000) (hd : lApt aM oA S.1) (c1 : cs + 290 ≤ R.cells) (c2 : ss + 9660 ≤ R.slots) (hk : lNx E W9 A p l e R s m args below meth c b x aM oA i B cs ss) : wG E W9 A p l e R s m args below meth c 7 1846 (lLv b x (aM 0) oA i u v) [] S cs ss := by
  obtain ⟨⟨hI, hi9, ho⟩, X, hb, hN, ⟨hX, hbl, hbA, hL⟩, r1, r2⟩ := Z
  have hall : iAll S.2.1 := by
    obtain ⟨_, _, _, h⟩ := hR
    exact h.2.2.1
  refine wg_aln (u := 1) (k := 1) X.1 hb (by decide +kernel) rfl rfl ?_
  refine wl_arg (n := 1) (z := 1) (i := i) X hb hX hbl hbA rfl rfl (by decide +kernel) (by decide +kernel) (by decide +kernel) (by decide +kernel) (by decide +kernel) (by decide +kernel) (by omega) hL (by omega) (by omega) (by show 1 + (0) ≤ 8; omega) ?_
  change wG E W9 A p l e R s m args below meth c 7 1853 (lLv b x (aM 0) oA i u v) [.int (xs (i + 1)), .ref x] S cs ss
  refine wl_arg (n := 2) (z := 2) (i := i) X hb hX hbl hbA rfl rfl (by decide +kernel) (by decide +kernel) (by decide +kernel) (by decide +kernel) (by decide +kernel) (by decide +kernel) (by omega) hL (by omega) (by omega) (by show 1 + (1 + (0)) ≤ 8; omega) ?_
  change wG E W9 A p l e R s m args below meth c 7 1859 (lLv b x (aM 0) oA i u v) [.int (xs (i + 2)), .int (xs (i + 1)), .ref x] S cs ss
  refine wl_bool X.1 hb (by decide +kernel) (by decide +kernel) (by decide +kernel) (by decide +kernel) ?_
  change wG E W9 A p l e R s m args below meth c 7 1867 (lLv b x (aM 0) oA i u v) [.int (if xs (i + 2) = 0 then 0 else 1), .int (xs (i + 1)), .ref x] S cs ss
  refine wg_aln (u := 3) (k := 3) X.1 hb (by decide +kernel) rfl rfl ?_
  refine wg_call (i := .invokestatic 205) (len := 3) (av := [.ref x, .int (xs (i + 1)), .int (if xs (i + 2) = 0 then 0 else 1), .ref oA]) (rest := []) (KF := fun r S' => ∃ S2 z9, (r = rI ((oMost S.2.1 (xs (i + 1)) (if xs (i + 2) = 0 then 0 else 1)).2.1 0) ∧ S' = (S2, S.2.1, z9)) ∧ RR W9 (B + 15) x S2 (oMost S.2.1 (xs (i + 1)) (if xs (i + 2) = 0 then 0 else 1)).2 ∧ lApt aM oA S2 ∧ ((oMost S.2.1 (xs (i + 1)) (if xs (i + 2) = 0 then 0 else 1)).2.1 0 = 0 → z9 = (oMost S.2.1 (xs (i + 1)) (if xs (i + 2) = 0 then 0 else 1)).1.toInt64)) (xCR_SX (n := 4) (ci := 0) hI X hN (semL_most l hl W9 aM oA) gL_law_L_most rfl (by decide +kernel) ⟨by omega, by omega⟩) hb (by decide +kernel) rfl rfl rfl (fun ⟨k, q⟩ => by cases q) (by decide) (by show cs + 1 ≤ _; omega) (by show ss + 6 ≤ _; omega) ⟨x, _, _, B, rfl, wl_b01, ⟨hR, hB, hd⟩, fun S2 z9 h1 h2 h3 => ⟨S2, z9, ⟨rfl, rfl⟩, h1, h2, h3⟩⟩ (fun w S' hk1 => ?_) (fun ex S' hk1 => by obtain ⟨_, _, ⟨h, _⟩, _⟩ := hk1; cases h)
  obtain ⟨S2, z9, ⟨e1, rfl⟩, g1, g2, g3⟩ := hk1
  cases e1
  refine wg_is (k := 5) X.1 hb (by decide +kernel) (by omega) ?_
  change wG E W9 A p l e R s m args below meth c 7 1873 (lLv b x (aM 0) oA i (some (.int ((oMost S.2.1 (xs (i + 1)) (if xs (i + 2) = 0 then 0 else 1)).2.1 0))) v) [] (S2, S.2.1, z9) (cs + 1) (ss + 6)
  refine wg_aln (u := 2) (k := 2) X.1 hb (by decide +kernel) rfl rfl ?_
  refine wl_arg (n := 1) (z := 1) (i := i) X hb hX hbl hbA rfl rfl (by decide +kernel) (by decide +kernel) (by decide +kernel) (by decide +kernel) (by decide +kernel) (by decide +kernel) (by omega) hL (by omega) (by omega) (by show 1 + (0) ≤ 8; omega) ?_
  change wG E W9 A p l e R s m args below meth c 7 1880 (lLv b x (aM 0) oA i (some (.int ((oMost S.2.1 (xs (i + 1)) (if xs (i + 2) = 0 then 0 else 1)).2.1 0))) v) [.int (xs (i + 1)), .ref (aM 0)] (S2, S.2.1, z9) (cs + 1) (ss + 6)
  refine wl_arg (n := 2) (z := 2) (i := i) X hb hX hbl hbA rfl rfl (by decide +kernel) (by decide +kernel) (by decide +kernel) (by decide +kernel) (by decide +kernel) (by decide +kernel) (by omega) hL (by omega) (by omega) (by show 1 + (1 + (0)) ≤ 8; omega) ?_
  change wG E W9 A p l e R s m args below meth c 7 1886 (lLv b x (aM 0) oA i (some (.int ((oMost S.2.1 (xs (i + 1)) (if xs (i + 2) = 0 then 0 else 1)).2.1 0))) v) [.int (xs (i + 2)), .int (xs (i + 1)), .ref (aM 0)] (S2, S.2.1, z9) (cs + 1) (ss + 6)
  refine wl_bool X.1 hb (by decide +kernel) (by decide +kernel) (by decide +kernel) (by decide +kernel) ?_
  change wG E W9 A p l e R s m args below meth c 7 1894 (lLv b x (aM 0) oA i (some (.int ((oMost S.2.1 (xs (i + 1)) (if xs (i + 2) = 0 then 0 else 1)).2.1 0))) v) [.int (if xs (i + 2) = 0 then 0 else 1), .int (xs (i + 1)), .ref (aM 0)] (S2, S.2.1, z9) (cs + 1) (ss + 6)
  refine wg_call (i := .invokevirtual 208) (len := 3) (av := [.ref (aM 0), .int (xs (i + 1)), .int (if xs (i + 2) = 0 then 0 else 1)]) (rest := []) (KF := fun r S' => r = rI (oMost S.2.1 (xs (i + 1)) (if xs (i + 2) = 0 then 0 else 1)).1 ∧ S' = (S2, (oMost S.2.1 (xs (i + 1)) (if xs (i + 2) = 0 then 0 else 1)).2, z9)) (xCR_VM (n := 2) (ci := 9) hI ho X (semX8_most l W9 aM hi9) gL_law_X8_most rfl rfl (by decide +kernel) ⟨by omega, by omega⟩) hb (by decide +kernel) rfl rfl rfl (fun _ => Or.inr (by rw [hI]; exact Or.inr ⟨rfl, rfl, ho 0 (by omega)⟩)) (by decide) (by show (cs + 1) + 0 ≤ _; omega) (by show (ss + 6) + 0 ≤ _; omega) (lM_mk (N_most hall wl_b01 ⟨rfl, rfl⟩)) (fun w S' hk2 => ?_) (fun ex S' hk2 => by cases hk2.1)
  obtain ⟨e2, rfl⟩ := hk2
  cases e2
  refine wg_is (k := 6) X.1 hb (by decide +kernel) (by omega) ?_
  change wG E W9 A p l e R s m args below meth c 7 1899 (lLv b x (aM 0) oA i (some (.int ((oMost S.2.1 (xs (i + 1)) (if xs (i + 2) = 0 then 0 else 1)).2.1 0))) (some (.int (oMost S.2.1 (xs (i + 1)) (if xs (i + 2) = 0 then 0 else 1)).1))) [] (S2, (oMost S.2.1 (xs (i + 1)) (if xs (i + 2) = 0 then 0 else 1)).2, z9) (cs + 1) (ss + 6)
  refine wl_th (k5 := (oMost S.2.1 (xs (i + 1)) (if xs (i + 2) = 0 then 0 else 1)).2.1 0) hI hi9 ho X hb ⟨by omega, by omega⟩ rfl rfl rfl (by omega) (by omega) (by decide +kernel) (by decide +kernel) (by decide +kernel) (by decide +kernel) ?_
  change wG E W9 A p l e R s m args below meth c 7 1910 (lLv b x (aM 0) oA i (some (.int ((oMost S.2.1 (xs (i + 1)) (if xs (i + 2) = 0 then 0 else 1)).2.1 0))) (some (.int (oMost S.2.1 (xs (i + 1)) (if xs (i + 2) = 0 then 0 else 1)).1))) [] (S2, (oMost S.2.1 (xs (i + 1)) (if xs (i + 2) = 0 then 0 else 1)).2, z9) (cs + 1) (ss + 6)
  refine wl_cmp (k5 := (oMost S.2.1 (xs (i + 1)) (if xs (i + 2) = 0 then 0 else 1)).2.1 0) (v6 := (oMost S.2.1 (xs (i + 1)) (if xs (i + 2) = 0 then 0 else 1)).1) hI X hb rfl rfl rfl g3 (by omega) (by omega) (by decide +kernel) (by decide +kernel) (by decide +kernel) (by decide +kernel) (by decide +kernel) (by decide +kernel) (by decide +kernel) (by decide +kernel) (by decide +kernel) ?_
  change wG E W9 A p l e R s m args below meth c 7 1927 (lLv b x (aM 0) oA i (some (.int ((oMost S.2.1 (xs (i + 1)) (if xs (i + 2) = 0 then 0 else 1)).2.1 0))) (some (.int (oMost S.2.1 (xs (i + 1)) (if xs (i + 2) = 0 then 0 else 1)).1))) [] (S2, (oMost S.2.1 (xs (i + 1)) (if xs (i + 2) = 0 then 0 else 1)).2, z9) (cs + 1) (ss + 6)
  refine wg_goto (z := 2574) (n2 := 647) X.1 hb (by decide +kernel) (by decide) ?_
  exact hk _ _ _ _ _ g1 g2 (by omega) (by omega)
set_option maxHeartbeats 1000000 in
set_option maxRecDepth 20000 in
theorem lc_hours (hl : l.stackTraces = false) (Z : lZ E W9 A p R s m args c b L xs aM oA) (hi : i + 7 ≤ L) (hR : RR W9 B x S.1 S.2.1) (hB : B + 15 ≤ 8000) (hd : lApt aM oA S.1) (c1 : cs + 290 ≤ R.cells) (c2 : ss + 9660 ≤ R.slots) (hk : lNx E W9 A p l e R s m args below meth c b x aM oA i B cs ss) : wG E W9 A p l e R s m args below meth c 7 1930 (lLv b x (aM 0) oA i u v) [] S cs ss := by
  obtain ⟨⟨hI, hi9, ho⟩, X, hb, hN, ⟨hX, hbl, hbA, hL⟩, r1, r2⟩ := Z
  have hall : iAll S.2.1 := by
    obtain ⟨_, _, _, h⟩ := hR
    exact h.2.2.1
  refine wg_aln (u := 1) (k := 1) X.1 hb (by decide +kernel) rfl rfl ?_
  refine wl_arg (n := 1) (z := 1) (i := i) X hb hX hbl hbA rfl rfl (by decide +kernel) (by decide +kernel) (by decide +kernel) (by decide +kernel) (by decide +kernel) (by decide +kernel) (by omega) hL (by omega) (by omega) (by show 1 + (0) ≤ 8; omega) ?_
  change wG E W9 A p l e R s m args below meth c 7 1937 (lLv b x (aM 0) oA i u v) [.int (xs (i + 1)), .ref x] S cs ss
  refine wl_arg (n := 2) (z := 2) (i := i) X hb hX hbl hbA rfl rfl (by decide +kernel) (by decide +kernel) (by decide +kernel) (by decide +kernel) (by decide +kernel) (by decide +kernel) (by omega) hL (by omega) (by omega) (by show 1 + (1 + (0)) ≤ 8; omega) ?_
  change wG E W9 A p l e R s m args below meth c 7 1943 (lLv b x (aM 0) oA i u v) [.int (xs (i + 2)), .int (xs (i + 1)), .ref x] S cs ss
  refine wg_aln (u := 3) (k := 3) X.1 hb (by decide +kernel) rfl rfl ?_
  refine wg_call (i := .invokestatic 209) (len := 3) (av := [.ref x, .int (xs (i + 1)), .int (xs (i + 2)), .ref oA]) (rest := []) (KF := fun r S' => ∃ S2 z9, (r = rI ((oHours S.2.1 (xs (i + 1)) (xs (i + 2))).2.1 0) ∧ S' = (S2, S.2.1, z9)) ∧ RR W9 (B + 15) x S2 (oHours S.2.1 (xs (i + 1)) (xs (i + 2))).2 ∧ lApt aM oA S2 ∧ ((oHours S.2.1 (xs (i + 1)) (xs (i + 2))).2.1 0 = 0 → z9 = (oHours S.2.1 (xs (i + 1)) (xs (i + 2))).1.toInt64)) (xCR_SX (n := 4) (ci := 0) hI X hN (semL_hours l hl W9 aM oA) gL_law_L_hours rfl (by decide +kernel) ⟨by omega, by omega⟩) hb (by decide +kernel) rfl rfl rfl (fun ⟨k, q⟩ => by cases q) (by decide) (by show cs + 2 ≤ _; omega) (by show ss + 12 ≤ _; omega) ⟨x, _, _, B, rfl, ⟨hR, hB, hd⟩, fun S2 z9 h1 h2 h3 => ⟨S2, z9, ⟨rfl, rfl⟩, h1, h2, h3⟩⟩ (fun w S' hk1 => ?_) (fun ex S' hk1 => by obtain ⟨_, _, ⟨h, _⟩, _⟩ := hk1; cases h)
  obtain ⟨S2, z9, ⟨e1, rfl⟩, g1, g2, g3⟩ := hk1
  cases e1
  refine wg_is (k := 5) X.1 hb (by decide +kernel) (by omega) ?_
  change wG E W9 A p l e R s m args below meth c 7 1949 (lLv b x (aM 0) oA i (some (.int ((oHours S.2.1 (xs (i + 1)) (xs (i + 2))).2.1 0))) v) [] (S2, S.2.1, z9) (cs + 2) (ss + 12)
  refine wg_aln (u := 2) (k := 2) X.1 hb (by decide +kernel) rfl rfl ?_
  refine wl_arg (n := 1) (z := 1) (i := i) X hb hX hbl hbA rfl rfl (by decide +kernel) (by decide +kernel) (by decide +kernel) (by decide +kernel) (by decide +kernel) (by decide +kernel) (by omega) hL (by omega) (by omega) (by show 1 + (0) ≤ 8; omega) ?_
  change wG E W9 A p l e R s m args below meth c 7 1956 (lLv b x (aM 0) oA i (some (.int ((oHours S.2.1 (xs (i + 1)) (xs (i + 2))).2.1 0))) v) [.int (xs (i + 1)), .ref (aM 0)] (S2, S.2.1, z9) (cs + 2) (ss + 12)
  refine wl_arg (n := 2) (z := 2) (i := i) X hb hX hbl hbA rfl rfl (by decide +kernel) (by decide +kernel) (by decide +kernel) (by decide +kernel) (by decide +kernel) (by decide +kernel) (by omega) hL (by omega) (by omega) (by show 1 + (1 + (0)) ≤ 8; omega) ?_
  change wG E W9 A p l e R s m args below meth c 7 1962 (lLv b x (aM 0) oA i (some (.int ((oHours S.2.1 (xs (i + 1)) (xs (i + 2))).2.1 0))) v) [.int (xs (i + 2)), .int (xs (i + 1)), .ref (aM 0)] (S2, S.2.1, z9) (cs + 2) (ss + 12)
  refine wg_call (i := .invokevirtual 211) (len := 3) (av := [.ref (aM 0), .int (xs (i + 1)), .int (xs (i + 2))]) (rest := []) (KF := fun r S' => r = rI (oHours S.2.1 (xs (i + 1)) (xs (i + 2))).1 ∧ S' = (S2, (oHours S.2.1 (xs (i + 1)) (xs (i + 2))).2, z9)) (xCR_VM (n := 2) (ci := 9) hI ho X (semX8_hours l W9 aM hi9) gL_law_X8_hours rfl rfl (by decide +kernel) ⟨by omega, by omega⟩) hb (by decide +kernel) rfl rfl rfl (fun _ => Or.inr (by rw [hI]; exact Or.inr ⟨rfl, rfl, ho 0 (by omega)⟩)) (by decide) (by show (cs + 2) + 0 ≤ _; omega) (by show (ss + 12) + 0 ≤ _; omega) (lM_mk (N_hours hall ⟨rfl, rfl⟩)) (fun w S' hk2 => ?_) (fun ex S' hk2 => by cases hk2.1)
  obtain ⟨e2, rfl⟩ := hk2
  cases e2
  refine wg_is (k := 6) X.1 hb (by decide +kernel) (by omega) ?_
  change wG E W9 A p l e R s m args below meth c 7 1967 (lLv b x (aM 0) oA i (some (.int ((oHours S.2.1 (xs (i + 1)) (xs (i + 2))).2.1 0))) (some (.int (oHours S.2.1 (xs (i + 1)) (xs (i + 2))).1))) [] (S2, (oHours S.2.1 (xs (i + 1)) (xs (i + 2))).2, z9) (cs + 2) (ss + 12)
  refine wl_th (k5 := (oHours S.2.1 (xs (i + 1)) (xs (i + 2))).2.1 0) hI hi9 ho X hb ⟨by omega, by omega⟩ rfl rfl rfl (by omega) (by omega) (by decide +kernel) (by decide +kernel) (by decide +kernel) (by decide +kernel) ?_
  change wG E W9 A p l e R s m args below meth c 7 1978 (lLv b x (aM 0) oA i (some (.int ((oHours S.2.1 (xs (i + 1)) (xs (i + 2))).2.1 0))) (some (.int (oHours S.2.1 (xs (i + 1)) (xs (i + 2))).1))) [] (S2, (oHours S.2.1 (xs (i + 1)) (xs (i + 2))).2, z9) (cs + 2) (ss + 12)
  refine wl_cmp (k5 := (oHours S.2.1 (xs (i + 1)) (xs (i + 2))).2.1 0) (v6 := (oHours S.2.1 (xs (i + 1)) (xs (i + 2))).1) hI X hb rfl rfl rfl g3 (by omega) (by omega) (by decide +kernel) (by decide +kernel) (by decide +kernel) (by decide +kernel) (by decide +kernel) (by decide +kernel) (by decide +kernel) (by decide +kernel) (by decide +kernel) ?_
  change wG E W9 A p l e R s m args below meth c 7 1995 (lLv b x (aM 0) oA i (some (.int ((oHours S.2.1 (xs (i + 1)) (xs (i + 2))).2.1 0))) (some (.int (oHours S.2.1 (xs (i + 1)) (xs (i + 2))).1))) [] (S2, (oHours S.2.1 (xs (i + 1)) (xs (i + 2))).2, z9) (cs + 2) (ss + 12)
  refine wg_goto (z := 2574) (n2 := 579) X.1 hb (by decide +kernel) (by decide) ?_
  exact hk _ _ _ _ _ g1 g2 (by omega) (by omega)
set_option maxHeartbeats 1000000 in
set_option maxRecDepth 20000 in
theorem lc_bars (hl : l.stackTraces = false) (Z : lZ E W9 A p R s m args c b L xs aM oA) (hi : i + 7 ≤ L) (hR : RR W9 B x S.1 S.2.1) (hB : B + 15 ≤ 8000) (hd : lApt aM oA S.1) (c1 : cs + 290 ≤ R.cells) (c2 : ss + 9660 ≤ R.slots) (hk : lNx E W9 A p l e R s m args below meth c b x aM oA i B cs ss) : wG E W9 A p l e R s m args below meth c 7 1998 (lLv b x (aM 0) oA i u v) [] S cs ss := by
  obtain ⟨⟨hI, hi9, ho⟩, X, hb, hN, ⟨hX, hbl, hbA, hL⟩, r1, r2⟩ := Z
  have hall : iAll S.2.1 := by
    obtain ⟨_, _, _, h⟩ := hR
    exact h.2.2.1
  refine wg_aln (u := 1) (k := 1) X.1 hb (by decide +kernel) rfl rfl ?_
  refine wl_arg (n := 1) (z := 1) (i := i) X hb hX hbl hbA rfl rfl (by decide +kernel) (by decide +kernel) (by decide +kernel) (by decide +kernel) (by decide +kernel) (by decide +kernel) (by omega) hL (by omega) (by omega) (by show 1 + (0) ≤ 8; omega) ?_
  change wG E W9 A p l e R s m args below meth c 7 2005 (lLv b x (aM 0) oA i u v) [.int (xs (i + 1)), .ref x] S cs ss
  refine wg_aln (u := 3) (k := 3) X.1 hb (by decide +kernel) rfl rfl ?_
  refine wg_call (i := .invokestatic 212) (len := 3) (av := [.ref x, .int (xs (i + 1)), .ref oA]) (rest := []) (KF := fun r S' => ∃ S2 z9, (r = rI ((oBars S.2.1 (xs (i + 1))).2.1 0) ∧ S' = (S2, S.2.1, z9)) ∧ RR W9 (B + 15) x S2 (oBars S.2.1 (xs (i + 1))).2 ∧ lApt aM oA S2 ∧ ((oBars S.2.1 (xs (i + 1))).2.1 0 = 0 → z9 = (oBars S.2.1 (xs (i + 1))).1.toInt64)) (xCR_SX (n := 3) (ci := 0) hI X hN (semL_bars l hl W9 aM oA) gL_law_L_bars rfl (by decide +kernel) ⟨by omega, by omega⟩) hb (by decide +kernel) rfl rfl rfl (fun ⟨k, q⟩ => by cases q) (by decide) (by show cs + 1 ≤ _; omega) (by show ss + 6 ≤ _; omega) ⟨x, _, B, rfl, ⟨hR, hB, hd⟩, fun S2 z9 h1 h2 h3 => ⟨S2, z9, ⟨rfl, rfl⟩, h1, h2, h3⟩⟩ (fun w S' hk1 => ?_) (fun ex S' hk1 => by obtain ⟨_, _, ⟨h, _⟩, _⟩ := hk1; cases h)
  obtain ⟨S2, z9, ⟨e1, rfl⟩, g1, g2, g3⟩ := hk1
  cases e1
  refine wg_is (k := 5) X.1 hb (by decide +kernel) (by omega) ?_
  change wG E W9 A p l e R s m args below meth c 7 2011 (lLv b x (aM 0) oA i (some (.int ((oBars S.2.1 (xs (i + 1))).2.1 0))) v) [] (S2, S.2.1, z9) (cs + 1) (ss + 6)
  refine wg_aln (u := 2) (k := 2) X.1 hb (by decide +kernel) rfl rfl ?_
  refine wl_arg (n := 1) (z := 1) (i := i) X hb hX hbl hbA rfl rfl (by decide +kernel) (by decide +kernel) (by decide +kernel) (by decide +kernel) (by decide +kernel) (by decide +kernel) (by omega) hL (by omega) (by omega) (by show 1 + (0) ≤ 8; omega) ?_
  change wG E W9 A p l e R s m args below meth c 7 2018 (lLv b x (aM 0) oA i (some (.int ((oBars S.2.1 (xs (i + 1))).2.1 0))) v) [.int (xs (i + 1)), .ref (aM 0)] (S2, S.2.1, z9) (cs + 1) (ss + 6)
  refine wg_call (i := .invokevirtual 214) (len := 3) (av := [.ref (aM 0), .int (xs (i + 1))]) (rest := []) (KF := fun r S' => r = rI (oBars S.2.1 (xs (i + 1))).1 ∧ S' = (S2, (oBars S.2.1 (xs (i + 1))).2, z9)) (xCR_VM (n := 1) (ci := 9) hI ho X (semX8_bars l W9 aM hi9) gL_law_X8_bars rfl rfl (by decide +kernel) ⟨by omega, by omega⟩) hb (by decide +kernel) rfl rfl rfl (fun _ => Or.inr (by rw [hI]; exact Or.inr ⟨rfl, rfl, ho 0 (by omega)⟩)) (by decide) (by show (cs + 1) + 0 ≤ _; omega) (by show (ss + 6) + 0 ≤ _; omega) (lM_mk (N_bars hall ⟨rfl, rfl⟩)) (fun w S' hk2 => ?_) (fun ex S' hk2 => by cases hk2.1)
  obtain ⟨e2, rfl⟩ := hk2
  cases e2
  refine wg_is (k := 6) X.1 hb (by decide +kernel) (by omega) ?_
  change wG E W9 A p l e R s m args below meth c 7 2023 (lLv b x (aM 0) oA i (some (.int ((oBars S.2.1 (xs (i + 1))).2.1 0))) (some (.int (oBars S.2.1 (xs (i + 1))).1))) [] (S2, (oBars S.2.1 (xs (i + 1))).2, z9) (cs + 1) (ss + 6)
  refine wl_th (k5 := (oBars S.2.1 (xs (i + 1))).2.1 0) hI hi9 ho X hb ⟨by omega, by omega⟩ rfl rfl rfl (by omega) (by omega) (by decide +kernel) (by decide +kernel) (by decide +kernel) (by decide +kernel) ?_
  change wG E W9 A p l e R s m args below meth c 7 2034 (lLv b x (aM 0) oA i (some (.int ((oBars S.2.1 (xs (i + 1))).2.1 0))) (some (.int (oBars S.2.1 (xs (i + 1))).1))) [] (S2, (oBars S.2.1 (xs (i + 1))).2, z9) (cs + 1) (ss + 6)
  refine wl_cmp (k5 := (oBars S.2.1 (xs (i + 1))).2.1 0) (v6 := (oBars S.2.1 (xs (i + 1))).1) hI X hb rfl rfl rfl g3 (by omega) (by omega) (by decide +kernel) (by decide +kernel) (by decide +kernel) (by decide +kernel) (by decide +kernel) (by decide +kernel) (by decide +kernel) (by decide +kernel) (by decide +kernel) ?_
  change wG E W9 A p l e R s m args below meth c 7 2051 (lLv b x (aM 0) oA i (some (.int ((oBars S.2.1 (xs (i + 1))).2.1 0))) (some (.int (oBars S.2.1 (xs (i + 1))).1))) [] (S2, (oBars S.2.1 (xs (i + 1))).2, z9) (cs + 1) (ss + 6)
  refine wg_goto (z := 2574) (n2 := 523) X.1 hb (by decide +kernel) (by decide) ?_
  exact hk _ _ _ _ _ g1 g2 (by omega) (by omega)
end LK
