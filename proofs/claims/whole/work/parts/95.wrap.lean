/-! The law: the wrappers, each with its answer and what it catches. -/
abbrev lE (aM : Nat → Nat) (oA mc ms : Nat) (KF : xRes → lS → Prop) : xEnv lS := (lI aM oA, fun _ => none, fun _ _ => none, fun _ => "", mc, ms, KF, fun _ => none, fun _ => none)

section LQ
variable {E : xEnv lS} {W9 : xWd} {A : Nat → Prop} {aM : Nat → Nat} {oA : Nat}
variable {p : Program} {l : Launch} {e : Env} {R : Room} {s : State} {m : MethodId} {args : Array Value} {below : List Frame} {meth : Method} {c : Code} {nL : Nat} {own : String} {ws : List Jvm.Cond}
variable {cc : ByteArray} {pc : Nat} {lv : xLv} {st : List Value} {S : lS} {cs ss : Nat}
theorem wg_ifeq {x : Int32} {n2 : Int} {t : Nat} (hx : p.tables.exec = Jvm.exec) (hb : c.code = cc) (hd : decode cc pc = .ok (.ifCond .eq n2, 3)) (ht : (pc : Int) + n2 = (t : Int)) (h1 : x = 0 → wG E W9 A p l e R s m args below meth c nL t lv st S cs ss) (h2 : ¬ x = 0 → wG E W9 A p l e R s m args below meth c nL (pc + 3) lv st S cs ss) : wG E W9 A p l e R s m args below meth c nL pc lv (.int x :: st) S cs ss := by
  intro H locs ls hlv hR hO hS
  subst hb
  exact lv_if_eq hx rfl hd ht (fun q => h1 q H locs ls hlv hR hO hS) (fun q => h2 q H locs ls hlv hR hO hS)
theorem wg_goto {n2 : Int} {z : Nat} (hx : p.tables.exec = Jvm.exec) (hb : c.code = cc) (hd : decode cc pc = .ok (.goto n2, 3)) (hz : (pc : Int) + n2 = (z : Int)) (h : wG E W9 A p l e R s m args below meth c nL z lv st S cs ss) : wG E W9 A p l e R s m args below meth c nL pc lv st S cs ss := by
  intro H locs ls hlv hR hO hS
  subst hb
  exact lv_goto hx rfl hd hz (h H locs ls hlv hR hO hS)
theorem wg_rad {v : Int64} (X : xCtxL W9 E A p s m args c nL own ws) (hb : c.code = cc) (hr : meth.sig.returnType = some .int) (hl : meth.locks = false) (d1 : decode cc 18 = .ok (.lastore, 1)) (d2 : decode cc 19 = .ok (.goto 11, 3)) (d3 : decode cc 30 = .ok (.iconst 0, 1)) (d4 : decode cc 31 = .ok (.ireturn, 1))
    (h1 : cs ≤ eMc E) (h2 : ss ≤ eMs E) (hI : eI E = lI aM oA) (r1 : eMc E = R.cells) (r2 : eMs E = R.slots) (h : eF E (rI 0) (S.1, S.2.1, v)) : wG E W9 A p l e R s m args below meth c nL 18 lv [.long v, .int 0, .ref oA] S cs ss := by
  refine wg_call (av := [.ref oA, .int 0, .long v]) (rest := []) (KF := fun r S2 => r = rV ∧ S2 = (S.1, S.2.1, v)) (xCR_lst (ci := 0) hI X) hb d1 rfl rfl rfl (fun ⟨k, q⟩ => by cases q) (by decide) (by show cs + 0 ≤ _; omega) (by show ss + 0 ≤ _; omega) ⟨_, rfl, rfl, rfl⟩ (fun w S2 hk => ?_) (fun ex S' hk => by cases hk.1)
  obtain ⟨e2, rfl⟩ := hk
  cases e2
  exact wg_endV (n2 := 11) (z := 30) X hb hr hl d2 (by decide) d3 d4 (by show cs + 0 ≤ _; omega) (by show ss + 0 ≤ _; omega) h
end LQ

def spL_water (W9 : xWd) (aM : Nat → Nat) (oA : Nat) : xSp lS := (fun av S => (2, 12), fun av S K => ∃ (x : Nat) (p0 p1 : Int32) (B : Nat), av = [.ref x, .int p0, .int p1, .ref oA] ∧ (RR W9 B x S.1 S.2.1 ∧ B + 15 ≤ 8000 ∧ lApt aM oA S.1) ∧ (∀ S2 z9, RR W9 (B + 15) x S2 (oWater S.2.1 p0 p1).2 → lApt aM oA S2 → ((oWater S.2.1 p0 p1).2.1 0 = 0 → z9 = (oWater S.2.1 p0 p1).1.toInt64) → K (rI ((oWater S.2.1 p0 p1).2.1 0)) (S2, S.2.1, z9)))
theorem spcL_water {W9 : xWd} {aM : Nat → Nat} {oA : Nat} {av : List Value} {S : lS} : (spL_water W9 aM oA).1 av S = (2, 12) := rfl

set_option maxHeartbeats 1000000 in
set_option maxRecDepth 20000 in
theorem semL_water (l : Launch) (hl : l.stackTraces = false) (W9 : xWd) (aM : Nat → Nat) (oA : Nat) : lSem l W9 aM oA yL_water wsL_water 8 135 (spL_water W9 aM oA) := by
  intro av S sz KF hsp
  obtain ⟨x, p0, p1, B, rfl, ⟨hRR, hB, hdj⟩, hk⟩ := hsp
  refine vx_ofWH (cc := cL_water) (maxL := 5) (ret := some .int) (hh := [(0, 10, 13, 13), (0, 10, 17, 15)]) (by decide +kernel) rfl ?_
  intro p e s m args below meth c s₁ B9 hml hv
  obtain ⟨rfl, hsz, hR, hAmb, hN⟩ := hv
  subst hsz
  have hts := atoms_spec (ws := wsL_water) B9.pre
  have htab := vx_table (x := yL_water) B9 (hts _ List.mem_cons_self)
  have hown : s.vm.findClass RL = some m.cls := findClass_of_methodNamed B9.named
  have X : xCtxL W9 (lE aM oA 2 12 KF) (xReg (lI aM oA) (wY W9) S s.heap.size) p s m [.ref x, .int p0, .int p1, .ref oA].toArray c 5 RL wsL_water := ⟨B9.exec, hml, hown, hts, lI_law, hAmb, fun q h => Or.inr h⟩
  rw [lg_entry_eq]
  refine (?_ : wG (lE aM oA 2 12 KF) W9 (xReg (lI aM oA) (wY W9) S s.heap.size) p l e _ s m [.ref x, .int p0, .int p1, .ref oA].toArray below meth c 5 0 (xEntry 5 [.ref x, .int p0, .int p1, .ref oA]) [] S 0 0) s.heap [] _ (xentry_ok (by intro v hv; simp only [List.mem_cons, List.not_mem_nil, or_false] at hv; rcases hv with rfl | rfl | rfl | rfl <;> rfl) (Nat.le_of_ble_eq_true rfl)) hR (fun a x h => Or.inl ⟨x, h⟩) va_S.rf
  refine wg_aln (u := 3) (k := 3) X.1 B9.bytes (by decide +kernel) rfl rfl ?_
  refine wg_ic (z := 0) X.1 B9.bytes (by decide +kernel) ?_
  refine wg_aln (u := 0) (k := 0) X.1 B9.bytes (by decide +kernel) rfl rfl ?_
  refine wg_iln (u := 1) (k := 1) X.1 B9.bytes (by decide +kernel) rfl rfl ?_
  refine wg_iln (u := 2) (k := 2) X.1 B9.bytes (by decide +kernel) rfl rfl ?_
  refine wg_call (i := .invokevirtual 83) (len := 3) (av := [.ref x, .int p0, .int p1]) (rest := [.int 0, .ref oA]) (KF := fun r S' => ∃ S2, S' = (S2, S.2) ∧ lApt aM oA S2 ∧ ans [eB, eA] W9 (B + 15) x (oWater S.2.1 p0 p1) r S2) (xCR_VC (n := 2) (ci := 8) rfl X (semX7_water l hl W9) gL_water_X7_water rfl rfl (by decide +kernel) ⟨by show 7 + 1 ≤ 8; omega, by show 8 + (4 + 11) + 112 ≤ 135; omega⟩) B9.bytes (by decide +kernel) rfl rfl rfl (fun _ => Or.inr (Or.inl ⟨hdj.fr (live_of (RR_k hRR) (by omega)), RR_k hRR, by omega⟩)) (by show 1 + (1 + 0) ≤ 8; omega) (by show 0 + 2 ≤ 2; omega) (by show 0 + 12 ≤ 12; omega) ⟨hdj, Q_water hRR (fun r S2 ha hd2 => ⟨S2, rfl, hd2, RR_up ha.1 (by omega) hB, ha.2⟩)⟩ (fun v S' hk2 => ?_) (fun ex S' hk2 => ?_)
  · obtain ⟨S2, rfl, hd2, ha1, ha2⟩ := hk2
    unfold rZ at ha2
    by_cases z0 : (oWater S.2.1 p0 p1).2.1 0 = 0
    · rw [if_pos z0] at ha2
      cases ha2
      have hf := hk S2 _ ha1 hd2 (fun _ => rfl)
      rw [z0] at hf
      exact wg_end (n2 := 11) (z := 21) rfl X B9.bytes B9.returns B9.notSynchronized (by decide +kernel) (by decide +kernel) (by decide +kernel) (by decide) (by decide +kernel) (by decide +kernel) (by show 0 + 2 ≤ 2; omega) (by show 0 + 12 ≤ 12; omega) rfl rfl hf
    · rw [if_neg z0] at ha2
      cases ha2
  · obtain ⟨S2, rfl, hd2, ha1, ha2⟩ := hk2
    unfold rZ at ha2
    rcases @cd_water S.2.1 p0 p1 with z0 | z1 | z2
    · rw [if_pos z0] at ha2
      cases ha2
    · rw [if_neg (by rw [z1]; decide), z1] at ha2
      have he : ex = eB := Sum.inr.inj ha2
      subst he
      have hf := hk S2 S.2.2 ha1 hd2 (fun z => absurd z (by rw [z1]; decide))
      rw [z1] at hf
      intro H locs ls rest q ce hlv hR2 hO2 hS2 hce hcv hcl
      exact vx_catch (name := eB) (E := eB) hown [] ⟨0, 10, 13, 13⟩ [⟨0, 10, 17, 15⟩] htab (fun _ h => nomatch h) rfl (by decide) (hts _ (by decide +kernel)) (xExtra_use hAmb.2.2.2.2.1.2.2 _ (by decide +kernel)) hce hcv hcl (wg_h (z := 1) (k := 4) (n := 2) X B9.bytes B9.returns B9.notSynchronized (Or.inr ⟨(by decide +kernel), rfl⟩) (by omega) (by decide +kernel) (by decide +kernel) (by show 0 + 2 ≤ 2; omega) (by show 0 + 12 ≤ 12; omega) hf H locs ls hlv hR2 hO2 hS2)
    · rw [if_neg (by rw [z2]; decide), z2] at ha2
      have he : ex = eA := Sum.inr.inj ha2
      subst he
      have hf := hk S2 S.2.2 ha1 hd2 (fun z => absurd z (by rw [z2]; decide))
      rw [z2] at hf
      intro H locs ls rest q ce hlv hR2 hO2 hS2 hce hcv hcl
      exact vx_catch (name := eA) (E := eA) hown [⟨0, 10, 13, 13⟩] ⟨0, 10, 17, 15⟩ [] htab (List.forall_mem_cons.mpr ⟨Or.inr ⟨by decide, eB, hts _ (by decide +kernel), hN.1⟩, (fun _ h => nomatch h)⟩) rfl (by decide) (hts _ (by decide +kernel)) (xExtra_use hAmb.2.2.2.2.1.2.2 _ (by decide +kernel)) hce hcv hcl (wg_h (z := 2) (k := 4) (n := 2) X B9.bytes B9.returns B9.notSynchronized (Or.inr ⟨(by decide +kernel), rfl⟩) (by omega) (by decide +kernel) (by decide +kernel) (by show 0 + 2 ≤ 2; omega) (by show 0 + 12 ≤ 12; omega) hf H locs ls hlv hR2 hO2 hS2)

def spL_most (W9 : xWd) (aM : Nat → Nat) (oA : Nat) : xSp lS := (fun av S => (1, 6), fun av S K => ∃ (x : Nat) (p0 p1 : Int32) (B : Nat), av = [.ref x, .int p0, .int p1, .ref oA] ∧ (p1 = 0 ∨ p1 = 1) ∧ (RR W9 B x S.1 S.2.1 ∧ B + 15 ≤ 8000 ∧ lApt aM oA S.1) ∧ (∀ S2 z9, RR W9 (B + 15) x S2 (oMost S.2.1 p0 p1).2 → lApt aM oA S2 → ((oMost S.2.1 p0 p1).2.1 0 = 0 → z9 = (oMost S.2.1 p0 p1).1.toInt64) → K (rI ((oMost S.2.1 p0 p1).2.1 0)) (S2, S.2.1, z9)))
theorem spcL_most {W9 : xWd} {aM : Nat → Nat} {oA : Nat} {av : List Value} {S : lS} : (spL_most W9 aM oA).1 av S = (1, 6) := rfl

set_option maxHeartbeats 1000000 in
set_option maxRecDepth 20000 in
theorem semL_most (l : Launch) (hl : l.stackTraces = false) (W9 : xWd) (aM : Nat → Nat) (oA : Nat) : lSem l W9 aM oA yL_most wsL_most 8 133 (spL_most W9 aM oA) := by
  intro av S sz KF hsp
  obtain ⟨x, p0, p1, B, rfl, hz, ⟨hRR, hB, hdj⟩, hk⟩ := hsp
  refine vx_ofWH (cc := cL_most) (maxL := 5) (ret := some .int) (hh := [(0, 10, 13, 13)]) (by decide +kernel) rfl ?_
  intro p e s m args below meth c s₁ B9 hml hv
  obtain ⟨rfl, hsz, hR, hAmb, hN⟩ := hv
  subst hsz
  have hts := atoms_spec (ws := wsL_most) B9.pre
  have htab := vx_table (x := yL_most) B9 (hts _ List.mem_cons_self)
  have hown : s.vm.findClass RL = some m.cls := findClass_of_methodNamed B9.named
  have X : xCtxL W9 (lE aM oA 1 6 KF) (xReg (lI aM oA) (wY W9) S s.heap.size) p s m [.ref x, .int p0, .int p1, .ref oA].toArray c 5 RL wsL_most := ⟨B9.exec, hml, hown, hts, lI_law, hAmb, fun q h => Or.inr h⟩
  rw [lg_entry_eq]
  refine (?_ : wG (lE aM oA 1 6 KF) W9 (xReg (lI aM oA) (wY W9) S s.heap.size) p l e _ s m [.ref x, .int p0, .int p1, .ref oA].toArray below meth c 5 0 (xEntry 5 [.ref x, .int p0, .int p1, .ref oA]) [] S 0 0) s.heap [] _ (xentry_ok (by intro v hv; simp only [List.mem_cons, List.not_mem_nil, or_false] at hv; rcases hv with rfl | rfl | rfl | rfl <;> rfl) (Nat.le_of_ble_eq_true rfl)) hR (fun a x h => Or.inl ⟨x, h⟩) va_S.rf
  refine wg_aln (u := 3) (k := 3) X.1 B9.bytes (by decide +kernel) rfl rfl ?_
  refine wg_ic (z := 0) X.1 B9.bytes (by decide +kernel) ?_
  refine wg_aln (u := 0) (k := 0) X.1 B9.bytes (by decide +kernel) rfl rfl ?_
  refine wg_iln (u := 1) (k := 1) X.1 B9.bytes (by decide +kernel) rfl rfl ?_
  refine wg_iln (u := 2) (k := 2) X.1 B9.bytes (by decide +kernel) rfl rfl ?_
  refine wg_call (i := .invokevirtual 86) (len := 3) (av := [.ref x, .int p0, .int p1]) (rest := [.int 0, .ref oA]) (KF := fun r S' => ∃ S2, S' = (S2, S.2) ∧ lApt aM oA S2 ∧ ans [eB] W9 (B + 15) x (oMost S.2.1 p0 p1) r S2) (xCR_VC (n := 2) (ci := 8) rfl X (semX7_most l hl W9) gL_most_X7_most rfl rfl (by decide +kernel) ⟨by show 7 + 1 ≤ 8; omega, by show 8 + (3 + 11) + 111 ≤ 133; omega⟩) B9.bytes (by decide +kernel) rfl rfl rfl (fun _ => Or.inr (Or.inl ⟨hdj.fr (live_of (RR_k hRR) (by omega)), RR_k hRR, by omega⟩)) (by show 1 + (1 + 0) ≤ 8; omega) (by show 0 + 1 ≤ 1; omega) (by show 0 + 6 ≤ 6; omega) ⟨hdj, Q_most hRR hz (fun r S2 ha hd2 => ⟨S2, rfl, hd2, RR_up ha.1 (by omega) hB, ha.2⟩)⟩ (fun v S' hk2 => ?_) (fun ex S' hk2 => ?_)
  · obtain ⟨S2, rfl, hd2, ha1, ha2⟩ := hk2
    unfold rZ at ha2
    by_cases z0 : (oMost S.2.1 p0 p1).2.1 0 = 0
    · rw [if_pos z0] at ha2
      cases ha2
      have hf := hk S2 _ ha1 hd2 (fun _ => rfl)
      rw [z0] at hf
      exact wg_end (n2 := 7) (z := 17) rfl X B9.bytes B9.returns B9.notSynchronized (by decide +kernel) (by decide +kernel) (by decide +kernel) (by decide) (by decide +kernel) (by decide +kernel) (by show 0 + 1 ≤ 1; omega) (by show 0 + 6 ≤ 6; omega) rfl rfl hf
    · rw [if_neg z0] at ha2
      cases ha2
  · obtain ⟨S2, rfl, hd2, ha1, ha2⟩ := hk2
    unfold rZ at ha2
    rcases @cd_most S.2.1 p0 p1 with z0 | z1
    · rw [if_pos z0] at ha2
      cases ha2
    · rw [if_neg (by rw [z1]; decide), z1] at ha2
      have he : ex = eB := Sum.inr.inj ha2
      subst he
      have hf := hk S2 S.2.2 ha1 hd2 (fun z => absurd z (by rw [z1]; decide))
      rw [z1] at hf
      intro H locs ls rest q ce hlv hR2 hO2 hS2 hce hcv hcl
      exact vx_catch (name := eB) (E := eB) hown [] ⟨0, 10, 13, 13⟩ [] htab (fun _ h => nomatch h) rfl (by decide) (hts _ (by decide +kernel)) (xExtra_use hAmb.2.2.2.2.1.2.2 _ (by decide +kernel)) hce hcv hcl (wg_h (z := 1) (k := 4) (n := 2) X B9.bytes B9.returns B9.notSynchronized (Or.inr ⟨(by decide +kernel), rfl⟩) (by omega) (by decide +kernel) (by decide +kernel) (by show 0 + 1 ≤ 1; omega) (by show 0 + 6 ≤ 6; omega) hf H locs ls hlv hR2 hO2 hS2)

def spL_bars (W9 : xWd) (aM : Nat → Nat) (oA : Nat) : xSp lS := (fun av S => (1, 6), fun av S K => ∃ (x : Nat) (p0 : Int32) (B : Nat), av = [.ref x, .int p0, .ref oA] ∧ (RR W9 B x S.1 S.2.1 ∧ B + 15 ≤ 8000 ∧ lApt aM oA S.1) ∧ (∀ S2 z9, RR W9 (B + 15) x S2 (oBars S.2.1 p0).2 → lApt aM oA S2 → ((oBars S.2.1 p0).2.1 0 = 0 → z9 = (oBars S.2.1 p0).1.toInt64) → K (rI ((oBars S.2.1 p0).2.1 0)) (S2, S.2.1, z9)))
theorem spcL_bars {W9 : xWd} {aM : Nat → Nat} {oA : Nat} {av : List Value} {S : lS} : (spL_bars W9 aM oA).1 av S = (1, 6) := rfl

set_option maxHeartbeats 1000000 in
set_option maxRecDepth 20000 in
theorem semL_bars (l : Launch) (hl : l.stackTraces = false) (W9 : xWd) (aM : Nat → Nat) (oA : Nat) : lSem l W9 aM oA yL_bars wsL_bars 9 206 (spL_bars W9 aM oA) := by
  intro av S sz KF hsp
  obtain ⟨x, p0, B, rfl, ⟨hRR, hB, hdj⟩, hk⟩ := hsp
  refine vx_ofWH (cc := cL_bars) (maxL := 4) (ret := some .int) (hh := [(0, 9, 12, 13)]) (by decide +kernel) rfl ?_
  intro p e s m args below meth c s₁ B9 hml hv
  obtain ⟨rfl, hsz, hR, hAmb, hN⟩ := hv
  subst hsz
  have hts := atoms_spec (ws := wsL_bars) B9.pre
  have htab := vx_table (x := yL_bars) B9 (hts _ List.mem_cons_self)
  have hown : s.vm.findClass RL = some m.cls := findClass_of_methodNamed B9.named
  have X : xCtxL W9 (lE aM oA 1 6 KF) (xReg (lI aM oA) (wY W9) S s.heap.size) p s m [.ref x, .int p0, .ref oA].toArray c 4 RL wsL_bars := ⟨B9.exec, hml, hown, hts, lI_law, hAmb, fun q h => Or.inr h⟩
  rw [lg_entry_eq]
  refine (?_ : wG (lE aM oA 1 6 KF) W9 (xReg (lI aM oA) (wY W9) S s.heap.size) p l e _ s m [.ref x, .int p0, .ref oA].toArray below meth c 4 0 (xEntry 4 [.ref x, .int p0, .ref oA]) [] S 0 0) s.heap [] _ (xentry_ok (by intro v hv; simp only [List.mem_cons, List.not_mem_nil, or_false] at hv; rcases hv with rfl | rfl | rfl <;> rfl) (Nat.le_of_ble_eq_true rfl)) hR (fun a x h => Or.inl ⟨x, h⟩) va_S.rf
  refine wg_aln (u := 2) (k := 2) X.1 B9.bytes (by decide +kernel) rfl rfl ?_
  refine wg_ic (z := 0) X.1 B9.bytes (by decide +kernel) ?_
  refine wg_aln (u := 0) (k := 0) X.1 B9.bytes (by decide +kernel) rfl rfl ?_
  refine wg_iln (u := 1) (k := 1) X.1 B9.bytes (by decide +kernel) rfl rfl ?_
  refine wg_call (i := .invokevirtual 93) (len := 3) (av := [.ref x, .int p0]) (rest := [.int 0, .ref oA]) (KF := fun r S' => ∃ S2, S' = (S2, S.2) ∧ lApt aM oA S2 ∧ ans [eB] W9 (B + 15) x (oBars S.2.1 p0) r S2) (xCR_VC (n := 1) (ci := 8) rfl X (semX7_bars l hl W9) gL_bars_X7_bars rfl rfl (by decide +kernel) ⟨by show 8 + 1 ≤ 9; omega, by show 8 + (4 + 11) + 183 ≤ 206; omega⟩) B9.bytes (by decide +kernel) rfl rfl rfl (fun _ => Or.inr (Or.inl ⟨hdj.fr (live_of (RR_k hRR) (by omega)), RR_k hRR, by omega⟩)) (by show 1 + (1 + 0) ≤ 8; omega) (by show 0 + 1 ≤ 1; omega) (by show 0 + 6 ≤ 6; omega) ⟨hdj, Q_bars hRR (fun r S2 ha hd2 => ⟨S2, rfl, hd2, RR_up ha.1 (by omega) hB, ha.2⟩)⟩ (fun v S' hk2 => ?_) (fun ex S' hk2 => ?_)
  · obtain ⟨S2, rfl, hd2, ha1, ha2⟩ := hk2
    unfold rZ at ha2
    by_cases z0 : (oBars S.2.1 p0).2.1 0 = 0
    · rw [if_pos z0] at ha2
      cases ha2
      have hf := hk S2 _ ha1 hd2 (fun _ => rfl)
      rw [z0] at hf
      exact wg_end (n2 := 6) (z := 15) rfl X B9.bytes B9.returns B9.notSynchronized (by decide +kernel) (by decide +kernel) (by decide +kernel) (by decide) (by decide +kernel) (by decide +kernel) (by show 0 + 1 ≤ 1; omega) (by show 0 + 6 ≤ 6; omega) rfl rfl hf
    · rw [if_neg z0] at ha2
      cases ha2
  · obtain ⟨S2, rfl, hd2, ha1, ha2⟩ := hk2
    unfold rZ at ha2
    rcases @cd_bars S.2.1 p0 with z0 | z1
    · rw [if_pos z0] at ha2
      cases ha2
    · rw [if_neg (by rw [z1]; decide), z1] at ha2
      have he : ex = eB := Sum.inr.inj ha2
      subst he
      have hf := hk S2 S.2.2 ha1 hd2 (fun z => absurd z (by rw [z1]; decide))
      rw [z1] at hf
      intro H locs ls rest q ce hlv hR2 hO2 hS2 hce hcv hcl
      exact vx_catch (name := eB) (E := eB) hown [] ⟨0, 9, 12, 13⟩ [] htab (fun _ h => nomatch h) rfl (by decide) (hts _ (by decide +kernel)) (xExtra_use hAmb.2.2.2.2.1.2.2 _ (by decide +kernel)) hce hcv hcl (wg_h (z := 1) (k := 3) (n := 1) X B9.bytes B9.returns B9.notSynchronized (Or.inl ⟨3, (by decide +kernel), rfl, rfl⟩) (by omega) (by decide +kernel) (by decide +kernel) (by show 0 + 1 ≤ 1; omega) (by show 0 + 6 ≤ 6; omega) hf H locs ls hlv hR2 hO2 hS2)

def spL_ofBoat (W9 : xWd) (aM : Nat → Nat) (oA : Nat) : xSp lS := (fun av S => (2, 12), fun av S K => ∃ (x : Nat) (p0 p1 : Int32) (B : Nat), av = [.ref x, .int p0, .int p1, .ref oA] ∧ (RR W9 B x S.1 S.2.1 ∧ B + 15 ≤ 8000 ∧ lApt aM oA S.1) ∧ (∀ S2 z9, RR W9 (B + 15) x S2 (oOfBoat S.2.1 p0 p1).2 → lApt aM oA S2 → ((oOfBoat S.2.1 p0 p1).2.1 0 = 0 → z9 = (oOfBoat S.2.1 p0 p1).1.toInt64) → K (rI ((oOfBoat S.2.1 p0 p1).2.1 0)) (S2, S.2.1, z9)))
theorem spcL_ofBoat {W9 : xWd} {aM : Nat → Nat} {oA : Nat} {av : List Value} {S : lS} : (spL_ofBoat W9 aM oA).1 av S = (2, 12) := rfl

set_option maxHeartbeats 1000000 in
set_option maxRecDepth 20000 in
theorem semL_ofBoat (l : Launch) (hl : l.stackTraces = false) (W9 : xWd) (aM : Nat → Nat) (oA : Nat) : lSem l W9 aM oA yL_ofBoat wsL_ofBoat 8 134 (spL_ofBoat W9 aM oA) := by
  intro av S sz KF hsp
  obtain ⟨x, p0, p1, B, rfl, ⟨hRR, hB, hdj⟩, hk⟩ := hsp
  refine vx_ofWH (cc := cL_ofBoat) (maxL := 5) (ret := some .int) (hh := [(0, 10, 13, 13)]) (by decide +kernel) rfl ?_
  intro p e s m args below meth c s₁ B9 hml hv
  obtain ⟨rfl, hsz, hR, hAmb, hN⟩ := hv
  subst hsz
  have hts := atoms_spec (ws := wsL_ofBoat) B9.pre
  have htab := vx_table (x := yL_ofBoat) B9 (hts _ List.mem_cons_self)
  have hown : s.vm.findClass RL = some m.cls := findClass_of_methodNamed B9.named
  have X : xCtxL W9 (lE aM oA 2 12 KF) (xReg (lI aM oA) (wY W9) S s.heap.size) p s m [.ref x, .int p0, .int p1, .ref oA].toArray c 5 RL wsL_ofBoat := ⟨B9.exec, hml, hown, hts, lI_law, hAmb, fun q h => Or.inr h⟩
  rw [lg_entry_eq]
  refine (?_ : wG (lE aM oA 2 12 KF) W9 (xReg (lI aM oA) (wY W9) S s.heap.size) p l e _ s m [.ref x, .int p0, .int p1, .ref oA].toArray below meth c 5 0 (xEntry 5 [.ref x, .int p0, .int p1, .ref oA]) [] S 0 0) s.heap [] _ (xentry_ok (by intro v hv; simp only [List.mem_cons, List.not_mem_nil, or_false] at hv; rcases hv with rfl | rfl | rfl | rfl <;> rfl) (Nat.le_of_ble_eq_true rfl)) hR (fun a x h => Or.inl ⟨x, h⟩) va_S.rf
  refine wg_aln (u := 3) (k := 3) X.1 B9.bytes (by decide +kernel) rfl rfl ?_
  refine wg_ic (z := 0) X.1 B9.bytes (by decide +kernel) ?_
  refine wg_aln (u := 0) (k := 0) X.1 B9.bytes (by decide +kernel) rfl rfl ?_
  refine wg_iln (u := 1) (k := 1) X.1 B9.bytes (by decide +kernel) rfl rfl ?_
  refine wg_iln (u := 2) (k := 2) X.1 B9.bytes (by decide +kernel) rfl rfl ?_
  refine wg_call (i := .invokevirtual 96) (len := 3) (av := [.ref x, .int p0, .int p1]) (rest := [.int 0, .ref oA]) (KF := fun r S' => ∃ S2, S' = (S2, S.2) ∧ lApt aM oA S2 ∧ ans [eB] W9 (B + 15) x (oOfBoat S.2.1 p0 p1) r S2) (xCR_VC (n := 2) (ci := 8) rfl X (semX7_ofBoat l hl W9) gL_ofBoat_X7_ofBoat rfl rfl (by decide +kernel) ⟨by show 7 + 1 ≤ 8; omega, by show 8 + (4 + 11) + 111 ≤ 134; omega⟩) B9.bytes (by decide +kernel) rfl rfl rfl (fun _ => Or.inr (Or.inl ⟨hdj.fr (live_of (RR_k hRR) (by omega)), RR_k hRR, by omega⟩)) (by show 1 + (1 + 0) ≤ 8; omega) (by show 0 + 2 ≤ 2; omega) (by show 0 + 12 ≤ 12; omega) ⟨hdj, Q_ofBoat hRR (fun r S2 ha hd2 => ⟨S2, rfl, hd2, RR_up ha.1 (by omega) hB, ha.2⟩)⟩ (fun v S' hk2 => ?_) (fun ex S' hk2 => ?_)
  · obtain ⟨S2, rfl, hd2, ha1, ha2⟩ := hk2
    unfold rZ at ha2
    by_cases z0 : (oOfBoat S.2.1 p0 p1).2.1 0 = 0
    · rw [if_pos z0] at ha2
      cases ha2
      have hf := hk S2 _ ha1 hd2 (fun _ => rfl)
      rw [z0] at hf
      exact wg_end (n2 := 7) (z := 17) rfl X B9.bytes B9.returns B9.notSynchronized (by decide +kernel) (by decide +kernel) (by decide +kernel) (by decide) (by decide +kernel) (by decide +kernel) (by show 0 + 2 ≤ 2; omega) (by show 0 + 12 ≤ 12; omega) rfl rfl hf
    · rw [if_neg z0] at ha2
      cases ha2
  · obtain ⟨S2, rfl, hd2, ha1, ha2⟩ := hk2
    unfold rZ at ha2
    rcases @cd_ofBoat S.2.1 p0 p1 with z0 | z1
    · rw [if_pos z0] at ha2
      cases ha2
    · rw [if_neg (by rw [z1]; decide), z1] at ha2
      have he : ex = eB := Sum.inr.inj ha2
      subst he
      have hf := hk S2 S.2.2 ha1 hd2 (fun z => absurd z (by rw [z1]; decide))
      rw [z1] at hf
      intro H locs ls rest q ce hlv hR2 hO2 hS2 hce hcv hcl
      exact vx_catch (name := eB) (E := eB) hown [] ⟨0, 10, 13, 13⟩ [] htab (fun _ h => nomatch h) rfl (by decide) (hts _ (by decide +kernel)) (xExtra_use hAmb.2.2.2.2.1.2.2 _ (by decide +kernel)) hce hcv hcl (wg_h (z := 1) (k := 4) (n := 2) X B9.bytes B9.returns B9.notSynchronized (Or.inr ⟨(by decide +kernel), rfl⟩) (by omega) (by decide +kernel) (by decide +kernel) (by show 0 + 2 ≤ 2; omega) (by show 0 + 12 ≤ 12; omega) hf H locs ls hlv hR2 hO2 hS2)

def spL_waited (W9 : xWd) (aM : Nat → Nat) (oA : Nat) : xSp lS := (fun av S => (2, 12), fun av S K => ∃ (x : Nat) (p0 p1 : Int32) (B : Nat), av = [.ref x, .int p0, .int p1, .ref oA] ∧ (RR W9 B x S.1 S.2.1 ∧ B + 15 ≤ 8000 ∧ lApt aM oA S.1) ∧ (∀ S2 z9, RR W9 (B + 15) x S2 (oWaited S.2.1 p0 p1).2 → lApt aM oA S2 → ((oWaited S.2.1 p0 p1).2.1 0 = 0 → z9 = (oWaited S.2.1 p0 p1).1.toInt64) → K (rI ((oWaited S.2.1 p0 p1).2.1 0)) (S2, S.2.1, z9)))
theorem spcL_waited {W9 : xWd} {aM : Nat → Nat} {oA : Nat} {av : List Value} {S : lS} : (spL_waited W9 aM oA).1 av S = (2, 12) := rfl

set_option maxHeartbeats 1000000 in
set_option maxRecDepth 20000 in
theorem semL_waited (l : Launch) (hl : l.stackTraces = false) (W9 : xWd) (aM : Nat → Nat) (oA : Nat) : lSem l W9 aM oA yL_waited wsL_waited 8 134 (spL_waited W9 aM oA) := by
  intro av S sz KF hsp
  obtain ⟨x, p0, p1, B, rfl, ⟨hRR, hB, hdj⟩, hk⟩ := hsp
  refine vx_ofWH (cc := cL_waited) (maxL := 5) (ret := some .int) (hh := [(0, 10, 13, 13)]) (by decide +kernel) rfl ?_
  intro p e s m args below meth c s₁ B9 hml hv
  obtain ⟨rfl, hsz, hR, hAmb, hN⟩ := hv
  subst hsz
  have hts := atoms_spec (ws := wsL_waited) B9.pre
  have htab := vx_table (x := yL_waited) B9 (hts _ List.mem_cons_self)
  have hown : s.vm.findClass RL = some m.cls := findClass_of_methodNamed B9.named
  have X : xCtxL W9 (lE aM oA 2 12 KF) (xReg (lI aM oA) (wY W9) S s.heap.size) p s m [.ref x, .int p0, .int p1, .ref oA].toArray c 5 RL wsL_waited := ⟨B9.exec, hml, hown, hts, lI_law, hAmb, fun q h => Or.inr h⟩
  rw [lg_entry_eq]
  refine (?_ : wG (lE aM oA 2 12 KF) W9 (xReg (lI aM oA) (wY W9) S s.heap.size) p l e _ s m [.ref x, .int p0, .int p1, .ref oA].toArray below meth c 5 0 (xEntry 5 [.ref x, .int p0, .int p1, .ref oA]) [] S 0 0) s.heap [] _ (xentry_ok (by intro v hv; simp only [List.mem_cons, List.not_mem_nil, or_false] at hv; rcases hv with rfl | rfl | rfl | rfl <;> rfl) (Nat.le_of_ble_eq_true rfl)) hR (fun a x h => Or.inl ⟨x, h⟩) va_S.rf
  refine wg_aln (u := 3) (k := 3) X.1 B9.bytes (by decide +kernel) rfl rfl ?_
  refine wg_ic (z := 0) X.1 B9.bytes (by decide +kernel) ?_
  refine wg_aln (u := 0) (k := 0) X.1 B9.bytes (by decide +kernel) rfl rfl ?_
  refine wg_iln (u := 1) (k := 1) X.1 B9.bytes (by decide +kernel) rfl rfl ?_
  refine wg_iln (u := 2) (k := 2) X.1 B9.bytes (by decide +kernel) rfl rfl ?_
  refine wg_call (i := .invokevirtual 99) (len := 3) (av := [.ref x, .int p0, .int p1]) (rest := [.int 0, .ref oA]) (KF := fun r S' => ∃ S2, S' = (S2, S.2) ∧ lApt aM oA S2 ∧ ans [eB] W9 (B + 15) x (oWaited S.2.1 p0 p1) r S2) (xCR_VC (n := 2) (ci := 8) rfl X (semX7_waited l hl W9) gL_waited_X7_waited rfl rfl (by decide +kernel) ⟨by show 7 + 1 ≤ 8; omega, by show 8 + (4 + 11) + 111 ≤ 134; omega⟩) B9.bytes (by decide +kernel) rfl rfl rfl (fun _ => Or.inr (Or.inl ⟨hdj.fr (live_of (RR_k hRR) (by omega)), RR_k hRR, by omega⟩)) (by show 1 + (1 + 0) ≤ 8; omega) (by show 0 + 2 ≤ 2; omega) (by show 0 + 12 ≤ 12; omega) ⟨hdj, Q_waited hRR (fun r S2 ha hd2 => ⟨S2, rfl, hd2, RR_up ha.1 (by omega) hB, ha.2⟩)⟩ (fun v S' hk2 => ?_) (fun ex S' hk2 => ?_)
  · obtain ⟨S2, rfl, hd2, ha1, ha2⟩ := hk2
    unfold rZ at ha2
    by_cases z0 : (oWaited S.2.1 p0 p1).2.1 0 = 0
    · rw [if_pos z0] at ha2
      cases ha2
      have hf := hk S2 _ ha1 hd2 (fun _ => rfl)
      rw [z0] at hf
      exact wg_end (n2 := 7) (z := 17) rfl X B9.bytes B9.returns B9.notSynchronized (by decide +kernel) (by decide +kernel) (by decide +kernel) (by decide) (by decide +kernel) (by decide +kernel) (by show 0 + 2 ≤ 2; omega) (by show 0 + 12 ≤ 12; omega) rfl rfl hf
    · rw [if_neg z0] at ha2
      cases ha2
  · obtain ⟨S2, rfl, hd2, ha1, ha2⟩ := hk2
    unfold rZ at ha2
    rcases @cd_waited S.2.1 p0 p1 with z0 | z1
    · rw [if_pos z0] at ha2
      cases ha2
    · rw [if_neg (by rw [z1]; decide), z1] at ha2
      have he : ex = eB := Sum.inr.inj ha2
      subst he
      have hf := hk S2 S.2.2 ha1 hd2 (fun z => absurd z (by rw [z1]; decide))
      rw [z1] at hf
      intro H locs ls rest q ce hlv hR2 hO2 hS2 hce hcv hcl
      exact vx_catch (name := eB) (E := eB) hown [] ⟨0, 10, 13, 13⟩ [] htab (fun _ h => nomatch h) rfl (by decide) (hts _ (by decide +kernel)) (xExtra_use hAmb.2.2.2.2.1.2.2 _ (by decide +kernel)) hce hcv hcl (wg_h (z := 1) (k := 4) (n := 2) X B9.bytes B9.returns B9.notSynchronized (Or.inr ⟨(by decide +kernel), rfl⟩) (by omega) (by decide +kernel) (by decide +kernel) (by show 0 + 2 ≤ 2; omega) (by show 0 + 12 ≤ 12; omega) hf H locs ls hlv hR2 hO2 hS2)

def spL_ofContract (W9 : xWd) (aM : Nat → Nat) (oA : Nat) : xSp lS := (fun av S => (2, 12), fun av S K => ∃ (x : Nat) (p0 p1 : Int32) (B : Nat), av = [.ref x, .int p0, .int p1, .ref oA] ∧ (RR W9 B x S.1 S.2.1 ∧ B + 15 ≤ 8000 ∧ lApt aM oA S.1) ∧ (∀ S2 z9, RR W9 (B + 15) x S2 (oOfContract S.2.1 p0 p1).2 → lApt aM oA S2 → ((oOfContract S.2.1 p0 p1).2.1 0 = 0 → z9 = (oOfContract S.2.1 p0 p1).1.toInt64) → K (rI ((oOfContract S.2.1 p0 p1).2.1 0)) (S2, S.2.1, z9)))
theorem spcL_ofContract {W9 : xWd} {aM : Nat → Nat} {oA : Nat} {av : List Value} {S : lS} : (spL_ofContract W9 aM oA).1 av S = (2, 12) := rfl

set_option maxHeartbeats 1000000 in
set_option maxRecDepth 20000 in
theorem semL_ofContract (l : Launch) (hl : l.stackTraces = false) (W9 : xWd) (aM : Nat → Nat) (oA : Nat) : lSem l W9 aM oA yL_ofContract wsL_ofContract 8 134 (spL_ofContract W9 aM oA) := by
  intro av S sz KF hsp
  obtain ⟨x, p0, p1, B, rfl, ⟨hRR, hB, hdj⟩, hk⟩ := hsp
  refine vx_ofWH (cc := cL_ofContract) (maxL := 5) (ret := some .int) (hh := [(0, 10, 13, 13)]) (by decide +kernel) rfl ?_
  intro p e s m args below meth c s₁ B9 hml hv
  obtain ⟨rfl, hsz, hR, hAmb, hN⟩ := hv
  subst hsz
  have hts := atoms_spec (ws := wsL_ofContract) B9.pre
  have htab := vx_table (x := yL_ofContract) B9 (hts _ List.mem_cons_self)
  have hown : s.vm.findClass RL = some m.cls := findClass_of_methodNamed B9.named
  have X : xCtxL W9 (lE aM oA 2 12 KF) (xReg (lI aM oA) (wY W9) S s.heap.size) p s m [.ref x, .int p0, .int p1, .ref oA].toArray c 5 RL wsL_ofContract := ⟨B9.exec, hml, hown, hts, lI_law, hAmb, fun q h => Or.inr h⟩
  rw [lg_entry_eq]
  refine (?_ : wG (lE aM oA 2 12 KF) W9 (xReg (lI aM oA) (wY W9) S s.heap.size) p l e _ s m [.ref x, .int p0, .int p1, .ref oA].toArray below meth c 5 0 (xEntry 5 [.ref x, .int p0, .int p1, .ref oA]) [] S 0 0) s.heap [] _ (xentry_ok (by intro v hv; simp only [List.mem_cons, List.not_mem_nil, or_false] at hv; rcases hv with rfl | rfl | rfl | rfl <;> rfl) (Nat.le_of_ble_eq_true rfl)) hR (fun a x h => Or.inl ⟨x, h⟩) va_S.rf
  refine wg_aln (u := 3) (k := 3) X.1 B9.bytes (by decide +kernel) rfl rfl ?_
  refine wg_ic (z := 0) X.1 B9.bytes (by decide +kernel) ?_
  refine wg_aln (u := 0) (k := 0) X.1 B9.bytes (by decide +kernel) rfl rfl ?_
  refine wg_iln (u := 1) (k := 1) X.1 B9.bytes (by decide +kernel) rfl rfl ?_
  refine wg_iln (u := 2) (k := 2) X.1 B9.bytes (by decide +kernel) rfl rfl ?_
  refine wg_call (i := .invokevirtual 114) (len := 3) (av := [.ref x, .int p0, .int p1]) (rest := [.int 0, .ref oA]) (KF := fun r S' => ∃ S2, S' = (S2, S.2) ∧ lApt aM oA S2 ∧ ans [eB] W9 (B + 15) x (oOfContract S.2.1 p0 p1) r S2) (xCR_VC (n := 2) (ci := 8) rfl X (semX7_ofContract l hl W9) gL_ofContract_X7_ofContract rfl rfl (by decide +kernel) ⟨by show 7 + 1 ≤ 8; omega, by show 8 + (4 + 11) + 111 ≤ 134; omega⟩) B9.bytes (by decide +kernel) rfl rfl rfl (fun _ => Or.inr (Or.inl ⟨hdj.fr (live_of (RR_k hRR) (by omega)), RR_k hRR, by omega⟩)) (by show 1 + (1 + 0) ≤ 8; omega) (by show 0 + 2 ≤ 2; omega) (by show 0 + 12 ≤ 12; omega) ⟨hdj, Q_ofContract hRR (fun r S2 ha hd2 => ⟨S2, rfl, hd2, RR_up ha.1 (by omega) hB, ha.2⟩)⟩ (fun v S' hk2 => ?_) (fun ex S' hk2 => ?_)
  · obtain ⟨S2, rfl, hd2, ha1, ha2⟩ := hk2
    unfold rZ at ha2
    by_cases z0 : (oOfContract S.2.1 p0 p1).2.1 0 = 0
    · rw [if_pos z0] at ha2
      cases ha2
      have hf := hk S2 _ ha1 hd2 (fun _ => rfl)
      rw [z0] at hf
      exact wg_end (n2 := 7) (z := 17) rfl X B9.bytes B9.returns B9.notSynchronized (by decide +kernel) (by decide +kernel) (by decide +kernel) (by decide) (by decide +kernel) (by decide +kernel) (by show 0 + 2 ≤ 2; omega) (by show 0 + 12 ≤ 12; omega) rfl rfl hf
    · rw [if_neg z0] at ha2
      cases ha2
  · obtain ⟨S2, rfl, hd2, ha1, ha2⟩ := hk2
    unfold rZ at ha2
    rcases @cd_ofContract S.2.1 p0 p1 with z0 | z1
    · rw [if_pos z0] at ha2
      cases ha2
    · rw [if_neg (by rw [z1]; decide), z1] at ha2
      have he : ex = eB := Sum.inr.inj ha2
      subst he
      have hf := hk S2 S.2.2 ha1 hd2 (fun z => absurd z (by rw [z1]; decide))
      rw [z1] at hf
      intro H locs ls rest q ce hlv hR2 hO2 hS2 hce hcv hcl
      exact vx_catch (name := eB) (E := eB) hown [] ⟨0, 10, 13, 13⟩ [] htab (fun _ h => nomatch h) rfl (by decide) (hts _ (by decide +kernel)) (xExtra_use hAmb.2.2.2.2.1.2.2 _ (by decide +kernel)) hce hcv hcl (wg_h (z := 1) (k := 4) (n := 2) X B9.bytes B9.returns B9.notSynchronized (Or.inr ⟨(by decide +kernel), rfl⟩) (by omega) (by decide +kernel) (by decide +kernel) (by show 0 + 2 ≤ 2; omega) (by show 0 + 12 ≤ 12; omega) hf H locs ls hlv hR2 hO2 hS2)

def spL_ofBarge (W9 : xWd) (aM : Nat → Nat) (oA : Nat) : xSp lS := (fun av S => (2, 12), fun av S K => ∃ (x : Nat) (p0 p1 : Int32) (B : Nat), av = [.ref x, .int p0, .int p1, .ref oA] ∧ (RR W9 B x S.1 S.2.1 ∧ B + 15 ≤ 8000 ∧ lApt aM oA S.1) ∧ (∀ S2 z9, RR W9 (B + 15) x S2 (oOfBarge S.2.1 p0 p1).2 → lApt aM oA S2 → ((oOfBarge S.2.1 p0 p1).2.1 0 = 0 → z9 = (oOfBarge S.2.1 p0 p1).1.toInt64) → K (rI ((oOfBarge S.2.1 p0 p1).2.1 0)) (S2, S.2.1, z9)))
theorem spcL_ofBarge {W9 : xWd} {aM : Nat → Nat} {oA : Nat} {av : List Value} {S : lS} : (spL_ofBarge W9 aM oA).1 av S = (2, 12) := rfl

set_option maxHeartbeats 1000000 in
set_option maxRecDepth 20000 in
theorem semL_ofBarge (l : Launch) (hl : l.stackTraces = false) (W9 : xWd) (aM : Nat → Nat) (oA : Nat) : lSem l W9 aM oA yL_ofBarge wsL_ofBarge 8 155 (spL_ofBarge W9 aM oA) := by
  intro av S sz KF hsp
  obtain ⟨x, p0, p1, B, rfl, ⟨hRR, hB, hdj⟩, hk⟩ := hsp
  refine vx_ofWH (cc := cL_ofBarge) (maxL := 5) (ret := some .int) (hh := [(0, 10, 13, 13)]) (by decide +kernel) rfl ?_
  intro p e s m args below meth c s₁ B9 hml hv
  obtain ⟨rfl, hsz, hR, hAmb, hN⟩ := hv
  subst hsz
  have hts := atoms_spec (ws := wsL_ofBarge) B9.pre
  have htab := vx_table (x := yL_ofBarge) B9 (hts _ List.mem_cons_self)
  have hown : s.vm.findClass RL = some m.cls := findClass_of_methodNamed B9.named
  have X : xCtxL W9 (lE aM oA 2 12 KF) (xReg (lI aM oA) (wY W9) S s.heap.size) p s m [.ref x, .int p0, .int p1, .ref oA].toArray c 5 RL wsL_ofBarge := ⟨B9.exec, hml, hown, hts, lI_law, hAmb, fun q h => Or.inr h⟩
  rw [lg_entry_eq]
  refine (?_ : wG (lE aM oA 2 12 KF) W9 (xReg (lI aM oA) (wY W9) S s.heap.size) p l e _ s m [.ref x, .int p0, .int p1, .ref oA].toArray below meth c 5 0 (xEntry 5 [.ref x, .int p0, .int p1, .ref oA]) [] S 0 0) s.heap [] _ (xentry_ok (by intro v hv; simp only [List.mem_cons, List.not_mem_nil, or_false] at hv; rcases hv with rfl | rfl | rfl | rfl <;> rfl) (Nat.le_of_ble_eq_true rfl)) hR (fun a x h => Or.inl ⟨x, h⟩) va_S.rf
  refine wg_aln (u := 3) (k := 3) X.1 B9.bytes (by decide +kernel) rfl rfl ?_
  refine wg_ic (z := 0) X.1 B9.bytes (by decide +kernel) ?_
  refine wg_aln (u := 0) (k := 0) X.1 B9.bytes (by decide +kernel) rfl rfl ?_
  refine wg_iln (u := 1) (k := 1) X.1 B9.bytes (by decide +kernel) rfl rfl ?_
  refine wg_iln (u := 2) (k := 2) X.1 B9.bytes (by decide +kernel) rfl rfl ?_
  refine wg_call (i := .invokevirtual 102) (len := 3) (av := [.ref x, .int p0, .int p1]) (rest := [.int 0, .ref oA]) (KF := fun r S' => ∃ S2, S' = (S2, S.2) ∧ lApt aM oA S2 ∧ ans [eB] W9 (B + 15) x (oOfBarge S.2.1 p0 p1) r S2) (xCR_VC (n := 2) (ci := 8) rfl X (semX7_ofBarge l hl W9) gL_ofBarge_X7_ofBarge rfl rfl (by decide +kernel) ⟨by show 7 + 1 ≤ 8; omega, by show 8 + (5 + 11) + 131 ≤ 155; omega⟩) B9.bytes (by decide +kernel) rfl rfl rfl (fun _ => Or.inr (Or.inl ⟨hdj.fr (live_of (RR_k hRR) (by omega)), RR_k hRR, by omega⟩)) (by show 1 + (1 + 0) ≤ 8; omega) (by show 0 + 2 ≤ 2; omega) (by show 0 + 12 ≤ 12; omega) ⟨hdj, Q_ofBarge hRR (fun r S2 ha hd2 => ⟨S2, rfl, hd2, RR_up ha.1 (by omega) hB, ha.2⟩)⟩ (fun v S' hk2 => ?_) (fun ex S' hk2 => ?_)
  · obtain ⟨S2, rfl, hd2, ha1, ha2⟩ := hk2
    unfold rZ at ha2
    by_cases z0 : (oOfBarge S.2.1 p0 p1).2.1 0 = 0
    · rw [if_pos z0] at ha2
      cases ha2
      have hf := hk S2 _ ha1 hd2 (fun _ => rfl)
      rw [z0] at hf
      exact wg_end (n2 := 7) (z := 17) rfl X B9.bytes B9.returns B9.notSynchronized (by decide +kernel) (by decide +kernel) (by decide +kernel) (by decide) (by decide +kernel) (by decide +kernel) (by show 0 + 2 ≤ 2; omega) (by show 0 + 12 ≤ 12; omega) rfl rfl hf
    · rw [if_neg z0] at ha2
      cases ha2
  · obtain ⟨S2, rfl, hd2, ha1, ha2⟩ := hk2
    unfold rZ at ha2
    rcases @cd_ofBarge S.2.1 p0 p1 with z0 | z1
    · rw [if_pos z0] at ha2
      cases ha2
    · rw [if_neg (by rw [z1]; decide), z1] at ha2
      have he : ex = eB := Sum.inr.inj ha2
      subst he
      have hf := hk S2 S.2.2 ha1 hd2 (fun z => absurd z (by rw [z1]; decide))
      rw [z1] at hf
      intro H locs ls rest q ce hlv hR2 hO2 hS2 hce hcv hcl
      exact vx_catch (name := eB) (E := eB) hown [] ⟨0, 10, 13, 13⟩ [] htab (fun _ h => nomatch h) rfl (by decide) (hts _ (by decide +kernel)) (xExtra_use hAmb.2.2.2.2.1.2.2 _ (by decide +kernel)) hce hcv hcl (wg_h (z := 1) (k := 4) (n := 2) X B9.bytes B9.returns B9.notSynchronized (Or.inr ⟨(by decide +kernel), rfl⟩) (by omega) (by decide +kernel) (by decide +kernel) (by show 0 + 2 ≤ 2; omega) (by show 0 + 12 ≤ 12; omega) hf H locs ls hlv hR2 hO2 hS2)

def spL_placeAnew (W9 : xWd) (aM : Nat → Nat) (oA : Nat) : xSp lS := (fun av S => (1, 6), fun av S K => ∃ (x : Nat) (p0 : Int32) (B : Nat), av = [.ref x, .int p0, .ref oA] ∧ (RR W9 B x S.1 S.2.1 ∧ B + 15 ≤ 8000 ∧ lApt aM oA S.1) ∧ (∀ S2 z9, RR W9 (B + 15) x S2 (oPlaceAnew S.2.1 p0).2 → lApt aM oA S2 → ((oPlaceAnew S.2.1 p0).2.1 0 = 0 → z9 = (oPlaceAnew S.2.1 p0).1.toInt64) → K (rI ((oPlaceAnew S.2.1 p0).2.1 0)) (S2, S.2.1, z9)))
theorem spcL_placeAnew {W9 : xWd} {aM : Nat → Nat} {oA : Nat} {av : List Value} {S : lS} : (spL_placeAnew W9 aM oA).1 av S = (1, 6) := rfl

set_option maxHeartbeats 1000000 in
set_option maxRecDepth 20000 in
theorem semL_placeAnew (l : Launch) (hl : l.stackTraces = false) (W9 : xWd) (aM : Nat → Nat) (oA : Nat) : lSem l W9 aM oA yL_placeAnew wsL_placeAnew 8 136 (spL_placeAnew W9 aM oA) := by
  intro av S sz KF hsp
  obtain ⟨x, p0, B, rfl, ⟨hRR, hB, hdj⟩, hk⟩ := hsp
  refine vx_ofWH (cc := cL_placeAnew) (maxL := 4) (ret := some .int) (hh := [(0, 9, 12, 13)]) (by decide +kernel) rfl ?_
  intro p e s m args below meth c s₁ B9 hml hv
  obtain ⟨rfl, hsz, hR, hAmb, hN⟩ := hv
  subst hsz
  have hts := atoms_spec (ws := wsL_placeAnew) B9.pre
  have htab := vx_table (x := yL_placeAnew) B9 (hts _ List.mem_cons_self)
  have hown : s.vm.findClass RL = some m.cls := findClass_of_methodNamed B9.named
  have X : xCtxL W9 (lE aM oA 1 6 KF) (xReg (lI aM oA) (wY W9) S s.heap.size) p s m [.ref x, .int p0, .ref oA].toArray c 4 RL wsL_placeAnew := ⟨B9.exec, hml, hown, hts, lI_law, hAmb, fun q h => Or.inr h⟩
  rw [lg_entry_eq]
  refine (?_ : wG (lE aM oA 1 6 KF) W9 (xReg (lI aM oA) (wY W9) S s.heap.size) p l e _ s m [.ref x, .int p0, .ref oA].toArray below meth c 4 0 (xEntry 4 [.ref x, .int p0, .ref oA]) [] S 0 0) s.heap [] _ (xentry_ok (by intro v hv; simp only [List.mem_cons, List.not_mem_nil, or_false] at hv; rcases hv with rfl | rfl | rfl <;> rfl) (Nat.le_of_ble_eq_true rfl)) hR (fun a x h => Or.inl ⟨x, h⟩) va_S.rf
  refine wg_aln (u := 2) (k := 2) X.1 B9.bytes (by decide +kernel) rfl rfl ?_
  refine wg_ic (z := 0) X.1 B9.bytes (by decide +kernel) ?_
  refine wg_aln (u := 0) (k := 0) X.1 B9.bytes (by decide +kernel) rfl rfl ?_
  refine wg_iln (u := 1) (k := 1) X.1 B9.bytes (by decide +kernel) rfl rfl ?_
  refine wg_call (i := .invokevirtual 105) (len := 3) (av := [.ref x, .int p0]) (rest := [.int 0, .ref oA]) (KF := fun r S' => ∃ S2, S' = (S2, S.2) ∧ lApt aM oA S2 ∧ ans [eB] W9 (B + 15) x (oPlaceAnew S.2.1 p0) r S2) (xCR_VC (n := 1) (ci := 8) rfl X (semX7_placeAnew l hl W9) gL_placeAnew_X7_placeAnew rfl rfl (by decide +kernel) ⟨by show 7 + 1 ≤ 8; omega, by show 8 + (6 + 11) + 111 ≤ 136; omega⟩) B9.bytes (by decide +kernel) rfl rfl rfl (fun _ => Or.inr (Or.inl ⟨hdj.fr (live_of (RR_k hRR) (by omega)), RR_k hRR, by omega⟩)) (by show 1 + (1 + 0) ≤ 8; omega) (by show 0 + 1 ≤ 1; omega) (by show 0 + 6 ≤ 6; omega) ⟨hdj, Q_placeAnew hRR (fun r S2 ha hd2 => ⟨S2, rfl, hd2, RR_up ha.1 (by omega) hB, ha.2⟩)⟩ (fun v S' hk2 => ?_) (fun ex S' hk2 => ?_)
  · obtain ⟨S2, rfl, hd2, ha1, ha2⟩ := hk2
    unfold rZ at ha2
    by_cases z0 : (oPlaceAnew S.2.1 p0).2.1 0 = 0
    · rw [if_pos z0] at ha2
      cases ha2
      have hf := hk S2 _ ha1 hd2 (fun _ => rfl)
      rw [z0] at hf
      exact wg_end (n2 := 6) (z := 15) rfl X B9.bytes B9.returns B9.notSynchronized (by decide +kernel) (by decide +kernel) (by decide +kernel) (by decide) (by decide +kernel) (by decide +kernel) (by show 0 + 1 ≤ 1; omega) (by show 0 + 6 ≤ 6; omega) rfl rfl hf
    · rw [if_neg z0] at ha2
      cases ha2
  · obtain ⟨S2, rfl, hd2, ha1, ha2⟩ := hk2
    unfold rZ at ha2
    rcases @cd_placeAnew S.2.1 p0 with z0 | z1
    · rw [if_pos z0] at ha2
      cases ha2
    · rw [if_neg (by rw [z1]; decide), z1] at ha2
      have he : ex = eB := Sum.inr.inj ha2
      subst he
      have hf := hk S2 S.2.2 ha1 hd2 (fun z => absurd z (by rw [z1]; decide))
      rw [z1] at hf
      intro H locs ls rest q ce hlv hR2 hO2 hS2 hce hcv hcl
      exact vx_catch (name := eB) (E := eB) hown [] ⟨0, 9, 12, 13⟩ [] htab (fun _ h => nomatch h) rfl (by decide) (hts _ (by decide +kernel)) (xExtra_use hAmb.2.2.2.2.1.2.2 _ (by decide +kernel)) hce hcv hcl (wg_h (z := 1) (k := 3) (n := 1) X B9.bytes B9.returns B9.notSynchronized (Or.inl ⟨3, (by decide +kernel), rfl, rfl⟩) (by omega) (by decide +kernel) (by decide +kernel) (by show 0 + 1 ≤ 1; omega) (by show 0 + 6 ≤ 6; omega) hf H locs ls hlv hR2 hO2 hS2)

def spL_all (W9 : xWd) (aM : Nat → Nat) (oA : Nat) : xSp lS := (fun av S => (1, 6), fun av S K => ∃ (x : Nat) (p0 : Int32) (B : Nat), av = [.ref x, .int p0, .ref oA] ∧ (RR W9 B x S.1 S.2.1 ∧ B + 15 ≤ 8000 ∧ lApt aM oA S.1) ∧ (∀ S2 z9, RR W9 (B + 15) x S2 (oAll S.2.1 p0).2 → lApt aM oA S2 → ((oAll S.2.1 p0).2.1 0 = 0 → z9 = (oAll S.2.1 p0).1.toInt64) → K (rI ((oAll S.2.1 p0).2.1 0)) (S2, S.2.1, z9)))
theorem spcL_all {W9 : xWd} {aM : Nat → Nat} {oA : Nat} {av : List Value} {S : lS} : (spL_all W9 aM oA).1 av S = (1, 6) := rfl

set_option maxHeartbeats 1000000 in
set_option maxRecDepth 20000 in
theorem semL_all (l : Launch) (hl : l.stackTraces = false) (W9 : xWd) (aM : Nat → Nat) (oA : Nat) : lSem l W9 aM oA yL_all wsL_all 7 111 (spL_all W9 aM oA) := by
  intro av S sz KF hsp
  obtain ⟨x, p0, B, rfl, ⟨hRR, hB, hdj⟩, hk⟩ := hsp
  refine vx_ofWH (cc := cL_all) (maxL := 4) (ret := some .int) (hh := [(0, 9, 12, 13)]) (by decide +kernel) rfl ?_
  intro p e s m args below meth c s₁ B9 hml hv
  obtain ⟨rfl, hsz, hR, hAmb, hN⟩ := hv
  subst hsz
  have hts := atoms_spec (ws := wsL_all) B9.pre
  have htab := vx_table (x := yL_all) B9 (hts _ List.mem_cons_self)
  have hown : s.vm.findClass RL = some m.cls := findClass_of_methodNamed B9.named
  have X : xCtxL W9 (lE aM oA 1 6 KF) (xReg (lI aM oA) (wY W9) S s.heap.size) p s m [.ref x, .int p0, .ref oA].toArray c 4 RL wsL_all := ⟨B9.exec, hml, hown, hts, lI_law, hAmb, fun q h => Or.inr h⟩
  rw [lg_entry_eq]
  refine (?_ : wG (lE aM oA 1 6 KF) W9 (xReg (lI aM oA) (wY W9) S s.heap.size) p l e _ s m [.ref x, .int p0, .ref oA].toArray below meth c 4 0 (xEntry 4 [.ref x, .int p0, .ref oA]) [] S 0 0) s.heap [] _ (xentry_ok (by intro v hv; simp only [List.mem_cons, List.not_mem_nil, or_false] at hv; rcases hv with rfl | rfl | rfl <;> rfl) (Nat.le_of_ble_eq_true rfl)) hR (fun a x h => Or.inl ⟨x, h⟩) va_S.rf
  refine wg_aln (u := 2) (k := 2) X.1 B9.bytes (by decide +kernel) rfl rfl ?_
  refine wg_ic (z := 0) X.1 B9.bytes (by decide +kernel) ?_
  refine wg_aln (u := 0) (k := 0) X.1 B9.bytes (by decide +kernel) rfl rfl ?_
  refine wg_iln (u := 1) (k := 1) X.1 B9.bytes (by decide +kernel) rfl rfl ?_
  refine wg_call (i := .invokevirtual 117) (len := 3) (av := [.ref x, .int p0]) (rest := [.int 0, .ref oA]) (KF := fun r S' => ∃ S2, S' = (S2, S.2) ∧ lApt aM oA S2 ∧ ans [eB] W9 (B + 15) x (oAll S.2.1 p0) r S2) (xCR_VC (n := 1) (ci := 8) rfl X (semX7_all l hl W9) gL_all_X7_all rfl rfl (by decide +kernel) ⟨by show 6 + 1 ≤ 7; omega, by show 8 + (2 + 11) + 90 ≤ 111; omega⟩) B9.bytes (by decide +kernel) rfl rfl rfl (fun _ => Or.inr (Or.inl ⟨hdj.fr (live_of (RR_k hRR) (by omega)), RR_k hRR, by omega⟩)) (by show 1 + (1 + 0) ≤ 8; omega) (by show 0 + 1 ≤ 1; omega) (by show 0 + 6 ≤ 6; omega) ⟨hdj, Q_all hRR (fun r S2 ha hd2 => ⟨S2, rfl, hd2, RR_up ha.1 (by omega) hB, ha.2⟩)⟩ (fun v S' hk2 => ?_) (fun ex S' hk2 => ?_)
  · obtain ⟨S2, rfl, hd2, ha1, ha2⟩ := hk2
    unfold rZ at ha2
    by_cases z0 : (oAll S.2.1 p0).2.1 0 = 0
    · rw [if_pos z0] at ha2
      cases ha2
      have hf := hk S2 _ ha1 hd2 (fun _ => rfl)
      rw [z0] at hf
      exact wg_end (n2 := 6) (z := 15) rfl X B9.bytes B9.returns B9.notSynchronized (by decide +kernel) (by decide +kernel) (by decide +kernel) (by decide) (by decide +kernel) (by decide +kernel) (by show 0 + 1 ≤ 1; omega) (by show 0 + 6 ≤ 6; omega) rfl rfl hf
    · rw [if_neg z0] at ha2
      cases ha2
  · obtain ⟨S2, rfl, hd2, ha1, ha2⟩ := hk2
    unfold rZ at ha2
    rcases @cd_all S.2.1 p0 with z0 | z1
    · rw [if_pos z0] at ha2
      cases ha2
    · rw [if_neg (by rw [z1]; decide), z1] at ha2
      have he : ex = eB := Sum.inr.inj ha2
      subst he
      have hf := hk S2 S.2.2 ha1 hd2 (fun z => absurd z (by rw [z1]; decide))
      rw [z1] at hf
      intro H locs ls rest q ce hlv hR2 hO2 hS2 hce hcv hcl
      exact vx_catch (name := eB) (E := eB) hown [] ⟨0, 9, 12, 13⟩ [] htab (fun _ h => nomatch h) rfl (by decide) (hts _ (by decide +kernel)) (xExtra_use hAmb.2.2.2.2.1.2.2 _ (by decide +kernel)) hce hcv hcl (wg_h (z := 1) (k := 3) (n := 1) X B9.bytes B9.returns B9.notSynchronized (Or.inl ⟨3, (by decide +kernel), rfl, rfl⟩) (by omega) (by decide +kernel) (by decide +kernel) (by show 0 + 1 ≤ 1; omega) (by show 0 + 6 ≤ 6; omega) hf H locs ls hlv hR2 hO2 hS2)

def spL_hours (W9 : xWd) (aM : Nat → Nat) (oA : Nat) : xSp lS := (fun av S => (2, 12), fun av S K => ∃ (x : Nat) (p0 p1 : Int32) (B : Nat), av = [.ref x, .int p0, .int p1, .ref oA] ∧ (RR W9 B x S.1 S.2.1 ∧ B + 15 ≤ 8000 ∧ lApt aM oA S.1) ∧ (∀ S2 z9, RR W9 (B + 15) x S2 (oHours S.2.1 p0 p1).2 → lApt aM oA S2 → ((oHours S.2.1 p0 p1).2.1 0 = 0 → z9 = (oHours S.2.1 p0 p1).1.toInt64) → K (rI ((oHours S.2.1 p0 p1).2.1 0)) (S2, S.2.1, z9)))
theorem spcL_hours {W9 : xWd} {aM : Nat → Nat} {oA : Nat} {av : List Value} {S : lS} : (spL_hours W9 aM oA).1 av S = (2, 12) := rfl

set_option maxHeartbeats 1000000 in
set_option maxRecDepth 20000 in
theorem semL_hours (l : Launch) (hl : l.stackTraces = false) (W9 : xWd) (aM : Nat → Nat) (oA : Nat) : lSem l W9 aM oA yL_hours wsL_hours 9 160 (spL_hours W9 aM oA) := by
  intro av S sz KF hsp
  obtain ⟨x, p0, p1, B, rfl, ⟨hRR, hB, hdj⟩, hk⟩ := hsp
  refine vx_ofWH (cc := cL_hours) (maxL := 5) (ret := some .int) (hh := [(0, 10, 13, 13)]) (by decide +kernel) rfl ?_
  intro p e s m args below meth c s₁ B9 hml hv
  obtain ⟨rfl, hsz, hR, hAmb, hN⟩ := hv
  subst hsz
  have hts := atoms_spec (ws := wsL_hours) B9.pre
  have htab := vx_table (x := yL_hours) B9 (hts _ List.mem_cons_self)
  have hown : s.vm.findClass RL = some m.cls := findClass_of_methodNamed B9.named
  have X : xCtxL W9 (lE aM oA 2 12 KF) (xReg (lI aM oA) (wY W9) S s.heap.size) p s m [.ref x, .int p0, .int p1, .ref oA].toArray c 5 RL wsL_hours := ⟨B9.exec, hml, hown, hts, lI_law, hAmb, fun q h => Or.inr h⟩
  rw [lg_entry_eq]
  refine (?_ : wG (lE aM oA 2 12 KF) W9 (xReg (lI aM oA) (wY W9) S s.heap.size) p l e _ s m [.ref x, .int p0, .int p1, .ref oA].toArray below meth c 5 0 (xEntry 5 [.ref x, .int p0, .int p1, .ref oA]) [] S 0 0) s.heap [] _ (xentry_ok (by intro v hv; simp only [List.mem_cons, List.not_mem_nil, or_false] at hv; rcases hv with rfl | rfl | rfl | rfl <;> rfl) (Nat.le_of_ble_eq_true rfl)) hR (fun a x h => Or.inl ⟨x, h⟩) va_S.rf
  refine wg_aln (u := 3) (k := 3) X.1 B9.bytes (by decide +kernel) rfl rfl ?_
  refine wg_ic (z := 0) X.1 B9.bytes (by decide +kernel) ?_
  refine wg_aln (u := 0) (k := 0) X.1 B9.bytes (by decide +kernel) rfl rfl ?_
  refine wg_iln (u := 1) (k := 1) X.1 B9.bytes (by decide +kernel) rfl rfl ?_
  refine wg_iln (u := 2) (k := 2) X.1 B9.bytes (by decide +kernel) rfl rfl ?_
  refine wg_call (i := .invokevirtual 90) (len := 3) (av := [.ref x, .int p0, .int p1]) (rest := [.int 0, .ref oA]) (KF := fun r S' => ∃ S2, S' = (S2, S.2) ∧ lApt aM oA S2 ∧ ans [eB] W9 (B + 15) x (oHours S.2.1 p0 p1) r S2) (xCR_VC (n := 2) (ci := 8) rfl X (semX7_hours l hl W9) gL_hours_X7_hours rfl rfl (by decide +kernel) ⟨by show 8 + 1 ≤ 9; omega, by show 8 + (10 + 11) + 131 ≤ 160; omega⟩) B9.bytes (by decide +kernel) rfl rfl rfl (fun _ => Or.inr (Or.inl ⟨hdj.fr (live_of (RR_k hRR) (by omega)), RR_k hRR, by omega⟩)) (by show 1 + (1 + 0) ≤ 8; omega) (by show 0 + 2 ≤ 2; omega) (by show 0 + 12 ≤ 12; omega) ⟨hdj, Q_hours hRR (fun r S2 ha hd2 => ⟨S2, rfl, hd2, RR_up ha.1 (by omega) hB, ha.2⟩)⟩ (fun v S' hk2 => ?_) (fun ex S' hk2 => ?_)
  · obtain ⟨S2, rfl, hd2, ha1, ha2⟩ := hk2
    unfold rZ at ha2
    by_cases z0 : (oHours S.2.1 p0 p1).2.1 0 = 0
    · rw [if_pos z0] at ha2
      cases ha2
      have hf := hk S2 _ ha1 hd2 (fun _ => rfl)
      rw [z0] at hf
      exact wg_end (n2 := 7) (z := 17) rfl X B9.bytes B9.returns B9.notSynchronized (by decide +kernel) (by decide +kernel) (by decide +kernel) (by decide) (by decide +kernel) (by decide +kernel) (by show 0 + 2 ≤ 2; omega) (by show 0 + 12 ≤ 12; omega) rfl rfl hf
    · rw [if_neg z0] at ha2
      cases ha2
  · obtain ⟨S2, rfl, hd2, ha1, ha2⟩ := hk2
    unfold rZ at ha2
    rcases @cd_hours S.2.1 p0 p1 with z0 | z1
    · rw [if_pos z0] at ha2
      cases ha2
    · rw [if_neg (by rw [z1]; decide), z1] at ha2
      have he : ex = eB := Sum.inr.inj ha2
      subst he
      have hf := hk S2 S.2.2 ha1 hd2 (fun z => absurd z (by rw [z1]; decide))
      rw [z1] at hf
      intro H locs ls rest q ce hlv hR2 hO2 hS2 hce hcv hcl
      exact vx_catch (name := eB) (E := eB) hown [] ⟨0, 10, 13, 13⟩ [] htab (fun _ h => nomatch h) rfl (by decide) (hts _ (by decide +kernel)) (xExtra_use hAmb.2.2.2.2.1.2.2 _ (by decide +kernel)) hce hcv hcl (wg_h (z := 1) (k := 4) (n := 2) X B9.bytes B9.returns B9.notSynchronized (Or.inr ⟨(by decide +kernel), rfl⟩) (by omega) (by decide +kernel) (by decide +kernel) (by show 0 + 2 ≤ 2; omega) (by show 0 + 12 ≤ 12; omega) hf H locs ls hlv hR2 hO2 hS2)

def spL_reach (W9 : xWd) (aM : Nat → Nat) (oA : Nat) : xSp lS := (fun av S => (5, 30), fun av S K => ∃ (x : Nat) (p0 p1 p2 p3 p4 : Int32) (B : Nat), av = [.ref x, .int p0, .int p1, .int p2, .int p3, .int p4] ∧ (p4 = 0 ∨ p4 = 1) ∧ (RR W9 B x S.1 S.2.1 ∧ B + 15 ≤ 8000 ∧ lApt aM oA S.1) ∧ (∀ S2, RR W9 (B + 15) x S2 (oReach S.2.1 p0 p1 p2 p3 p4) → lApt aM oA S2 → K (rI ((oReach S.2.1 p0 p1 p2 p3 p4).1 0)) (S2, S.2.1, S.2.2)))
theorem spcL_reach {W9 : xWd} {aM : Nat → Nat} {oA : Nat} {av : List Value} {S : lS} : (spL_reach W9 aM oA).1 av S = (5, 30) := rfl

set_option maxHeartbeats 1000000 in
set_option maxRecDepth 20000 in
theorem semL_reach (l : Launch) (hl : l.stackTraces = false) (W9 : xWd) (aM : Nat → Nat) (oA : Nat) : lSem l W9 aM oA yL_reach wsL_reach 9 157 (spL_reach W9 aM oA) := by
  intro av S sz KF hsp
  obtain ⟨x, p0, p1, p2, p3, p4, B, rfl, hz, ⟨hRR, hB, hdj⟩, hk⟩ := hsp
  refine vx_ofWH (cc := cL_reach) (maxL := 7) (ret := some .int) (hh := [(0, 11, 14, 13), (0, 11, 18, 15), (0, 11, 22, 17)]) (by decide +kernel) rfl ?_
  intro p e s m args below meth c s₁ B9 hml hv
  obtain ⟨rfl, hsz, hR, hAmb, hN⟩ := hv
  subst hsz
  have hts := atoms_spec (ws := wsL_reach) B9.pre
  have htab := vx_table (x := yL_reach) B9 (hts _ List.mem_cons_self)
  have hown : s.vm.findClass RL = some m.cls := findClass_of_methodNamed B9.named
  have X : xCtxL W9 (lE aM oA 5 30 KF) (xReg (lI aM oA) (wY W9) S s.heap.size) p s m [.ref x, .int p0, .int p1, .int p2, .int p3, .int p4].toArray c 7 RL wsL_reach := ⟨B9.exec, hml, hown, hts, lI_law, hAmb, fun q h => Or.inr h⟩
  rw [lg_entry_eq]
  refine (?_ : wG (lE aM oA 5 30 KF) W9 (xReg (lI aM oA) (wY W9) S s.heap.size) p l e _ s m [.ref x, .int p0, .int p1, .int p2, .int p3, .int p4].toArray below meth c 7 0 (xEntry 7 [.ref x, .int p0, .int p1, .int p2, .int p3, .int p4]) [] S 0 0) s.heap [] _ (xentry_ok (by intro v hv; simp only [List.mem_cons, List.not_mem_nil, or_false] at hv; rcases hv with rfl | rfl | rfl | rfl | rfl | rfl <;> rfl) (Nat.le_of_ble_eq_true rfl)) hR (fun a x h => Or.inl ⟨x, h⟩) va_S.rf
  refine wg_aln (u := 0) (k := 0) X.1 B9.bytes (by decide +kernel) rfl rfl ?_
  refine wg_iln (u := 1) (k := 1) X.1 B9.bytes (by decide +kernel) rfl rfl ?_
  refine wg_iln (u := 2) (k := 2) X.1 B9.bytes (by decide +kernel) rfl rfl ?_
  refine wg_iln (u := 3) (k := 3) X.1 B9.bytes (by decide +kernel) rfl rfl ?_
  refine wg_il (k := 4) X.1 B9.bytes (by decide +kernel) rfl ?_
  refine wg_il (k := 5) X.1 B9.bytes (by decide +kernel) rfl ?_
  refine wg_call (i := .invokevirtual 7) (len := 3) (av := [.ref x, .int p0, .int p1, .int p2, .int p3, .int p4]) (rest := []) (KF := fun r S' => ∃ S2, S' = (S2, S.2) ∧ lApt aM oA S2 ∧ ansV [eB, eA, eS] W9 (B + 15) x (oReach S.2.1 p0 p1 p2 p3 p4) r S2) (xCR_VC (n := 5) (ci := 8) rfl X (semX7_reach l hl W9) gL_reach_X7_reach rfl rfl (by decide +kernel) ⟨by show 8 + 1 ≤ 9; omega, by show 8 + (7 + 11) + 131 ≤ 157; omega⟩) B9.bytes (by decide +kernel) rfl rfl rfl (fun _ => Or.inr (Or.inl ⟨hdj.fr (live_of (RR_k hRR) (by omega)), RR_k hRR, by omega⟩)) (by show 0 ≤ 8; omega) (by show 0 + 5 ≤ 5; omega) (by show 0 + 30 ≤ 30; omega) ⟨hdj, Q_reach hRR hz (fun r S2 ha hd2 => ⟨S2, rfl, hd2, RR_up ha.1 (by omega) hB, ha.2⟩)⟩ (fun v S' hk2 => ?_) (fun ex S' hk2 => ?_)
  · obtain ⟨S2, rfl, hd2, ha1, ha2⟩ := hk2
    by_cases z0 : (oReach S.2.1 p0 p1 p2 p3 p4).1 0 = 0
    · rw [if_pos z0] at ha2
      cases ha2
      have hf := hk S2 ha1 hd2
      rw [z0] at hf
      exact wg_endV (n2 := 15) (z := 26) X B9.bytes B9.returns B9.notSynchronized (by decide +kernel) (by decide) (by decide +kernel) (by decide +kernel) (by show 0 + 5 ≤ 5; omega) (by show 0 + 30 ≤ 30; omega) hf
    · rw [if_neg z0] at ha2
      cases ha2
  · obtain ⟨S2, rfl, hd2, ha1, ha2⟩ := hk2
    rcases @cd_reach S.2.1 p0 p1 p2 p3 p4 with z0 | z1 | z2 | z3
    · rw [if_pos z0] at ha2
      cases ha2
    · rw [if_neg (by rw [z1]; decide), z1] at ha2
      have he : ex = eB := Sum.inr.inj ha2
      subst he
      have hf := hk S2 ha1 hd2
      rw [z1] at hf
      intro H locs ls rest q ce hlv hR2 hO2 hS2 hce hcv hcl
      exact vx_catch (name := eB) (E := eB) hown [] ⟨0, 11, 14, 13⟩ [⟨0, 11, 18, 15⟩, ⟨0, 11, 22, 17⟩] htab (fun _ h => nomatch h) rfl (by decide) (hts _ (by decide +kernel)) (xExtra_use hAmb.2.2.2.2.1.2.2 _ (by decide +kernel)) hce hcv hcl (wg_h (z := 1) (k := 6) (n := 2) X B9.bytes B9.returns B9.notSynchronized (Or.inr ⟨(by decide +kernel), rfl⟩) (by omega) (by decide +kernel) (by decide +kernel) (by show 0 + 5 ≤ 5; omega) (by show 0 + 30 ≤ 30; omega) hf H locs ls hlv hR2 hO2 hS2)
    · rw [if_neg (by rw [z2]; decide), z2] at ha2
      have he : ex = eA := Sum.inr.inj ha2
      subst he
      have hf := hk S2 ha1 hd2
      rw [z2] at hf
      intro H locs ls rest q ce hlv hR2 hO2 hS2 hce hcv hcl
      exact vx_catch (name := eA) (E := eA) hown [⟨0, 11, 14, 13⟩] ⟨0, 11, 18, 15⟩ [⟨0, 11, 22, 17⟩] htab (List.forall_mem_cons.mpr ⟨Or.inr ⟨by decide, eB, hts _ (by decide +kernel), hN.1⟩, (fun _ h => nomatch h)⟩) rfl (by decide) (hts _ (by decide +kernel)) (xExtra_use hAmb.2.2.2.2.1.2.2 _ (by decide +kernel)) hce hcv hcl (wg_h (z := 2) (k := 6) (n := 2) X B9.bytes B9.returns B9.notSynchronized (Or.inr ⟨(by decide +kernel), rfl⟩) (by omega) (by decide +kernel) (by decide +kernel) (by show 0 + 5 ≤ 5; omega) (by show 0 + 30 ≤ 30; omega) hf H locs ls hlv hR2 hO2 hS2)
    · rw [if_neg (by rw [z3]; decide), z3] at ha2
      have he : ex = eS := Sum.inr.inj ha2
      subst he
      have hf := hk S2 ha1 hd2
      rw [z3] at hf
      intro H locs ls rest q ce hlv hR2 hO2 hS2 hce hcv hcl
      exact vx_catch (name := eS) (E := eS) hown [⟨0, 11, 14, 13⟩, ⟨0, 11, 18, 15⟩] ⟨0, 11, 22, 17⟩ [] htab (List.forall_mem_cons.mpr ⟨Or.inr ⟨by decide, eB, hts _ (by decide +kernel), hN.2.1⟩, (List.forall_mem_cons.mpr ⟨Or.inr ⟨by decide, eA, hts _ (by decide +kernel), hN.2.2⟩, (fun _ h => nomatch h)⟩)⟩) rfl (by decide) (hts _ (by decide +kernel)) (xExtra_use hAmb.2.2.2.2.1.2.2 _ (by decide +kernel)) hce hcv hcl (wg_h (z := 3) (k := 6) (n := 2) X B9.bytes B9.returns B9.notSynchronized (Or.inr ⟨(by decide +kernel), rfl⟩) (by omega) (by decide +kernel) (by decide +kernel) (by show 0 + 5 ≤ 5; omega) (by show 0 + 30 ≤ 30; omega) hf H locs ls hlv hR2 hO2 hS2)

def spL_lock (W9 : xWd) (aM : Nat → Nat) (oA : Nat) : xSp lS := (fun av S => (4, 24), fun av S K => ∃ (x : Nat) (p0 p1 p2 p3 : Int32) (B : Nat), av = [.ref x, .int p0, .int p1, .int p2, .int p3] ∧ (p3 = 0 ∨ p3 = 1) ∧ (RR W9 B x S.1 S.2.1 ∧ B + 15 ≤ 8000 ∧ lApt aM oA S.1) ∧ (∀ S2, RR W9 (B + 15) x S2 (oLock S.2.1 p0 p1 p2 p3) → lApt aM oA S2 → K (rI ((oLock S.2.1 p0 p1 p2 p3).1 0)) (S2, S.2.1, S.2.2)))
theorem spcL_lock {W9 : xWd} {aM : Nat → Nat} {oA : Nat} {av : List Value} {S : lS} : (spL_lock W9 aM oA).1 av S = (4, 24) := rfl

set_option maxHeartbeats 1000000 in
set_option maxRecDepth 20000 in
theorem semL_lock (l : Launch) (hl : l.stackTraces = false) (W9 : xWd) (aM : Nat → Nat) (oA : Nat) : lSem l W9 aM oA yL_lock wsL_lock 9 156 (spL_lock W9 aM oA) := by
  intro av S sz KF hsp
  obtain ⟨x, p0, p1, p2, p3, B, rfl, hz, ⟨hRR, hB, hdj⟩, hk⟩ := hsp
  refine vx_ofWH (cc := cL_lock) (maxL := 6) (ret := some .int) (hh := [(0, 9, 12, 13), (0, 9, 16, 15), (0, 9, 20, 17)]) (by decide +kernel) rfl ?_
  intro p e s m args below meth c s₁ B9 hml hv
  obtain ⟨rfl, hsz, hR, hAmb, hN⟩ := hv
  subst hsz
  have hts := atoms_spec (ws := wsL_lock) B9.pre
  have htab := vx_table (x := yL_lock) B9 (hts _ List.mem_cons_self)
  have hown : s.vm.findClass RL = some m.cls := findClass_of_methodNamed B9.named
  have X : xCtxL W9 (lE aM oA 4 24 KF) (xReg (lI aM oA) (wY W9) S s.heap.size) p s m [.ref x, .int p0, .int p1, .int p2, .int p3].toArray c 6 RL wsL_lock := ⟨B9.exec, hml, hown, hts, lI_law, hAmb, fun q h => Or.inr h⟩
  rw [lg_entry_eq]
  refine (?_ : wG (lE aM oA 4 24 KF) W9 (xReg (lI aM oA) (wY W9) S s.heap.size) p l e _ s m [.ref x, .int p0, .int p1, .int p2, .int p3].toArray below meth c 6 0 (xEntry 6 [.ref x, .int p0, .int p1, .int p2, .int p3]) [] S 0 0) s.heap [] _ (xentry_ok (by intro v hv; simp only [List.mem_cons, List.not_mem_nil, or_false] at hv; rcases hv with rfl | rfl | rfl | rfl | rfl <;> rfl) (Nat.le_of_ble_eq_true rfl)) hR (fun a x h => Or.inl ⟨x, h⟩) va_S.rf
  refine wg_aln (u := 0) (k := 0) X.1 B9.bytes (by decide +kernel) rfl rfl ?_
  refine wg_iln (u := 1) (k := 1) X.1 B9.bytes (by decide +kernel) rfl rfl ?_
  refine wg_iln (u := 2) (k := 2) X.1 B9.bytes (by decide +kernel) rfl rfl ?_
  refine wg_iln (u := 3) (k := 3) X.1 B9.bytes (by decide +kernel) rfl rfl ?_
  refine wg_il (k := 4) X.1 B9.bytes (by decide +kernel) rfl ?_
  refine wg_call (i := .invokevirtual 19) (len := 3) (av := [.ref x, .int p0, .int p1, .int p2, .int p3]) (rest := []) (KF := fun r S' => ∃ S2, S' = (S2, S.2) ∧ lApt aM oA S2 ∧ ansV [eB, eA, eS] W9 (B + 15) x (oLock S.2.1 p0 p1 p2 p3) r S2) (xCR_VC (n := 4) (ci := 8) rfl X (semX7_lock l hl W9) gL_lock_X7_lock rfl rfl (by decide +kernel) ⟨by show 8 + 1 ≤ 9; omega, by show 8 + (6 + 11) + 131 ≤ 156; omega⟩) B9.bytes (by decide +kernel) rfl rfl rfl (fun _ => Or.inr (Or.inl ⟨hdj.fr (live_of (RR_k hRR) (by omega)), RR_k hRR, by omega⟩)) (by show 0 ≤ 8; omega) (by show 0 + 4 ≤ 4; omega) (by show 0 + 24 ≤ 24; omega) ⟨hdj, Q_lock hRR hz (fun r S2 ha hd2 => ⟨S2, rfl, hd2, RR_up ha.1 (by omega) hB, ha.2⟩)⟩ (fun v S' hk2 => ?_) (fun ex S' hk2 => ?_)
  · obtain ⟨S2, rfl, hd2, ha1, ha2⟩ := hk2
    by_cases z0 : (oLock S.2.1 p0 p1 p2 p3).1 0 = 0
    · rw [if_pos z0] at ha2
      cases ha2
      have hf := hk S2 ha1 hd2
      rw [z0] at hf
      exact wg_endV (n2 := 15) (z := 24) X B9.bytes B9.returns B9.notSynchronized (by decide +kernel) (by decide) (by decide +kernel) (by decide +kernel) (by show 0 + 4 ≤ 4; omega) (by show 0 + 24 ≤ 24; omega) hf
    · rw [if_neg z0] at ha2
      cases ha2
  · obtain ⟨S2, rfl, hd2, ha1, ha2⟩ := hk2
    rcases @cd_lock S.2.1 p0 p1 p2 p3 with z0 | z1 | z2 | z3
    · rw [if_pos z0] at ha2
      cases ha2
    · rw [if_neg (by rw [z1]; decide), z1] at ha2
      have he : ex = eB := Sum.inr.inj ha2
      subst he
      have hf := hk S2 ha1 hd2
      rw [z1] at hf
      intro H locs ls rest q ce hlv hR2 hO2 hS2 hce hcv hcl
      exact vx_catch (name := eB) (E := eB) hown [] ⟨0, 9, 12, 13⟩ [⟨0, 9, 16, 15⟩, ⟨0, 9, 20, 17⟩] htab (fun _ h => nomatch h) rfl (by decide) (hts _ (by decide +kernel)) (xExtra_use hAmb.2.2.2.2.1.2.2 _ (by decide +kernel)) hce hcv hcl (wg_h (z := 1) (k := 5) (n := 2) X B9.bytes B9.returns B9.notSynchronized (Or.inr ⟨(by decide +kernel), rfl⟩) (by omega) (by decide +kernel) (by decide +kernel) (by show 0 + 4 ≤ 4; omega) (by show 0 + 24 ≤ 24; omega) hf H locs ls hlv hR2 hO2 hS2)
    · rw [if_neg (by rw [z2]; decide), z2] at ha2
      have he : ex = eA := Sum.inr.inj ha2
      subst he
      have hf := hk S2 ha1 hd2
      rw [z2] at hf
      intro H locs ls rest q ce hlv hR2 hO2 hS2 hce hcv hcl
      exact vx_catch (name := eA) (E := eA) hown [⟨0, 9, 12, 13⟩] ⟨0, 9, 16, 15⟩ [⟨0, 9, 20, 17⟩] htab (List.forall_mem_cons.mpr ⟨Or.inr ⟨by decide, eB, hts _ (by decide +kernel), hN.1⟩, (fun _ h => nomatch h)⟩) rfl (by decide) (hts _ (by decide +kernel)) (xExtra_use hAmb.2.2.2.2.1.2.2 _ (by decide +kernel)) hce hcv hcl (wg_h (z := 2) (k := 5) (n := 2) X B9.bytes B9.returns B9.notSynchronized (Or.inr ⟨(by decide +kernel), rfl⟩) (by omega) (by decide +kernel) (by decide +kernel) (by show 0 + 4 ≤ 4; omega) (by show 0 + 24 ≤ 24; omega) hf H locs ls hlv hR2 hO2 hS2)
    · rw [if_neg (by rw [z3]; decide), z3] at ha2
      have he : ex = eS := Sum.inr.inj ha2
      subst he
      have hf := hk S2 ha1 hd2
      rw [z3] at hf
      intro H locs ls rest q ce hlv hR2 hO2 hS2 hce hcv hcl
      exact vx_catch (name := eS) (E := eS) hown [⟨0, 9, 12, 13⟩, ⟨0, 9, 16, 15⟩] ⟨0, 9, 20, 17⟩ [] htab (List.forall_mem_cons.mpr ⟨Or.inr ⟨by decide, eB, hts _ (by decide +kernel), hN.2.1⟩, (List.forall_mem_cons.mpr ⟨Or.inr ⟨by decide, eA, hts _ (by decide +kernel), hN.2.2⟩, (fun _ h => nomatch h)⟩)⟩) rfl (by decide) (hts _ (by decide +kernel)) (xExtra_use hAmb.2.2.2.2.1.2.2 _ (by decide +kernel)) hce hcv hcl (wg_h (z := 3) (k := 5) (n := 2) X B9.bytes B9.returns B9.notSynchronized (Or.inr ⟨(by decide +kernel), rfl⟩) (by omega) (by decide +kernel) (by decide +kernel) (by show 0 + 4 ≤ 4; omega) (by show 0 + 24 ≤ 24; omega) hf H locs ls hlv hR2 hO2 hS2)

def spL_dredge (W9 : xWd) (aM : Nat → Nat) (oA : Nat) : xSp lS := (fun av S => (3, 18), fun av S K => ∃ (x : Nat) (p0 p1 : Int32) (B : Nat), av = [.ref x, .int p0, .int p1, .ref oA] ∧ (RR W9 B x S.1 S.2.1 ∧ B + 15 ≤ 8000 ∧ lApt aM oA S.1) ∧ (∀ S2 z9, RR W9 (B + 15) x S2 (oDredge S.2.1 p0 p1).2 → lApt aM oA S2 → ((oDredge S.2.1 p0 p1).2.1 0 = 0 → z9 = (oDredge S.2.1 p0 p1).1.toInt64) → K (rI ((oDredge S.2.1 p0 p1).2.1 0)) (S2, S.2.1, z9)))
theorem spcL_dredge {W9 : xWd} {aM : Nat → Nat} {oA : Nat} {av : List Value} {S : lS} : (spL_dredge W9 aM oA).1 av S = (3, 18) := rfl

set_option maxHeartbeats 1000000 in
set_option maxRecDepth 20000 in
theorem semL_dredge (l : Launch) (hl : l.stackTraces = false) (W9 : xWd) (aM : Nat → Nat) (oA : Nat) : lSem l W9 aM oA yL_dredge wsL_dredge 8 135 (spL_dredge W9 aM oA) := by
  intro av S sz KF hsp
  obtain ⟨x, p0, p1, B, rfl, ⟨hRR, hB, hdj⟩, hk⟩ := hsp
  refine vx_ofWH (cc := cL_dredge) (maxL := 5) (ret := some .int) (hh := [(0, 10, 13, 13), (0, 10, 17, 15), (0, 10, 21, 17)]) (by decide +kernel) rfl ?_
  intro p e s m args below meth c s₁ B9 hml hv
  obtain ⟨rfl, hsz, hR, hAmb, hN⟩ := hv
  subst hsz
  have hts := atoms_spec (ws := wsL_dredge) B9.pre
  have htab := vx_table (x := yL_dredge) B9 (hts _ List.mem_cons_self)
  have hown : s.vm.findClass RL = some m.cls := findClass_of_methodNamed B9.named
  have X : xCtxL W9 (lE aM oA 3 18 KF) (xReg (lI aM oA) (wY W9) S s.heap.size) p s m [.ref x, .int p0, .int p1, .ref oA].toArray c 5 RL wsL_dredge := ⟨B9.exec, hml, hown, hts, lI_law, hAmb, fun q h => Or.inr h⟩
  rw [lg_entry_eq]
  refine (?_ : wG (lE aM oA 3 18 KF) W9 (xReg (lI aM oA) (wY W9) S s.heap.size) p l e _ s m [.ref x, .int p0, .int p1, .ref oA].toArray below meth c 5 0 (xEntry 5 [.ref x, .int p0, .int p1, .ref oA]) [] S 0 0) s.heap [] _ (xentry_ok (by intro v hv; simp only [List.mem_cons, List.not_mem_nil, or_false] at hv; rcases hv with rfl | rfl | rfl | rfl <;> rfl) (Nat.le_of_ble_eq_true rfl)) hR (fun a x h => Or.inl ⟨x, h⟩) va_S.rf
  refine wg_aln (u := 3) (k := 3) X.1 B9.bytes (by decide +kernel) rfl rfl ?_
  refine wg_ic (z := 0) X.1 B9.bytes (by decide +kernel) ?_
  refine wg_aln (u := 0) (k := 0) X.1 B9.bytes (by decide +kernel) rfl rfl ?_
  refine wg_iln (u := 1) (k := 1) X.1 B9.bytes (by decide +kernel) rfl rfl ?_
  refine wg_iln (u := 2) (k := 2) X.1 B9.bytes (by decide +kernel) rfl rfl ?_
  refine wg_call (i := .invokevirtual 23) (len := 3) (av := [.ref x, .int p0, .int p1]) (rest := [.int 0, .ref oA]) (KF := fun r S' => ∃ S2, S' = (S2, S.2) ∧ lApt aM oA S2 ∧ ans [eB, eA, eS] W9 (B + 15) x (oDredge S.2.1 p0 p1) r S2) (xCR_VC (n := 2) (ci := 8) rfl X (semX7_dredge l hl W9) gL_dredge_X7_dredge rfl rfl (by decide +kernel) ⟨by show 7 + 1 ≤ 8; omega, by show 8 + (4 + 11) + 112 ≤ 135; omega⟩) B9.bytes (by decide +kernel) rfl rfl rfl (fun _ => Or.inr (Or.inl ⟨hdj.fr (live_of (RR_k hRR) (by omega)), RR_k hRR, by omega⟩)) (by show 1 + (1 + 0) ≤ 8; omega) (by show 0 + 3 ≤ 3; omega) (by show 0 + 18 ≤ 18; omega) ⟨hdj, Q_dredge hRR (fun r S2 ha hd2 => ⟨S2, rfl, hd2, RR_up ha.1 (by omega) hB, ha.2⟩)⟩ (fun v S' hk2 => ?_) (fun ex S' hk2 => ?_)
  · obtain ⟨S2, rfl, hd2, ha1, ha2⟩ := hk2
    unfold rZ at ha2
    by_cases z0 : (oDredge S.2.1 p0 p1).2.1 0 = 0
    · rw [if_pos z0] at ha2
      cases ha2
      have hf := hk S2 _ ha1 hd2 (fun _ => rfl)
      rw [z0] at hf
      exact wg_end (n2 := 15) (z := 25) rfl X B9.bytes B9.returns B9.notSynchronized (by decide +kernel) (by decide +kernel) (by decide +kernel) (by decide) (by decide +kernel) (by decide +kernel) (by show 0 + 3 ≤ 3; omega) (by show 0 + 18 ≤ 18; omega) rfl rfl hf
    · rw [if_neg z0] at ha2
      cases ha2
  · obtain ⟨S2, rfl, hd2, ha1, ha2⟩ := hk2
    unfold rZ at ha2
    rcases @cd_dredge S.2.1 p0 p1 with z0 | z1 | z2 | z3
    · rw [if_pos z0] at ha2
      cases ha2
    · rw [if_neg (by rw [z1]; decide), z1] at ha2
      have he : ex = eB := Sum.inr.inj ha2
      subst he
      have hf := hk S2 S.2.2 ha1 hd2 (fun z => absurd z (by rw [z1]; decide))
      rw [z1] at hf
      intro H locs ls rest q ce hlv hR2 hO2 hS2 hce hcv hcl
      exact vx_catch (name := eB) (E := eB) hown [] ⟨0, 10, 13, 13⟩ [⟨0, 10, 17, 15⟩, ⟨0, 10, 21, 17⟩] htab (fun _ h => nomatch h) rfl (by decide) (hts _ (by decide +kernel)) (xExtra_use hAmb.2.2.2.2.1.2.2 _ (by decide +kernel)) hce hcv hcl (wg_h (z := 1) (k := 4) (n := 2) X B9.bytes B9.returns B9.notSynchronized (Or.inr ⟨(by decide +kernel), rfl⟩) (by omega) (by decide +kernel) (by decide +kernel) (by show 0 + 3 ≤ 3; omega) (by show 0 + 18 ≤ 18; omega) hf H locs ls hlv hR2 hO2 hS2)
    · rw [if_neg (by rw [z2]; decide), z2] at ha2
      have he : ex = eA := Sum.inr.inj ha2
      subst he
      have hf := hk S2 S.2.2 ha1 hd2 (fun z => absurd z (by rw [z2]; decide))
      rw [z2] at hf
      intro H locs ls rest q ce hlv hR2 hO2 hS2 hce hcv hcl
      exact vx_catch (name := eA) (E := eA) hown [⟨0, 10, 13, 13⟩] ⟨0, 10, 17, 15⟩ [⟨0, 10, 21, 17⟩] htab (List.forall_mem_cons.mpr ⟨Or.inr ⟨by decide, eB, hts _ (by decide +kernel), hN.1⟩, (fun _ h => nomatch h)⟩) rfl (by decide) (hts _ (by decide +kernel)) (xExtra_use hAmb.2.2.2.2.1.2.2 _ (by decide +kernel)) hce hcv hcl (wg_h (z := 2) (k := 4) (n := 2) X B9.bytes B9.returns B9.notSynchronized (Or.inr ⟨(by decide +kernel), rfl⟩) (by omega) (by decide +kernel) (by decide +kernel) (by show 0 + 3 ≤ 3; omega) (by show 0 + 18 ≤ 18; omega) hf H locs ls hlv hR2 hO2 hS2)
    · rw [if_neg (by rw [z3]; decide), z3] at ha2
      have he : ex = eS := Sum.inr.inj ha2
      subst he
      have hf := hk S2 S.2.2 ha1 hd2 (fun z => absurd z (by rw [z3]; decide))
      rw [z3] at hf
      intro H locs ls rest q ce hlv hR2 hO2 hS2 hce hcv hcl
      exact vx_catch (name := eS) (E := eS) hown [⟨0, 10, 13, 13⟩, ⟨0, 10, 17, 15⟩] ⟨0, 10, 21, 17⟩ [] htab (List.forall_mem_cons.mpr ⟨Or.inr ⟨by decide, eB, hts _ (by decide +kernel), hN.2.1⟩, (List.forall_mem_cons.mpr ⟨Or.inr ⟨by decide, eA, hts _ (by decide +kernel), hN.2.2⟩, (fun _ h => nomatch h)⟩)⟩) rfl (by decide) (hts _ (by decide +kernel)) (xExtra_use hAmb.2.2.2.2.1.2.2 _ (by decide +kernel)) hce hcv hcl (wg_h (z := 3) (k := 4) (n := 2) X B9.bytes B9.returns B9.notSynchronized (Or.inr ⟨(by decide +kernel), rfl⟩) (by omega) (by decide +kernel) (by decide +kernel) (by show 0 + 3 ≤ 3; omega) (by show 0 + 18 ≤ 18; omega) hf H locs ls hlv hR2 hO2 hS2)

def spL_weather (W9 : xWd) (aM : Nat → Nat) (oA : Nat) : xSp lS := (fun av S => (2, 12), fun av S K => ∃ (x : Nat) (p0 p1 p2 : Int32) (B : Nat), av = [.ref x, .int p0, .int p1, .int p2, .ref oA] ∧ (p2 = 0 ∨ p2 = 1) ∧ (RR W9 B x S.1 S.2.1 ∧ B + 15 ≤ 8000 ∧ lApt aM oA S.1) ∧ (∀ S2 z9, RR W9 (B + 15) x S2 (oWeather S.2.1 p0 p1 p2).2 → lApt aM oA S2 → ((oWeather S.2.1 p0 p1 p2).2.1 0 = 0 → z9 = (oWeather S.2.1 p0 p1 p2).1.toInt64) → K (rI ((oWeather S.2.1 p0 p1 p2).2.1 0)) (S2, S.2.1, z9)))
theorem spcL_weather {W9 : xWd} {aM : Nat → Nat} {oA : Nat} {av : List Value} {S : lS} : (spL_weather W9 aM oA).1 av S = (2, 12) := rfl

set_option maxHeartbeats 1000000 in
set_option maxRecDepth 20000 in
theorem semL_weather (l : Launch) (hl : l.stackTraces = false) (W9 : xWd) (aM : Nat → Nat) (oA : Nat) : lSem l W9 aM oA yL_weather wsL_weather 8 137 (spL_weather W9 aM oA) := by
  intro av S sz KF hsp
  obtain ⟨x, p0, p1, p2, B, rfl, hz, ⟨hRR, hB, hdj⟩, hk⟩ := hsp
  refine vx_ofWH (cc := cL_weather) (maxL := 6) (ret := some .int) (hh := [(0, 12, 15, 13), (0, 12, 19, 15)]) (by decide +kernel) rfl ?_
  intro p e s m args below meth c s₁ B9 hml hv
  obtain ⟨rfl, hsz, hR, hAmb, hN⟩ := hv
  subst hsz
  have hts := atoms_spec (ws := wsL_weather) B9.pre
  have htab := vx_table (x := yL_weather) B9 (hts _ List.mem_cons_self)
  have hown : s.vm.findClass RL = some m.cls := findClass_of_methodNamed B9.named
  have X : xCtxL W9 (lE aM oA 2 12 KF) (xReg (lI aM oA) (wY W9) S s.heap.size) p s m [.ref x, .int p0, .int p1, .int p2, .ref oA].toArray c 6 RL wsL_weather := ⟨B9.exec, hml, hown, hts, lI_law, hAmb, fun q h => Or.inr h⟩
  rw [lg_entry_eq]
  refine (?_ : wG (lE aM oA 2 12 KF) W9 (xReg (lI aM oA) (wY W9) S s.heap.size) p l e _ s m [.ref x, .int p0, .int p1, .int p2, .ref oA].toArray below meth c 6 0 (xEntry 6 [.ref x, .int p0, .int p1, .int p2, .ref oA]) [] S 0 0) s.heap [] _ (xentry_ok (by intro v hv; simp only [List.mem_cons, List.not_mem_nil, or_false] at hv; rcases hv with rfl | rfl | rfl | rfl | rfl <;> rfl) (Nat.le_of_ble_eq_true rfl)) hR (fun a x h => Or.inl ⟨x, h⟩) va_S.rf
  refine wg_al (k := 4) X.1 B9.bytes (by decide +kernel) rfl ?_
  refine wg_ic (z := 0) X.1 B9.bytes (by decide +kernel) ?_
  refine wg_aln (u := 0) (k := 0) X.1 B9.bytes (by decide +kernel) rfl rfl ?_
  refine wg_iln (u := 1) (k := 1) X.1 B9.bytes (by decide +kernel) rfl rfl ?_
  refine wg_iln (u := 2) (k := 2) X.1 B9.bytes (by decide +kernel) rfl rfl ?_
  refine wg_iln (u := 3) (k := 3) X.1 B9.bytes (by decide +kernel) rfl rfl ?_
  refine wg_call (i := .invokevirtual 30) (len := 3) (av := [.ref x, .int p0, .int p1, .int p2]) (rest := [.int 0, .ref oA]) (KF := fun r S' => ∃ S2, S' = (S2, S.2) ∧ lApt aM oA S2 ∧ ans [eB, eA] W9 (B + 15) x (oWeather S.2.1 p0 p1 p2) r S2) (xCR_VC (n := 3) (ci := 8) rfl X (semX7_weather l hl W9) gL_weather_X7_weather rfl rfl (by decide +kernel) ⟨by show 7 + 1 ≤ 8; omega, by show 8 + (6 + 11) + 112 ≤ 137; omega⟩) B9.bytes (by decide +kernel) rfl rfl rfl (fun _ => Or.inr (Or.inl ⟨hdj.fr (live_of (RR_k hRR) (by omega)), RR_k hRR, by omega⟩)) (by show 1 + (1 + 0) ≤ 8; omega) (by show 0 + 2 ≤ 2; omega) (by show 0 + 12 ≤ 12; omega) ⟨hdj, Q_weather hRR hz (fun r S2 ha hd2 => ⟨S2, rfl, hd2, RR_up ha.1 (by omega) hB, ha.2⟩)⟩ (fun v S' hk2 => ?_) (fun ex S' hk2 => ?_)
  · obtain ⟨S2, rfl, hd2, ha1, ha2⟩ := hk2
    unfold rZ at ha2
    by_cases z0 : (oWeather S.2.1 p0 p1 p2).2.1 0 = 0
    · rw [if_pos z0] at ha2
      cases ha2
      have hf := hk S2 _ ha1 hd2 (fun _ => rfl)
      rw [z0] at hf
      exact wg_end (n2 := 11) (z := 23) rfl X B9.bytes B9.returns B9.notSynchronized (by decide +kernel) (by decide +kernel) (by decide +kernel) (by decide) (by decide +kernel) (by decide +kernel) (by show 0 + 2 ≤ 2; omega) (by show 0 + 12 ≤ 12; omega) rfl rfl hf
    · rw [if_neg z0] at ha2
      cases ha2
  · obtain ⟨S2, rfl, hd2, ha1, ha2⟩ := hk2
    unfold rZ at ha2
    rcases @cd_weather S.2.1 p0 p1 p2 with z0 | z1 | z2
    · rw [if_pos z0] at ha2
      cases ha2
    · rw [if_neg (by rw [z1]; decide), z1] at ha2
      have he : ex = eB := Sum.inr.inj ha2
      subst he
      have hf := hk S2 S.2.2 ha1 hd2 (fun z => absurd z (by rw [z1]; decide))
      rw [z1] at hf
      intro H locs ls rest q ce hlv hR2 hO2 hS2 hce hcv hcl
      exact vx_catch (name := eB) (E := eB) hown [] ⟨0, 12, 15, 13⟩ [⟨0, 12, 19, 15⟩] htab (fun _ h => nomatch h) rfl (by decide) (hts _ (by decide +kernel)) (xExtra_use hAmb.2.2.2.2.1.2.2 _ (by decide +kernel)) hce hcv hcl (wg_h (z := 1) (k := 5) (n := 2) X B9.bytes B9.returns B9.notSynchronized (Or.inr ⟨(by decide +kernel), rfl⟩) (by omega) (by decide +kernel) (by decide +kernel) (by show 0 + 2 ≤ 2; omega) (by show 0 + 12 ≤ 12; omega) hf H locs ls hlv hR2 hO2 hS2)
    · rw [if_neg (by rw [z2]; decide), z2] at ha2
      have he : ex = eA := Sum.inr.inj ha2
      subst he
      have hf := hk S2 S.2.2 ha1 hd2 (fun z => absurd z (by rw [z2]; decide))
      rw [z2] at hf
      intro H locs ls rest q ce hlv hR2 hO2 hS2 hce hcv hcl
      exact vx_catch (name := eA) (E := eA) hown [⟨0, 12, 15, 13⟩] ⟨0, 12, 19, 15⟩ [] htab (List.forall_mem_cons.mpr ⟨Or.inr ⟨by decide, eB, hts _ (by decide +kernel), hN.1⟩, (fun _ h => nomatch h)⟩) rfl (by decide) (hts _ (by decide +kernel)) (xExtra_use hAmb.2.2.2.2.1.2.2 _ (by decide +kernel)) hce hcv hcl (wg_h (z := 2) (k := 5) (n := 2) X B9.bytes B9.returns B9.notSynchronized (Or.inr ⟨(by decide +kernel), rfl⟩) (by omega) (by decide +kernel) (by decide +kernel) (by show 0 + 2 ≤ 2; omega) (by show 0 + 12 ≤ 12; omega) hf H locs ls hlv hR2 hO2 hS2)

def spL_stage (W9 : xWd) (aM : Nat → Nat) (oA : Nat) : xSp lS := (fun av S => (2, 12), fun av S K => ∃ (x : Nat) (p0 p1 : Int32) (B : Nat), av = [.ref x, .int p0, .int p1, .ref oA] ∧ (RR W9 B x S.1 S.2.1 ∧ B + 15 ≤ 8000 ∧ lApt aM oA S.1) ∧ (∀ S2 z9, RR W9 (B + 15) x S2 (oStage S.2.1 p0 p1).2 → lApt aM oA S2 → ((oStage S.2.1 p0 p1).2.1 0 = 0 → z9 = (oStage S.2.1 p0 p1).1.toInt64) → K (rI ((oStage S.2.1 p0 p1).2.1 0)) (S2, S.2.1, z9)))
theorem spcL_stage {W9 : xWd} {aM : Nat → Nat} {oA : Nat} {av : List Value} {S : lS} : (spL_stage W9 aM oA).1 av S = (2, 12) := rfl

set_option maxHeartbeats 1000000 in
set_option maxRecDepth 20000 in
theorem semL_stage (l : Launch) (hl : l.stackTraces = false) (W9 : xWd) (aM : Nat → Nat) (oA : Nat) : lSem l W9 aM oA yL_stage wsL_stage 8 135 (spL_stage W9 aM oA) := by
  intro av S sz KF hsp
  obtain ⟨x, p0, p1, B, rfl, ⟨hRR, hB, hdj⟩, hk⟩ := hsp
  refine vx_ofWH (cc := cL_stage) (maxL := 5) (ret := some .int) (hh := [(0, 10, 13, 15)]) (by decide +kernel) rfl ?_
  intro p e s m args below meth c s₁ B9 hml hv
  obtain ⟨rfl, hsz, hR, hAmb, hN⟩ := hv
  subst hsz
  have hts := atoms_spec (ws := wsL_stage) B9.pre
  have htab := vx_table (x := yL_stage) B9 (hts _ List.mem_cons_self)
  have hown : s.vm.findClass RL = some m.cls := findClass_of_methodNamed B9.named
  have X : xCtxL W9 (lE aM oA 2 12 KF) (xReg (lI aM oA) (wY W9) S s.heap.size) p s m [.ref x, .int p0, .int p1, .ref oA].toArray c 5 RL wsL_stage := ⟨B9.exec, hml, hown, hts, lI_law, hAmb, fun q h => Or.inr h⟩
  rw [lg_entry_eq]
  refine (?_ : wG (lE aM oA 2 12 KF) W9 (xReg (lI aM oA) (wY W9) S s.heap.size) p l e _ s m [.ref x, .int p0, .int p1, .ref oA].toArray below meth c 5 0 (xEntry 5 [.ref x, .int p0, .int p1, .ref oA]) [] S 0 0) s.heap [] _ (xentry_ok (by intro v hv; simp only [List.mem_cons, List.not_mem_nil, or_false] at hv; rcases hv with rfl | rfl | rfl | rfl <;> rfl) (Nat.le_of_ble_eq_true rfl)) hR (fun a x h => Or.inl ⟨x, h⟩) va_S.rf
  refine wg_aln (u := 3) (k := 3) X.1 B9.bytes (by decide +kernel) rfl rfl ?_
  refine wg_ic (z := 0) X.1 B9.bytes (by decide +kernel) ?_
  refine wg_aln (u := 0) (k := 0) X.1 B9.bytes (by decide +kernel) rfl rfl ?_
  refine wg_iln (u := 1) (k := 1) X.1 B9.bytes (by decide +kernel) rfl rfl ?_
  refine wg_iln (u := 2) (k := 2) X.1 B9.bytes (by decide +kernel) rfl rfl ?_
  refine wg_call (i := .invokevirtual 27) (len := 3) (av := [.ref x, .int p0, .int p1]) (rest := [.int 0, .ref oA]) (KF := fun r S' => ∃ S2, S' = (S2, S.2) ∧ lApt aM oA S2 ∧ ans [eA] W9 (B + 15) x (oStage S.2.1 p0 p1) r S2) (xCR_VC (n := 2) (ci := 8) rfl X (semX7_stage l hl W9) gL_stage_X7_stage rfl rfl (by decide +kernel) ⟨by show 7 + 1 ≤ 8; omega, by show 8 + (4 + 11) + 112 ≤ 135; omega⟩) B9.bytes (by decide +kernel) rfl rfl rfl (fun _ => Or.inr (Or.inl ⟨hdj.fr (live_of (RR_k hRR) (by omega)), RR_k hRR, by omega⟩)) (by show 1 + (1 + 0) ≤ 8; omega) (by show 0 + 2 ≤ 2; omega) (by show 0 + 12 ≤ 12; omega) ⟨hdj, Q_stage hRR (fun r S2 ha hd2 => ⟨S2, rfl, hd2, RR_up ha.1 (by omega) hB, ha.2⟩)⟩ (fun v S' hk2 => ?_) (fun ex S' hk2 => ?_)
  · obtain ⟨S2, rfl, hd2, ha1, ha2⟩ := hk2
    unfold rZ at ha2
    by_cases z0 : (oStage S.2.1 p0 p1).2.1 0 = 0
    · rw [if_pos z0] at ha2
      cases ha2
      have hf := hk S2 _ ha1 hd2 (fun _ => rfl)
      rw [z0] at hf
      exact wg_end (n2 := 7) (z := 17) rfl X B9.bytes B9.returns B9.notSynchronized (by decide +kernel) (by decide +kernel) (by decide +kernel) (by decide) (by decide +kernel) (by decide +kernel) (by show 0 + 2 ≤ 2; omega) (by show 0 + 12 ≤ 12; omega) rfl rfl hf
    · rw [if_neg z0] at ha2
      cases ha2
  · obtain ⟨S2, rfl, hd2, ha1, ha2⟩ := hk2
    unfold rZ at ha2
    rcases @cd_stage S.2.1 p0 p1 with z0 | z1
    · rw [if_pos z0] at ha2
      cases ha2
    · rw [if_neg (by rw [z1]; decide), z1] at ha2
      have he : ex = eA := Sum.inr.inj ha2
      subst he
      have hf := hk S2 S.2.2 ha1 hd2 (fun z => absurd z (by rw [z1]; decide))
      rw [z1] at hf
      intro H locs ls rest q ce hlv hR2 hO2 hS2 hce hcv hcl
      exact vx_catch (name := eA) (E := eA) hown [] ⟨0, 10, 13, 15⟩ [] htab (fun _ h => nomatch h) rfl (by decide) (hts _ (by decide +kernel)) (xExtra_use hAmb.2.2.2.2.1.2.2 _ (by decide +kernel)) hce hcv hcl (wg_h (z := 1) (k := 4) (n := 2) X B9.bytes B9.returns B9.notSynchronized (Or.inr ⟨(by decide +kernel), rfl⟩) (by omega) (by decide +kernel) (by decide +kernel) (by show 0 + 2 ≤ 2; omega) (by show 0 + 12 ≤ 12; omega) hf H locs ls hlv hR2 hO2 hS2)

def spL_bank (W9 : xWd) (aM : Nat → Nat) (oA : Nat) : xSp lS := (fun av S => (5, 30), fun av S K => ∃ (x : Nat) (p0 p1 p2 : Int32) (B : Nat), av = [.ref x, .int p0, .int p1, .int p2, .ref oA] ∧ (RR W9 B x S.1 S.2.1 ∧ B + 15 ≤ 8000 ∧ lApt aM oA S.1) ∧ (∀ S2 z9, RR W9 (B + 15) x S2 (oBank S.2.1 p0 p1 p2).2 → lApt aM oA S2 → ((oBank S.2.1 p0 p1 p2).2.1 0 = 0 → z9 = (oBank S.2.1 p0 p1 p2).1.toInt64) → K (rI ((oBank S.2.1 p0 p1 p2).2.1 0)) (S2, S.2.1, z9)))
theorem spcL_bank {W9 : xWd} {aM : Nat → Nat} {oA : Nat} {av : List Value} {S : lS} : (spL_bank W9 aM oA).1 av S = (5, 30) := rfl

set_option maxHeartbeats 1000000 in
set_option maxRecDepth 20000 in
theorem semL_bank (l : Launch) (hl : l.stackTraces = false) (W9 : xWd) (aM : Nat → Nat) (oA : Nat) : lSem l W9 aM oA yL_bank wsL_bank 10 179 (spL_bank W9 aM oA) := by
  intro av S sz KF hsp
  obtain ⟨x, p0, p1, p2, B, rfl, ⟨hRR, hB, hdj⟩, hk⟩ := hsp
  refine vx_ofWH (cc := cL_bank) (maxL := 6) (ret := some .int) (hh := [(0, 12, 15, 13), (0, 12, 19, 15), (0, 12, 23, 17)]) (by decide +kernel) rfl ?_
  intro p e s m args below meth c s₁ B9 hml hv
  obtain ⟨rfl, hsz, hR, hAmb, hN⟩ := hv
  subst hsz
  have hts := atoms_spec (ws := wsL_bank) B9.pre
  have htab := vx_table (x := yL_bank) B9 (hts _ List.mem_cons_self)
  have hown : s.vm.findClass RL = some m.cls := findClass_of_methodNamed B9.named
  have X : xCtxL W9 (lE aM oA 5 30 KF) (xReg (lI aM oA) (wY W9) S s.heap.size) p s m [.ref x, .int p0, .int p1, .int p2, .ref oA].toArray c 6 RL wsL_bank := ⟨B9.exec, hml, hown, hts, lI_law, hAmb, fun q h => Or.inr h⟩
  rw [lg_entry_eq]
  refine (?_ : wG (lE aM oA 5 30 KF) W9 (xReg (lI aM oA) (wY W9) S s.heap.size) p l e _ s m [.ref x, .int p0, .int p1, .int p2, .ref oA].toArray below meth c 6 0 (xEntry 6 [.ref x, .int p0, .int p1, .int p2, .ref oA]) [] S 0 0) s.heap [] _ (xentry_ok (by intro v hv; simp only [List.mem_cons, List.not_mem_nil, or_false] at hv; rcases hv with rfl | rfl | rfl | rfl | rfl <;> rfl) (Nat.le_of_ble_eq_true rfl)) hR (fun a x h => Or.inl ⟨x, h⟩) va_S.rf
  refine wg_al (k := 4) X.1 B9.bytes (by decide +kernel) rfl ?_
  refine wg_ic (z := 0) X.1 B9.bytes (by decide +kernel) ?_
  refine wg_aln (u := 0) (k := 0) X.1 B9.bytes (by decide +kernel) rfl rfl ?_
  refine wg_iln (u := 1) (k := 1) X.1 B9.bytes (by decide +kernel) rfl rfl ?_
  refine wg_iln (u := 2) (k := 2) X.1 B9.bytes (by decide +kernel) rfl rfl ?_
  refine wg_iln (u := 3) (k := 3) X.1 B9.bytes (by decide +kernel) rfl rfl ?_
  refine wg_call (i := .invokevirtual 34) (len := 3) (av := [.ref x, .int p0, .int p1, .int p2]) (rest := [.int 0, .ref oA]) (KF := fun r S' => ∃ S2, S' = (S2, S.2) ∧ lApt aM oA S2 ∧ ans [eB, eA, eS] W9 (B + 15) x (oBank S.2.1 p0 p1 p2) r S2) (xCR_VC (n := 3) (ci := 8) rfl X (semX7_bank l hl W9) gL_bank_X7_bank rfl rfl (by decide +kernel) ⟨by show 9 + 1 ≤ 10; omega, by show 8 + (6 + 11) + 154 ≤ 179; omega⟩) B9.bytes (by decide +kernel) rfl rfl rfl (fun _ => Or.inr (Or.inl ⟨hdj.fr (live_of (RR_k hRR) (by omega)), RR_k hRR, by omega⟩)) (by show 1 + (1 + 0) ≤ 8; omega) (by show 0 + 5 ≤ 5; omega) (by show 0 + 30 ≤ 30; omega) ⟨hdj, Q_bank hRR (fun r S2 ha hd2 => ⟨S2, rfl, hd2, RR_up ha.1 (by omega) hB, ha.2⟩)⟩ (fun v S' hk2 => ?_) (fun ex S' hk2 => ?_)
  · obtain ⟨S2, rfl, hd2, ha1, ha2⟩ := hk2
    unfold rZ at ha2
    by_cases z0 : (oBank S.2.1 p0 p1 p2).2.1 0 = 0
    · rw [if_pos z0] at ha2
      cases ha2
      have hf := hk S2 _ ha1 hd2 (fun _ => rfl)
      rw [z0] at hf
      exact wg_end (n2 := 15) (z := 27) rfl X B9.bytes B9.returns B9.notSynchronized (by decide +kernel) (by decide +kernel) (by decide +kernel) (by decide) (by decide +kernel) (by decide +kernel) (by show 0 + 5 ≤ 5; omega) (by show 0 + 30 ≤ 30; omega) rfl rfl hf
    · rw [if_neg z0] at ha2
      cases ha2
  · obtain ⟨S2, rfl, hd2, ha1, ha2⟩ := hk2
    unfold rZ at ha2
    rcases @cd_bank S.2.1 p0 p1 p2 with z0 | z1 | z2 | z3
    · rw [if_pos z0] at ha2
      cases ha2
    · rw [if_neg (by rw [z1]; decide), z1] at ha2
      have he : ex = eB := Sum.inr.inj ha2
      subst he
      have hf := hk S2 S.2.2 ha1 hd2 (fun z => absurd z (by rw [z1]; decide))
      rw [z1] at hf
      intro H locs ls rest q ce hlv hR2 hO2 hS2 hce hcv hcl
      exact vx_catch (name := eB) (E := eB) hown [] ⟨0, 12, 15, 13⟩ [⟨0, 12, 19, 15⟩, ⟨0, 12, 23, 17⟩] htab (fun _ h => nomatch h) rfl (by decide) (hts _ (by decide +kernel)) (xExtra_use hAmb.2.2.2.2.1.2.2 _ (by decide +kernel)) hce hcv hcl (wg_h (z := 1) (k := 5) (n := 2) X B9.bytes B9.returns B9.notSynchronized (Or.inr ⟨(by decide +kernel), rfl⟩) (by omega) (by decide +kernel) (by decide +kernel) (by show 0 + 5 ≤ 5; omega) (by show 0 + 30 ≤ 30; omega) hf H locs ls hlv hR2 hO2 hS2)
    · rw [if_neg (by rw [z2]; decide), z2] at ha2
      have he : ex = eA := Sum.inr.inj ha2
      subst he
      have hf := hk S2 S.2.2 ha1 hd2 (fun z => absurd z (by rw [z2]; decide))
      rw [z2] at hf
      intro H locs ls rest q ce hlv hR2 hO2 hS2 hce hcv hcl
      exact vx_catch (name := eA) (E := eA) hown [⟨0, 12, 15, 13⟩] ⟨0, 12, 19, 15⟩ [⟨0, 12, 23, 17⟩] htab (List.forall_mem_cons.mpr ⟨Or.inr ⟨by decide, eB, hts _ (by decide +kernel), hN.1⟩, (fun _ h => nomatch h)⟩) rfl (by decide) (hts _ (by decide +kernel)) (xExtra_use hAmb.2.2.2.2.1.2.2 _ (by decide +kernel)) hce hcv hcl (wg_h (z := 2) (k := 5) (n := 2) X B9.bytes B9.returns B9.notSynchronized (Or.inr ⟨(by decide +kernel), rfl⟩) (by omega) (by decide +kernel) (by decide +kernel) (by show 0 + 5 ≤ 5; omega) (by show 0 + 30 ≤ 30; omega) hf H locs ls hlv hR2 hO2 hS2)
    · rw [if_neg (by rw [z3]; decide), z3] at ha2
      have he : ex = eS := Sum.inr.inj ha2
      subst he
      have hf := hk S2 S.2.2 ha1 hd2 (fun z => absurd z (by rw [z3]; decide))
      rw [z3] at hf
      intro H locs ls rest q ce hlv hR2 hO2 hS2 hce hcv hcl
      exact vx_catch (name := eS) (E := eS) hown [⟨0, 12, 15, 13⟩, ⟨0, 12, 19, 15⟩] ⟨0, 12, 23, 17⟩ [] htab (List.forall_mem_cons.mpr ⟨Or.inr ⟨by decide, eB, hts _ (by decide +kernel), hN.2.1⟩, (List.forall_mem_cons.mpr ⟨Or.inr ⟨by decide, eA, hts _ (by decide +kernel), hN.2.2⟩, (fun _ h => nomatch h)⟩)⟩) rfl (by decide) (hts _ (by decide +kernel)) (xExtra_use hAmb.2.2.2.2.1.2.2 _ (by decide +kernel)) hce hcv hcl (wg_h (z := 3) (k := 5) (n := 2) X B9.bytes B9.returns B9.notSynchronized (Or.inr ⟨(by decide +kernel), rfl⟩) (by omega) (by decide +kernel) (by decide +kernel) (by show 0 + 5 ≤ 5; omega) (by show 0 + 30 ≤ 30; omega) hf H locs ls hlv hR2 hO2 hS2)

def spL_divert (W9 : xWd) (aM : Nat → Nat) (oA : Nat) : xSp lS := (fun av S => (3, 18), fun av S K => ∃ (x : Nat) (p0 p1 : Int32) (B : Nat), av = [.ref x, .int p0, .int p1, .ref oA] ∧ (RR W9 B x S.1 S.2.1 ∧ B + 15 ≤ 8000 ∧ lApt aM oA S.1) ∧ (∀ S2 z9, RR W9 (B + 15) x S2 (oDivert S.2.1 p0 p1).2 → lApt aM oA S2 → ((oDivert S.2.1 p0 p1).2.1 0 = 0 → z9 = (oDivert S.2.1 p0 p1).1.toInt64) → K (rI ((oDivert S.2.1 p0 p1).2.1 0)) (S2, S.2.1, z9)))
theorem spcL_divert {W9 : xWd} {aM : Nat → Nat} {oA : Nat} {av : List Value} {S : lS} : (spL_divert W9 aM oA).1 av S = (3, 18) := rfl

set_option maxHeartbeats 1000000 in
set_option maxRecDepth 20000 in
theorem semL_divert (l : Launch) (hl : l.stackTraces = false) (W9 : xWd) (aM : Nat → Nat) (oA : Nat) : lSem l W9 aM oA yL_divert wsL_divert 9 155 (spL_divert W9 aM oA) := by
  intro av S sz KF hsp
  obtain ⟨x, p0, p1, B, rfl, ⟨hRR, hB, hdj⟩, hk⟩ := hsp
  refine vx_ofWH (cc := cL_divert) (maxL := 5) (ret := some .int) (hh := [(0, 10, 13, 13), (0, 10, 17, 15)]) (by decide +kernel) rfl ?_
  intro p e s m args below meth c s₁ B9 hml hv
  obtain ⟨rfl, hsz, hR, hAmb, hN⟩ := hv
  subst hsz
  have hts := atoms_spec (ws := wsL_divert) B9.pre
  have htab := vx_table (x := yL_divert) B9 (hts _ List.mem_cons_self)
  have hown : s.vm.findClass RL = some m.cls := findClass_of_methodNamed B9.named
  have X : xCtxL W9 (lE aM oA 3 18 KF) (xReg (lI aM oA) (wY W9) S s.heap.size) p s m [.ref x, .int p0, .int p1, .ref oA].toArray c 5 RL wsL_divert := ⟨B9.exec, hml, hown, hts, lI_law, hAmb, fun q h => Or.inr h⟩
  rw [lg_entry_eq]
  refine (?_ : wG (lE aM oA 3 18 KF) W9 (xReg (lI aM oA) (wY W9) S s.heap.size) p l e _ s m [.ref x, .int p0, .int p1, .ref oA].toArray below meth c 5 0 (xEntry 5 [.ref x, .int p0, .int p1, .ref oA]) [] S 0 0) s.heap [] _ (xentry_ok (by intro v hv; simp only [List.mem_cons, List.not_mem_nil, or_false] at hv; rcases hv with rfl | rfl | rfl | rfl <;> rfl) (Nat.le_of_ble_eq_true rfl)) hR (fun a x h => Or.inl ⟨x, h⟩) va_S.rf
  refine wg_aln (u := 3) (k := 3) X.1 B9.bytes (by decide +kernel) rfl rfl ?_
  refine wg_ic (z := 0) X.1 B9.bytes (by decide +kernel) ?_
  refine wg_aln (u := 0) (k := 0) X.1 B9.bytes (by decide +kernel) rfl rfl ?_
  refine wg_iln (u := 1) (k := 1) X.1 B9.bytes (by decide +kernel) rfl rfl ?_
  refine wg_iln (u := 2) (k := 2) X.1 B9.bytes (by decide +kernel) rfl rfl ?_
  refine wg_call (i := .invokevirtual 45) (len := 3) (av := [.ref x, .int p0, .int p1]) (rest := [.int 0, .ref oA]) (KF := fun r S' => ∃ S2, S' = (S2, S.2) ∧ lApt aM oA S2 ∧ ans [eB, eA] W9 (B + 15) x (oDivert S.2.1 p0 p1) r S2) (xCR_VC (n := 2) (ci := 8) rfl X (semX7_divert l hl W9) gL_divert_X7_divert rfl rfl (by decide +kernel) ⟨by show 8 + 1 ≤ 9; omega, by show 8 + (5 + 11) + 131 ≤ 155; omega⟩) B9.bytes (by decide +kernel) rfl rfl rfl (fun _ => Or.inr (Or.inl ⟨hdj.fr (live_of (RR_k hRR) (by omega)), RR_k hRR, by omega⟩)) (by show 1 + (1 + 0) ≤ 8; omega) (by show 0 + 3 ≤ 3; omega) (by show 0 + 18 ≤ 18; omega) ⟨hdj, Q_divert hRR (fun r S2 ha hd2 => ⟨S2, rfl, hd2, RR_up ha.1 (by omega) hB, ha.2⟩)⟩ (fun v S' hk2 => ?_) (fun ex S' hk2 => ?_)
  · obtain ⟨S2, rfl, hd2, ha1, ha2⟩ := hk2
    unfold rZ at ha2
    by_cases z0 : (oDivert S.2.1 p0 p1).2.1 0 = 0
    · rw [if_pos z0] at ha2
      cases ha2
      have hf := hk S2 _ ha1 hd2 (fun _ => rfl)
      rw [z0] at hf
      exact wg_end (n2 := 11) (z := 21) rfl X B9.bytes B9.returns B9.notSynchronized (by decide +kernel) (by decide +kernel) (by decide +kernel) (by decide) (by decide +kernel) (by decide +kernel) (by show 0 + 3 ≤ 3; omega) (by show 0 + 18 ≤ 18; omega) rfl rfl hf
    · rw [if_neg z0] at ha2
      cases ha2
  · obtain ⟨S2, rfl, hd2, ha1, ha2⟩ := hk2
    unfold rZ at ha2
    rcases @cd_divert S.2.1 p0 p1 with z0 | z1 | z2
    · rw [if_pos z0] at ha2
      cases ha2
    · rw [if_neg (by rw [z1]; decide), z1] at ha2
      have he : ex = eB := Sum.inr.inj ha2
      subst he
      have hf := hk S2 S.2.2 ha1 hd2 (fun z => absurd z (by rw [z1]; decide))
      rw [z1] at hf
      intro H locs ls rest q ce hlv hR2 hO2 hS2 hce hcv hcl
      exact vx_catch (name := eB) (E := eB) hown [] ⟨0, 10, 13, 13⟩ [⟨0, 10, 17, 15⟩] htab (fun _ h => nomatch h) rfl (by decide) (hts _ (by decide +kernel)) (xExtra_use hAmb.2.2.2.2.1.2.2 _ (by decide +kernel)) hce hcv hcl (wg_h (z := 1) (k := 4) (n := 2) X B9.bytes B9.returns B9.notSynchronized (Or.inr ⟨(by decide +kernel), rfl⟩) (by omega) (by decide +kernel) (by decide +kernel) (by show 0 + 3 ≤ 3; omega) (by show 0 + 18 ≤ 18; omega) hf H locs ls hlv hR2 hO2 hS2)
    · rw [if_neg (by rw [z2]; decide), z2] at ha2
      have he : ex = eA := Sum.inr.inj ha2
      subst he
      have hf := hk S2 S.2.2 ha1 hd2 (fun z => absurd z (by rw [z2]; decide))
      rw [z2] at hf
      intro H locs ls rest q ce hlv hR2 hO2 hS2 hce hcv hcl
      exact vx_catch (name := eA) (E := eA) hown [⟨0, 10, 13, 13⟩] ⟨0, 10, 17, 15⟩ [] htab (List.forall_mem_cons.mpr ⟨Or.inr ⟨by decide, eB, hts _ (by decide +kernel), hN.1⟩, (fun _ h => nomatch h)⟩) rfl (by decide) (hts _ (by decide +kernel)) (xExtra_use hAmb.2.2.2.2.1.2.2 _ (by decide +kernel)) hce hcv hcl (wg_h (z := 2) (k := 4) (n := 2) X B9.bytes B9.returns B9.notSynchronized (Or.inr ⟨(by decide +kernel), rfl⟩) (by omega) (by decide +kernel) (by decide +kernel) (by show 0 + 3 ≤ 3; omega) (by show 0 + 18 ≤ 18; omega) hf H locs ls hlv hR2 hO2 hS2)

def spL_fuel (W9 : xWd) (aM : Nat → Nat) (oA : Nat) : xSp lS := (fun av S => (3, 18), fun av S K => ∃ (x : Nat) (p0 p1 : Int32) (B : Nat), av = [.ref x, .int p0, .int p1, .ref oA] ∧ (RR W9 B x S.1 S.2.1 ∧ B + 15 ≤ 8000 ∧ lApt aM oA S.1) ∧ (∀ S2 z9, RR W9 (B + 15) x S2 (oFuel S.2.1 p0 p1).2 → lApt aM oA S2 → ((oFuel S.2.1 p0 p1).2.1 0 = 0 → z9 = (oFuel S.2.1 p0 p1).1.toInt64) → K (rI ((oFuel S.2.1 p0 p1).2.1 0)) (S2, S.2.1, z9)))
theorem spcL_fuel {W9 : xWd} {aM : Nat → Nat} {oA : Nat} {av : List Value} {S : lS} : (spL_fuel W9 aM oA).1 av S = (3, 18) := rfl

set_option maxHeartbeats 1000000 in
set_option maxRecDepth 20000 in
theorem semL_fuel (l : Launch) (hl : l.stackTraces = false) (W9 : xWd) (aM : Nat → Nat) (oA : Nat) : lSem l W9 aM oA yL_fuel wsL_fuel 8 135 (spL_fuel W9 aM oA) := by
  intro av S sz KF hsp
  obtain ⟨x, p0, p1, B, rfl, ⟨hRR, hB, hdj⟩, hk⟩ := hsp
  refine vx_ofWH (cc := cL_fuel) (maxL := 5) (ret := some .int) (hh := [(0, 10, 13, 13), (0, 10, 17, 15), (0, 10, 21, 17)]) (by decide +kernel) rfl ?_
  intro p e s m args below meth c s₁ B9 hml hv
  obtain ⟨rfl, hsz, hR, hAmb, hN⟩ := hv
  subst hsz
  have hts := atoms_spec (ws := wsL_fuel) B9.pre
  have htab := vx_table (x := yL_fuel) B9 (hts _ List.mem_cons_self)
  have hown : s.vm.findClass RL = some m.cls := findClass_of_methodNamed B9.named
  have X : xCtxL W9 (lE aM oA 3 18 KF) (xReg (lI aM oA) (wY W9) S s.heap.size) p s m [.ref x, .int p0, .int p1, .ref oA].toArray c 5 RL wsL_fuel := ⟨B9.exec, hml, hown, hts, lI_law, hAmb, fun q h => Or.inr h⟩
  rw [lg_entry_eq]
  refine (?_ : wG (lE aM oA 3 18 KF) W9 (xReg (lI aM oA) (wY W9) S s.heap.size) p l e _ s m [.ref x, .int p0, .int p1, .ref oA].toArray below meth c 5 0 (xEntry 5 [.ref x, .int p0, .int p1, .ref oA]) [] S 0 0) s.heap [] _ (xentry_ok (by intro v hv; simp only [List.mem_cons, List.not_mem_nil, or_false] at hv; rcases hv with rfl | rfl | rfl | rfl <;> rfl) (Nat.le_of_ble_eq_true rfl)) hR (fun a x h => Or.inl ⟨x, h⟩) va_S.rf
  refine wg_aln (u := 3) (k := 3) X.1 B9.bytes (by decide +kernel) rfl rfl ?_
  refine wg_ic (z := 0) X.1 B9.bytes (by decide +kernel) ?_
  refine wg_aln (u := 0) (k := 0) X.1 B9.bytes (by decide +kernel) rfl rfl ?_
  refine wg_iln (u := 1) (k := 1) X.1 B9.bytes (by decide +kernel) rfl rfl ?_
  refine wg_iln (u := 2) (k := 2) X.1 B9.bytes (by decide +kernel) rfl rfl ?_
  refine wg_call (i := .invokevirtual 61) (len := 3) (av := [.ref x, .int p0, .int p1]) (rest := [.int 0, .ref oA]) (KF := fun r S' => ∃ S2, S' = (S2, S.2) ∧ lApt aM oA S2 ∧ ans [eB, eA, eS] W9 (B + 15) x (oFuel S.2.1 p0 p1) r S2) (xCR_VC (n := 2) (ci := 8) rfl X (semX7_fuel l hl W9) gL_fuel_X7_fuel rfl rfl (by decide +kernel) ⟨by show 7 + 1 ≤ 8; omega, by show 8 + (4 + 11) + 112 ≤ 135; omega⟩) B9.bytes (by decide +kernel) rfl rfl rfl (fun _ => Or.inr (Or.inl ⟨hdj.fr (live_of (RR_k hRR) (by omega)), RR_k hRR, by omega⟩)) (by show 1 + (1 + 0) ≤ 8; omega) (by show 0 + 3 ≤ 3; omega) (by show 0 + 18 ≤ 18; omega) ⟨hdj, Q_fuel hRR (fun r S2 ha hd2 => ⟨S2, rfl, hd2, RR_up ha.1 (by omega) hB, ha.2⟩)⟩ (fun v S' hk2 => ?_) (fun ex S' hk2 => ?_)
  · obtain ⟨S2, rfl, hd2, ha1, ha2⟩ := hk2
    unfold rZ at ha2
    by_cases z0 : (oFuel S.2.1 p0 p1).2.1 0 = 0
    · rw [if_pos z0] at ha2
      cases ha2
      have hf := hk S2 _ ha1 hd2 (fun _ => rfl)
      rw [z0] at hf
      exact wg_end (n2 := 15) (z := 25) rfl X B9.bytes B9.returns B9.notSynchronized (by decide +kernel) (by decide +kernel) (by decide +kernel) (by decide) (by decide +kernel) (by decide +kernel) (by show 0 + 3 ≤ 3; omega) (by show 0 + 18 ≤ 18; omega) rfl rfl hf
    · rw [if_neg z0] at ha2
      cases ha2
  · obtain ⟨S2, rfl, hd2, ha1, ha2⟩ := hk2
    unfold rZ at ha2
    rcases @cd_fuel S.2.1 p0 p1 with z0 | z1 | z2 | z3
    · rw [if_pos z0] at ha2
      cases ha2
    · rw [if_neg (by rw [z1]; decide), z1] at ha2
      have he : ex = eB := Sum.inr.inj ha2
      subst he
      have hf := hk S2 S.2.2 ha1 hd2 (fun z => absurd z (by rw [z1]; decide))
      rw [z1] at hf
      intro H locs ls rest q ce hlv hR2 hO2 hS2 hce hcv hcl
      exact vx_catch (name := eB) (E := eB) hown [] ⟨0, 10, 13, 13⟩ [⟨0, 10, 17, 15⟩, ⟨0, 10, 21, 17⟩] htab (fun _ h => nomatch h) rfl (by decide) (hts _ (by decide +kernel)) (xExtra_use hAmb.2.2.2.2.1.2.2 _ (by decide +kernel)) hce hcv hcl (wg_h (z := 1) (k := 4) (n := 2) X B9.bytes B9.returns B9.notSynchronized (Or.inr ⟨(by decide +kernel), rfl⟩) (by omega) (by decide +kernel) (by decide +kernel) (by show 0 + 3 ≤ 3; omega) (by show 0 + 18 ≤ 18; omega) hf H locs ls hlv hR2 hO2 hS2)
    · rw [if_neg (by rw [z2]; decide), z2] at ha2
      have he : ex = eA := Sum.inr.inj ha2
      subst he
      have hf := hk S2 S.2.2 ha1 hd2 (fun z => absurd z (by rw [z2]; decide))
      rw [z2] at hf
      intro H locs ls rest q ce hlv hR2 hO2 hS2 hce hcv hcl
      exact vx_catch (name := eA) (E := eA) hown [⟨0, 10, 13, 13⟩] ⟨0, 10, 17, 15⟩ [⟨0, 10, 21, 17⟩] htab (List.forall_mem_cons.mpr ⟨Or.inr ⟨by decide, eB, hts _ (by decide +kernel), hN.1⟩, (fun _ h => nomatch h)⟩) rfl (by decide) (hts _ (by decide +kernel)) (xExtra_use hAmb.2.2.2.2.1.2.2 _ (by decide +kernel)) hce hcv hcl (wg_h (z := 2) (k := 4) (n := 2) X B9.bytes B9.returns B9.notSynchronized (Or.inr ⟨(by decide +kernel), rfl⟩) (by omega) (by decide +kernel) (by decide +kernel) (by show 0 + 3 ≤ 3; omega) (by show 0 + 18 ≤ 18; omega) hf H locs ls hlv hR2 hO2 hS2)
    · rw [if_neg (by rw [z3]; decide), z3] at ha2
      have he : ex = eS := Sum.inr.inj ha2
      subst he
      have hf := hk S2 S.2.2 ha1 hd2 (fun z => absurd z (by rw [z3]; decide))
      rw [z3] at hf
      intro H locs ls rest q ce hlv hR2 hO2 hS2 hce hcv hcl
      exact vx_catch (name := eS) (E := eS) hown [⟨0, 10, 13, 13⟩, ⟨0, 10, 17, 15⟩] ⟨0, 10, 21, 17⟩ [] htab (List.forall_mem_cons.mpr ⟨Or.inr ⟨by decide, eB, hts _ (by decide +kernel), hN.2.1⟩, (List.forall_mem_cons.mpr ⟨Or.inr ⟨by decide, eA, hts _ (by decide +kernel), hN.2.2⟩, (fun _ h => nomatch h)⟩)⟩) rfl (by decide) (hts _ (by decide +kernel)) (xExtra_use hAmb.2.2.2.2.1.2.2 _ (by decide +kernel)) hce hcv hcl (wg_h (z := 3) (k := 4) (n := 2) X B9.bytes B9.returns B9.notSynchronized (Or.inr ⟨(by decide +kernel), rfl⟩) (by omega) (by decide +kernel) (by decide +kernel) (by show 0 + 3 ≤ 3; omega) (by show 0 + 18 ≤ 18; omega) hf H locs ls hlv hR2 hO2 hS2)

def spL_wide (W9 : xWd) (aM : Nat → Nat) (oA : Nat) : xSp lS := (fun av S => (3, 18), fun av S K => ∃ (x : Nat) (p0 p1 : Int32) (B : Nat), av = [.ref x, .int p0, .int p1, .ref oA] ∧ (RR W9 B x S.1 S.2.1 ∧ B + 15 ≤ 8000 ∧ lApt aM oA S.1) ∧ (∀ S2 z9, RR W9 (B + 15) x S2 (oWide S.2.1 p0 p1).2 → lApt aM oA S2 → ((oWide S.2.1 p0 p1).2.1 0 = 0 → z9 = (oWide S.2.1 p0 p1).1.toInt64) → K (rI ((oWide S.2.1 p0 p1).2.1 0)) (S2, S.2.1, z9)))
theorem spcL_wide {W9 : xWd} {aM : Nat → Nat} {oA : Nat} {av : List Value} {S : lS} : (spL_wide W9 aM oA).1 av S = (3, 18) := rfl

set_option maxHeartbeats 1000000 in
set_option maxRecDepth 20000 in
theorem semL_wide (l : Launch) (hl : l.stackTraces = false) (W9 : xWd) (aM : Nat → Nat) (oA : Nat) : lSem l W9 aM oA yL_wide wsL_wide 8 136 (spL_wide W9 aM oA) := by
  intro av S sz KF hsp
  obtain ⟨x, p0, p1, B, rfl, ⟨hRR, hB, hdj⟩, hk⟩ := hsp
  refine vx_ofWH (cc := cL_wide) (maxL := 5) (ret := some .int) (hh := [(0, 10, 13, 13), (0, 10, 17, 15), (0, 10, 21, 17)]) (by decide +kernel) rfl ?_
  intro p e s m args below meth c s₁ B9 hml hv
  obtain ⟨rfl, hsz, hR, hAmb, hN⟩ := hv
  subst hsz
  have hts := atoms_spec (ws := wsL_wide) B9.pre
  have htab := vx_table (x := yL_wide) B9 (hts _ List.mem_cons_self)
  have hown : s.vm.findClass RL = some m.cls := findClass_of_methodNamed B9.named
  have X : xCtxL W9 (lE aM oA 3 18 KF) (xReg (lI aM oA) (wY W9) S s.heap.size) p s m [.ref x, .int p0, .int p1, .ref oA].toArray c 5 RL wsL_wide := ⟨B9.exec, hml, hown, hts, lI_law, hAmb, fun q h => Or.inr h⟩
  rw [lg_entry_eq]
  refine (?_ : wG (lE aM oA 3 18 KF) W9 (xReg (lI aM oA) (wY W9) S s.heap.size) p l e _ s m [.ref x, .int p0, .int p1, .ref oA].toArray below meth c 5 0 (xEntry 5 [.ref x, .int p0, .int p1, .ref oA]) [] S 0 0) s.heap [] _ (xentry_ok (by intro v hv; simp only [List.mem_cons, List.not_mem_nil, or_false] at hv; rcases hv with rfl | rfl | rfl | rfl <;> rfl) (Nat.le_of_ble_eq_true rfl)) hR (fun a x h => Or.inl ⟨x, h⟩) va_S.rf
  refine wg_aln (u := 3) (k := 3) X.1 B9.bytes (by decide +kernel) rfl rfl ?_
  refine wg_ic (z := 0) X.1 B9.bytes (by decide +kernel) ?_
  refine wg_aln (u := 0) (k := 0) X.1 B9.bytes (by decide +kernel) rfl rfl ?_
  refine wg_iln (u := 1) (k := 1) X.1 B9.bytes (by decide +kernel) rfl rfl ?_
  refine wg_iln (u := 2) (k := 2) X.1 B9.bytes (by decide +kernel) rfl rfl ?_
  refine wg_call (i := .invokevirtual 64) (len := 3) (av := [.ref x, .int p0, .int p1]) (rest := [.int 0, .ref oA]) (KF := fun r S' => ∃ S2, S' = (S2, S.2) ∧ lApt aM oA S2 ∧ ans [eB, eA, eS] W9 (B + 15) x (oWide S.2.1 p0 p1) r S2) (xCR_VC (n := 2) (ci := 8) rfl X (semX7_wide l hl W9) gL_wide_X7_wide rfl rfl (by decide +kernel) ⟨by show 7 + 1 ≤ 8; omega, by show 8 + (5 + 11) + 112 ≤ 136; omega⟩) B9.bytes (by decide +kernel) rfl rfl rfl (fun _ => Or.inr (Or.inl ⟨hdj.fr (live_of (RR_k hRR) (by omega)), RR_k hRR, by omega⟩)) (by show 1 + (1 + 0) ≤ 8; omega) (by show 0 + 3 ≤ 3; omega) (by show 0 + 18 ≤ 18; omega) ⟨hdj, Q_wide hRR (fun r S2 ha hd2 => ⟨S2, rfl, hd2, RR_up ha.1 (by omega) hB, ha.2⟩)⟩ (fun v S' hk2 => ?_) (fun ex S' hk2 => ?_)
  · obtain ⟨S2, rfl, hd2, ha1, ha2⟩ := hk2
    unfold rZ at ha2
    by_cases z0 : (oWide S.2.1 p0 p1).2.1 0 = 0
    · rw [if_pos z0] at ha2
      cases ha2
      have hf := hk S2 _ ha1 hd2 (fun _ => rfl)
      rw [z0] at hf
      exact wg_end (n2 := 15) (z := 25) rfl X B9.bytes B9.returns B9.notSynchronized (by decide +kernel) (by decide +kernel) (by decide +kernel) (by decide) (by decide +kernel) (by decide +kernel) (by show 0 + 3 ≤ 3; omega) (by show 0 + 18 ≤ 18; omega) rfl rfl hf
    · rw [if_neg z0] at ha2
      cases ha2
  · obtain ⟨S2, rfl, hd2, ha1, ha2⟩ := hk2
    unfold rZ at ha2
    rcases @cd_wide S.2.1 p0 p1 with z0 | z1 | z2 | z3
    · rw [if_pos z0] at ha2
      cases ha2
    · rw [if_neg (by rw [z1]; decide), z1] at ha2
      have he : ex = eB := Sum.inr.inj ha2
      subst he
      have hf := hk S2 S.2.2 ha1 hd2 (fun z => absurd z (by rw [z1]; decide))
      rw [z1] at hf
      intro H locs ls rest q ce hlv hR2 hO2 hS2 hce hcv hcl
      exact vx_catch (name := eB) (E := eB) hown [] ⟨0, 10, 13, 13⟩ [⟨0, 10, 17, 15⟩, ⟨0, 10, 21, 17⟩] htab (fun _ h => nomatch h) rfl (by decide) (hts _ (by decide +kernel)) (xExtra_use hAmb.2.2.2.2.1.2.2 _ (by decide +kernel)) hce hcv hcl (wg_h (z := 1) (k := 4) (n := 2) X B9.bytes B9.returns B9.notSynchronized (Or.inr ⟨(by decide +kernel), rfl⟩) (by omega) (by decide +kernel) (by decide +kernel) (by show 0 + 3 ≤ 3; omega) (by show 0 + 18 ≤ 18; omega) hf H locs ls hlv hR2 hO2 hS2)
    · rw [if_neg (by rw [z2]; decide), z2] at ha2
      have he : ex = eA := Sum.inr.inj ha2
      subst he
      have hf := hk S2 S.2.2 ha1 hd2 (fun z => absurd z (by rw [z2]; decide))
      rw [z2] at hf
      intro H locs ls rest q ce hlv hR2 hO2 hS2 hce hcv hcl
      exact vx_catch (name := eA) (E := eA) hown [⟨0, 10, 13, 13⟩] ⟨0, 10, 17, 15⟩ [⟨0, 10, 21, 17⟩] htab (List.forall_mem_cons.mpr ⟨Or.inr ⟨by decide, eB, hts _ (by decide +kernel), hN.1⟩, (fun _ h => nomatch h)⟩) rfl (by decide) (hts _ (by decide +kernel)) (xExtra_use hAmb.2.2.2.2.1.2.2 _ (by decide +kernel)) hce hcv hcl (wg_h (z := 2) (k := 4) (n := 2) X B9.bytes B9.returns B9.notSynchronized (Or.inr ⟨(by decide +kernel), rfl⟩) (by omega) (by decide +kernel) (by decide +kernel) (by show 0 + 3 ≤ 3; omega) (by show 0 + 18 ≤ 18; omega) hf H locs ls hlv hR2 hO2 hS2)
    · rw [if_neg (by rw [z3]; decide), z3] at ha2
      have he : ex = eS := Sum.inr.inj ha2
      subst he
      have hf := hk S2 S.2.2 ha1 hd2 (fun z => absurd z (by rw [z3]; decide))
      rw [z3] at hf
      intro H locs ls rest q ce hlv hR2 hO2 hS2 hce hcv hcl
      exact vx_catch (name := eS) (E := eS) hown [⟨0, 10, 13, 13⟩, ⟨0, 10, 17, 15⟩] ⟨0, 10, 21, 17⟩ [] htab (List.forall_mem_cons.mpr ⟨Or.inr ⟨by decide, eB, hts _ (by decide +kernel), hN.2.1⟩, (List.forall_mem_cons.mpr ⟨Or.inr ⟨by decide, eA, hts _ (by decide +kernel), hN.2.2⟩, (fun _ h => nomatch h)⟩)⟩) rfl (by decide) (hts _ (by decide +kernel)) (xExtra_use hAmb.2.2.2.2.1.2.2 _ (by decide +kernel)) hce hcv hcl (wg_h (z := 3) (k := 4) (n := 2) X B9.bytes B9.returns B9.notSynchronized (Or.inr ⟨(by decide +kernel), rfl⟩) (by omega) (by decide +kernel) (by decide +kernel) (by show 0 + 3 ≤ 3; omega) (by show 0 + 18 ≤ 18; omega) hf H locs ls hlv hR2 hO2 hS2)

def spL_clean (W9 : xWd) (aM : Nat → Nat) (oA : Nat) : xSp lS := (fun av S => (2, 12), fun av S K => ∃ (x : Nat) (p0 : Int32) (B : Nat), av = [.ref x, .int p0, .ref oA] ∧ (RR W9 B x S.1 S.2.1 ∧ B + 15 ≤ 8000 ∧ lApt aM oA S.1) ∧ (∀ S2 z9, RR W9 (B + 15) x S2 (oClean S.2.1 p0).2 → lApt aM oA S2 → ((oClean S.2.1 p0).2.1 0 = 0 → z9 = (oClean S.2.1 p0).1.toInt64) → K (rI ((oClean S.2.1 p0).2.1 0)) (S2, S.2.1, z9)))
theorem spcL_clean {W9 : xWd} {aM : Nat → Nat} {oA : Nat} {av : List Value} {S : lS} : (spL_clean W9 aM oA).1 av S = (2, 12) := rfl

set_option maxHeartbeats 1000000 in
set_option maxRecDepth 20000 in
theorem semL_clean (l : Launch) (hl : l.stackTraces = false) (W9 : xWd) (aM : Nat → Nat) (oA : Nat) : lSem l W9 aM oA yL_clean wsL_clean 8 134 (spL_clean W9 aM oA) := by
  intro av S sz KF hsp
  obtain ⟨x, p0, B, rfl, ⟨hRR, hB, hdj⟩, hk⟩ := hsp
  refine vx_ofWH (cc := cL_clean) (maxL := 4) (ret := some .int) (hh := [(0, 9, 12, 13), (0, 9, 15, 17)]) (by decide +kernel) rfl ?_
  intro p e s m args below meth c s₁ B9 hml hv
  obtain ⟨rfl, hsz, hR, hAmb, hN⟩ := hv
  subst hsz
  have hts := atoms_spec (ws := wsL_clean) B9.pre
  have htab := vx_table (x := yL_clean) B9 (hts _ List.mem_cons_self)
  have hown : s.vm.findClass RL = some m.cls := findClass_of_methodNamed B9.named
  have X : xCtxL W9 (lE aM oA 2 12 KF) (xReg (lI aM oA) (wY W9) S s.heap.size) p s m [.ref x, .int p0, .ref oA].toArray c 4 RL wsL_clean := ⟨B9.exec, hml, hown, hts, lI_law, hAmb, fun q h => Or.inr h⟩
  rw [lg_entry_eq]
  refine (?_ : wG (lE aM oA 2 12 KF) W9 (xReg (lI aM oA) (wY W9) S s.heap.size) p l e _ s m [.ref x, .int p0, .ref oA].toArray below meth c 4 0 (xEntry 4 [.ref x, .int p0, .ref oA]) [] S 0 0) s.heap [] _ (xentry_ok (by intro v hv; simp only [List.mem_cons, List.not_mem_nil, or_false] at hv; rcases hv with rfl | rfl | rfl <;> rfl) (Nat.le_of_ble_eq_true rfl)) hR (fun a x h => Or.inl ⟨x, h⟩) va_S.rf
  refine wg_aln (u := 2) (k := 2) X.1 B9.bytes (by decide +kernel) rfl rfl ?_
  refine wg_ic (z := 0) X.1 B9.bytes (by decide +kernel) ?_
  refine wg_aln (u := 0) (k := 0) X.1 B9.bytes (by decide +kernel) rfl rfl ?_
  refine wg_iln (u := 1) (k := 1) X.1 B9.bytes (by decide +kernel) rfl rfl ?_
  refine wg_call (i := .invokevirtual 55) (len := 3) (av := [.ref x, .int p0]) (rest := [.int 0, .ref oA]) (KF := fun r S' => ∃ S2, S' = (S2, S.2) ∧ lApt aM oA S2 ∧ ans [eB, eS] W9 (B + 15) x (oClean S.2.1 p0) r S2) (xCR_VC (n := 1) (ci := 8) rfl X (semX7_clean l hl W9) gL_clean_X7_clean rfl rfl (by decide +kernel) ⟨by show 7 + 1 ≤ 8; omega, by show 8 + (4 + 11) + 111 ≤ 134; omega⟩) B9.bytes (by decide +kernel) rfl rfl rfl (fun _ => Or.inr (Or.inl ⟨hdj.fr (live_of (RR_k hRR) (by omega)), RR_k hRR, by omega⟩)) (by show 1 + (1 + 0) ≤ 8; omega) (by show 0 + 2 ≤ 2; omega) (by show 0 + 12 ≤ 12; omega) ⟨hdj, Q_clean hRR (fun r S2 ha hd2 => ⟨S2, rfl, hd2, RR_up ha.1 (by omega) hB, ha.2⟩)⟩ (fun v S' hk2 => ?_) (fun ex S' hk2 => ?_)
  · obtain ⟨S2, rfl, hd2, ha1, ha2⟩ := hk2
    unfold rZ at ha2
    by_cases z0 : (oClean S.2.1 p0).2.1 0 = 0
    · rw [if_pos z0] at ha2
      cases ha2
      have hf := hk S2 _ ha1 hd2 (fun _ => rfl)
      rw [z0] at hf
      exact wg_end (n2 := 9) (z := 18) rfl X B9.bytes B9.returns B9.notSynchronized (by decide +kernel) (by decide +kernel) (by decide +kernel) (by decide) (by decide +kernel) (by decide +kernel) (by show 0 + 2 ≤ 2; omega) (by show 0 + 12 ≤ 12; omega) rfl rfl hf
    · rw [if_neg z0] at ha2
      cases ha2
  · obtain ⟨S2, rfl, hd2, ha1, ha2⟩ := hk2
    unfold rZ at ha2
    rcases @cd_clean S.2.1 p0 with z0 | z1 | z2
    · rw [if_pos z0] at ha2
      cases ha2
    · rw [if_neg (by rw [z1]; decide), z1] at ha2
      have he : ex = eB := Sum.inr.inj ha2
      subst he
      have hf := hk S2 S.2.2 ha1 hd2 (fun z => absurd z (by rw [z1]; decide))
      rw [z1] at hf
      intro H locs ls rest q ce hlv hR2 hO2 hS2 hce hcv hcl
      exact vx_catch (name := eB) (E := eB) hown [] ⟨0, 9, 12, 13⟩ [⟨0, 9, 15, 17⟩] htab (fun _ h => nomatch h) rfl (by decide) (hts _ (by decide +kernel)) (xExtra_use hAmb.2.2.2.2.1.2.2 _ (by decide +kernel)) hce hcv hcl (wg_h (z := 1) (k := 3) (n := 1) X B9.bytes B9.returns B9.notSynchronized (Or.inl ⟨3, (by decide +kernel), rfl, rfl⟩) (by omega) (by decide +kernel) (by decide +kernel) (by show 0 + 2 ≤ 2; omega) (by show 0 + 12 ≤ 12; omega) hf H locs ls hlv hR2 hO2 hS2)
    · rw [if_neg (by rw [z2]; decide), z2] at ha2
      have he : ex = eS := Sum.inr.inj ha2
      subst he
      have hf := hk S2 S.2.2 ha1 hd2 (fun z => absurd z (by rw [z2]; decide))
      rw [z2] at hf
      intro H locs ls rest q ce hlv hR2 hO2 hS2 hce hcv hcl
      exact vx_catch (name := eS) (E := eS) hown [⟨0, 9, 12, 13⟩] ⟨0, 9, 15, 17⟩ [] htab (List.forall_mem_cons.mpr ⟨Or.inr ⟨by decide, eB, hts _ (by decide +kernel), hN.2.1⟩, (fun _ h => nomatch h)⟩) rfl (by decide) (hts _ (by decide +kernel)) (xExtra_use hAmb.2.2.2.2.1.2.2 _ (by decide +kernel)) hce hcv hcl (wg_h (z := 2) (k := 3) (n := 1) X B9.bytes B9.returns B9.notSynchronized (Or.inl ⟨3, (by decide +kernel), rfl, rfl⟩) (by omega) (by decide +kernel) (by decide +kernel) (by show 0 + 2 ≤ 2; omega) (by show 0 + 12 ≤ 12; omega) hf H locs ls hlv hR2 hO2 hS2)

def spL_go (W9 : xWd) (aM : Nat → Nat) (oA : Nat) : xSp lS := (fun av S => (2, 12), fun av S K => ∃ (x : Nat) (p0 p1 : Int32) (B : Nat), av = [.ref x, .int p0, .int p1, .ref oA] ∧ (RR W9 B x S.1 S.2.1 ∧ B + 15 ≤ 8000 ∧ lApt aM oA S.1) ∧ (∀ S2 z9, RR W9 (B + 15) x S2 (oGo S.2.1 p0 p1).2 → lApt aM oA S2 → ((oGo S.2.1 p0 p1).2.1 0 = 0 → z9 = (oGo S.2.1 p0 p1).1.toInt64) → K (rI ((oGo S.2.1 p0 p1).2.1 0)) (S2, S.2.1, z9)))
theorem spcL_go {W9 : xWd} {aM : Nat → Nat} {oA : Nat} {av : List Value} {S : lS} : (spL_go W9 aM oA).1 av S = (2, 12) := rfl

set_option maxHeartbeats 1000000 in
set_option maxRecDepth 20000 in
theorem semL_go (l : Launch) (hl : l.stackTraces = false) (W9 : xWd) (aM : Nat → Nat) (oA : Nat) : lSem l W9 aM oA yL_go wsL_go 9 155 (spL_go W9 aM oA) := by
  intro av S sz KF hsp
  obtain ⟨x, p0, p1, B, rfl, ⟨hRR, hB, hdj⟩, hk⟩ := hsp
  refine vx_ofWH (cc := cL_go) (maxL := 5) (ret := some .int) (hh := [(0, 10, 13, 13)]) (by decide +kernel) rfl ?_
  intro p e s m args below meth c s₁ B9 hml hv
  obtain ⟨rfl, hsz, hR, hAmb, hN⟩ := hv
  subst hsz
  have hts := atoms_spec (ws := wsL_go) B9.pre
  have htab := vx_table (x := yL_go) B9 (hts _ List.mem_cons_self)
  have hown : s.vm.findClass RL = some m.cls := findClass_of_methodNamed B9.named
  have X : xCtxL W9 (lE aM oA 2 12 KF) (xReg (lI aM oA) (wY W9) S s.heap.size) p s m [.ref x, .int p0, .int p1, .ref oA].toArray c 5 RL wsL_go := ⟨B9.exec, hml, hown, hts, lI_law, hAmb, fun q h => Or.inr h⟩
  rw [lg_entry_eq]
  refine (?_ : wG (lE aM oA 2 12 KF) W9 (xReg (lI aM oA) (wY W9) S s.heap.size) p l e _ s m [.ref x, .int p0, .int p1, .ref oA].toArray below meth c 5 0 (xEntry 5 [.ref x, .int p0, .int p1, .ref oA]) [] S 0 0) s.heap [] _ (xentry_ok (by intro v hv; simp only [List.mem_cons, List.not_mem_nil, or_false] at hv; rcases hv with rfl | rfl | rfl | rfl <;> rfl) (Nat.le_of_ble_eq_true rfl)) hR (fun a x h => Or.inl ⟨x, h⟩) va_S.rf
  refine wg_aln (u := 3) (k := 3) X.1 B9.bytes (by decide +kernel) rfl rfl ?_
  refine wg_ic (z := 0) X.1 B9.bytes (by decide +kernel) ?_
  refine wg_aln (u := 0) (k := 0) X.1 B9.bytes (by decide +kernel) rfl rfl ?_
  refine wg_iln (u := 1) (k := 1) X.1 B9.bytes (by decide +kernel) rfl rfl ?_
  refine wg_iln (u := 2) (k := 2) X.1 B9.bytes (by decide +kernel) rfl rfl ?_
  refine wg_call (i := .invokevirtual 77) (len := 3) (av := [.ref x, .int p0, .int p1]) (rest := [.int 0, .ref oA]) (KF := fun r S' => ∃ S2, S' = (S2, S.2) ∧ lApt aM oA S2 ∧ ans [eB] W9 (B + 15) x (oGo S.2.1 p0 p1) r S2) (xCR_VC (n := 2) (ci := 8) rfl X (semX7_go l hl W9) gL_go_X7_go rfl rfl (by decide +kernel) ⟨by show 8 + 1 ≤ 9; omega, by show 8 + (5 + 11) + 131 ≤ 155; omega⟩) B9.bytes (by decide +kernel) rfl rfl rfl (fun _ => Or.inr (Or.inl ⟨hdj.fr (live_of (RR_k hRR) (by omega)), RR_k hRR, by omega⟩)) (by show 1 + (1 + 0) ≤ 8; omega) (by show 0 + 2 ≤ 2; omega) (by show 0 + 12 ≤ 12; omega) ⟨hdj, Q_go hRR hB (fun r S2 ha hd2 => ⟨S2, rfl, hd2, ha⟩)⟩ (fun v S' hk2 => ?_) (fun ex S' hk2 => ?_)
  · obtain ⟨S2, rfl, hd2, ha1, ha2⟩ := hk2
    unfold rZ at ha2
    by_cases z0 : (oGo S.2.1 p0 p1).2.1 0 = 0
    · rw [if_pos z0] at ha2
      cases ha2
      have hf := hk S2 _ ha1 hd2 (fun _ => rfl)
      rw [z0] at hf
      exact wg_end (n2 := 7) (z := 17) rfl X B9.bytes B9.returns B9.notSynchronized (by decide +kernel) (by decide +kernel) (by decide +kernel) (by decide) (by decide +kernel) (by decide +kernel) (by show 0 + 2 ≤ 2; omega) (by show 0 + 12 ≤ 12; omega) rfl rfl hf
    · rw [if_neg z0] at ha2
      cases ha2
  · obtain ⟨S2, rfl, hd2, ha1, ha2⟩ := hk2
    unfold rZ at ha2
    rcases @cd_go S.2.1 p0 p1 with z0 | z1
    · rw [if_pos z0] at ha2
      cases ha2
    · rw [if_neg (by rw [z1]; decide), z1] at ha2
      have he : ex = eB := Sum.inr.inj ha2
      subst he
      have hf := hk S2 S.2.2 ha1 hd2 (fun z => absurd z (by rw [z1]; decide))
      rw [z1] at hf
      intro H locs ls rest q ce hlv hR2 hO2 hS2 hce hcv hcl
      exact vx_catch (name := eB) (E := eB) hown [] ⟨0, 10, 13, 13⟩ [] htab (fun _ h => nomatch h) rfl (by decide) (hts _ (by decide +kernel)) (xExtra_use hAmb.2.2.2.2.1.2.2 _ (by decide +kernel)) hce hcv hcl (wg_h (z := 1) (k := 4) (n := 2) X B9.bytes B9.returns B9.notSynchronized (Or.inr ⟨(by decide +kernel), rfl⟩) (by omega) (by decide +kernel) (by decide +kernel) (by show 0 + 2 ≤ 2; omega) (by show 0 + 12 ≤ 12; omega) hf H locs ls hlv hR2 hO2 hS2)

def spL_radio (W9 : xWd) (aM : Nat → Nat) (oA : Nat) : xSp lS := (fun av S => (3, 18), fun av S K => ∃ (x : Nat) (p0 p1 p2 : Int32) (B : Nat), av = [.ref x, .int p0, .int p1, .int p2, .ref oA] ∧ (p2 = 0 ∨ p2 = 1) ∧ (RR W9 B x S.1 S.2.1 ∧ B + 15 ≤ 8000 ∧ lApt aM oA S.1) ∧ (∀ S2 z9, RR W9 (B + 15) x S2 (oRadio S.2.1 p0 p1 p2).2 → lApt aM oA S2 → ((oRadio S.2.1 p0 p1 p2).2.1 0 = 0 → z9 = (if (oRadio S.2.1 p0 p1 p2).1 = 0 then 0 else 1)) → K (rI ((oRadio S.2.1 p0 p1 p2).2.1 0)) (S2, S.2.1, z9)))
theorem spcL_radio {W9 : xWd} {aM : Nat → Nat} {oA : Nat} {av : List Value} {S : lS} : (spL_radio W9 aM oA).1 av S = (3, 18) := rfl

set_option maxHeartbeats 1000000 in
set_option maxRecDepth 20000 in
theorem semL_radio (l : Launch) (hl : l.stackTraces = false) (W9 : xWd) (aM : Nat → Nat) (oA : Nat) : lSem l W9 aM oA yL_radio wsL_radio 8 137 (spL_radio W9 aM oA) := by
  intro av S sz KF hsp
  obtain ⟨x, p0, p1, p2, B, rfl, hz, ⟨hRR, hB, hdj⟩, hk⟩ := hsp
  refine vx_ofWH (cc := cL_radio) (maxL := 6) (ret := some .int) (hh := [(0, 19, 22, 13), (0, 19, 26, 15)]) (by decide +kernel) rfl ?_
  intro p e s m args below meth c s₁ B9 hml hv
  obtain ⟨rfl, hsz, hR, hAmb, hN⟩ := hv
  subst hsz
  have hts := atoms_spec (ws := wsL_radio) B9.pre
  have htab := vx_table (x := yL_radio) B9 (hts _ List.mem_cons_self)
  have hown : s.vm.findClass RL = some m.cls := findClass_of_methodNamed B9.named
  have X : xCtxL W9 (lE aM oA 3 18 KF) (xReg (lI aM oA) (wY W9) S s.heap.size) p s m [.ref x, .int p0, .int p1, .int p2, .ref oA].toArray c 6 RL wsL_radio := ⟨B9.exec, hml, hown, hts, lI_law, hAmb, fun q h => Or.inr h⟩
  rw [lg_entry_eq]
  refine (?_ : wG (lE aM oA 3 18 KF) W9 (xReg (lI aM oA) (wY W9) S s.heap.size) p l e _ s m [.ref x, .int p0, .int p1, .int p2, .ref oA].toArray below meth c 6 0 (xEntry 6 [.ref x, .int p0, .int p1, .int p2, .ref oA]) [] S 0 0) s.heap [] _ (xentry_ok (by intro v hv; simp only [List.mem_cons, List.not_mem_nil, or_false] at hv; rcases hv with rfl | rfl | rfl | rfl | rfl <;> rfl) (Nat.le_of_ble_eq_true rfl)) hR (fun a x h => Or.inl ⟨x, h⟩) va_S.rf
  refine wg_al (k := 4) X.1 B9.bytes (by decide +kernel) rfl ?_
  refine wg_ic (z := 0) X.1 B9.bytes (by decide +kernel) ?_
  refine wg_aln (u := 0) (k := 0) X.1 B9.bytes (by decide +kernel) rfl rfl ?_
  refine wg_iln (u := 1) (k := 1) X.1 B9.bytes (by decide +kernel) rfl rfl ?_
  refine wg_iln (u := 2) (k := 2) X.1 B9.bytes (by decide +kernel) rfl rfl ?_
  refine wg_iln (u := 3) (k := 3) X.1 B9.bytes (by decide +kernel) rfl rfl ?_
  refine wg_call (i := .invokevirtual 73) (len := 3) (av := [.ref x, .int p0, .int p1, .int p2]) (rest := [.int 0, .ref oA]) (KF := fun r S' => ∃ S2, S' = (S2, S.2) ∧ lApt aM oA S2 ∧ ans [eB, eA] W9 (B + 15) x (oRadio S.2.1 p0 p1 p2) r S2) (xCR_VC (n := 3) (ci := 8) rfl X (semX7_radio l hl W9) gL_radio_X7_radio rfl rfl (by decide +kernel) ⟨by show 7 + 1 ≤ 8; omega, by show 8 + (7 + 11) + 111 ≤ 137; omega⟩) B9.bytes (by decide +kernel) rfl rfl rfl (fun _ => Or.inr (Or.inl ⟨hdj.fr (live_of (RR_k hRR) (by omega)), RR_k hRR, by omega⟩)) (by show 1 + (1 + 0) ≤ 8; omega) (by show 0 + 3 ≤ 3; omega) (by show 0 + 18 ≤ 18; omega) ⟨hdj, Q_radio hRR hz (fun r S2 ha hd2 => ⟨S2, rfl, hd2, RR_up ha.1 (by omega) hB, ha.2⟩)⟩ (fun v S' hk2 => ?_) (fun ex S' hk2 => ?_)
  · obtain ⟨S2, rfl, hd2, ha1, ha2⟩ := hk2
    unfold rZ at ha2
    by_cases z0 : (oRadio S.2.1 p0 p1 p2).2.1 0 = 0
    · rw [if_pos z0] at ha2
      cases ha2
      have hf := hk S2 _ ha1 hd2 (fun _ => rfl)
      rw [z0] at hf
      refine wg_ifeq (t := 17) (n2 := 7) X.1 B9.bytes (by decide +kernel) (by decide) (fun q => ?_) (fun q => ?_)
      · rw [if_pos q] at hf
        refine wg_call (i := .lconst 0) (len := 1) (av := []) (rest := [.int 0, .ref oA]) (KF := fun r S' => r = .inl (some (.long 0)) ∧ S' = (S2, S.2)) (xCR_lcn0 (ci := 0) X) B9.bytes (by decide +kernel) rfl rfl rfl (fun ⟨k, q⟩ => by cases q) (by show 1 + (1 + 0) ≤ 8; omega) (by show 0 + 3 + 0 ≤ 3; omega) (by show 0 + 18 + 0 ≤ 18; omega) ⟨rfl, rfl, rfl⟩ (fun v S' hk => ?_) (fun ex S' hk => by cases hk.1)
        obtain ⟨e1, rfl⟩ := hk
        cases e1
        exact wg_rad X B9.bytes B9.returns B9.notSynchronized (by decide +kernel) (by decide +kernel) (by decide +kernel) (by decide +kernel) (by show 0 + 3 + 0 ≤ 3; omega) (by show 0 + 18 + 0 ≤ 18; omega) rfl rfl rfl hf
      · rw [if_neg q] at hf
        refine wg_call (i := .lconst 1) (len := 1) (av := []) (rest := [.int 0, .ref oA]) (KF := fun r S' => r = .inl (some (.long 1)) ∧ S' = (S2, S.2)) (xCR_lcn1 (ci := 0) X) B9.bytes (by decide +kernel) rfl rfl rfl (fun ⟨k, q⟩ => by cases q) (by show 1 + (1 + 0) ≤ 8; omega) (by show 0 + 3 + 0 ≤ 3; omega) (by show 0 + 18 + 0 ≤ 18; omega) ⟨rfl, rfl, rfl⟩ (fun v S' hk => ?_) (fun ex S' hk => by cases hk.1)
        obtain ⟨e1, rfl⟩ := hk
        cases e1
        refine wg_goto (n2 := 4) (z := 18) X.1 B9.bytes (by decide +kernel) (by decide) ?_
        exact wg_rad X B9.bytes B9.returns B9.notSynchronized (by decide +kernel) (by decide +kernel) (by decide +kernel) (by decide +kernel) (by show 0 + 3 + 0 ≤ 3; omega) (by show 0 + 18 + 0 ≤ 18; omega) rfl rfl rfl hf
    · rw [if_neg z0] at ha2
      cases ha2
  · obtain ⟨S2, rfl, hd2, ha1, ha2⟩ := hk2
    unfold rZ at ha2
    rcases @cd_radio S.2.1 p0 p1 p2 with z0 | z1 | z2
    · rw [if_pos z0] at ha2
      cases ha2
    · rw [if_neg (by rw [z1]; decide), z1] at ha2
      have he : ex = eB := Sum.inr.inj ha2
      subst he
      have hf := hk S2 S.2.2 ha1 hd2 (fun z => absurd z (by rw [z1]; decide))
      rw [z1] at hf
      intro H locs ls rest q ce hlv hR2 hO2 hS2 hce hcv hcl
      exact vx_catch (name := eB) (E := eB) hown [] ⟨0, 19, 22, 13⟩ [⟨0, 19, 26, 15⟩] htab (fun _ h => nomatch h) rfl (by decide) (hts _ (by decide +kernel)) (xExtra_use hAmb.2.2.2.2.1.2.2 _ (by decide +kernel)) hce hcv hcl (wg_h (z := 1) (k := 5) (n := 2) X B9.bytes B9.returns B9.notSynchronized (Or.inr ⟨(by decide +kernel), rfl⟩) (by omega) (by decide +kernel) (by decide +kernel) (by show 0 + 3 ≤ 3; omega) (by show 0 + 18 ≤ 18; omega) hf H locs ls hlv hR2 hO2 hS2)
    · rw [if_neg (by rw [z2]; decide), z2] at ha2
      have he : ex = eA := Sum.inr.inj ha2
      subst he
      have hf := hk S2 S.2.2 ha1 hd2 (fun z => absurd z (by rw [z2]; decide))
      rw [z2] at hf
      intro H locs ls rest q ce hlv hR2 hO2 hS2 hce hcv hcl
      exact vx_catch (name := eA) (E := eA) hown [⟨0, 19, 22, 13⟩] ⟨0, 19, 26, 15⟩ [] htab (List.forall_mem_cons.mpr ⟨Or.inr ⟨by decide, eB, hts _ (by decide +kernel), hN.1⟩, (fun _ h => nomatch h)⟩) rfl (by decide) (hts _ (by decide +kernel)) (xExtra_use hAmb.2.2.2.2.1.2.2 _ (by decide +kernel)) hce hcv hcl (wg_h (z := 2) (k := 5) (n := 2) X B9.bytes B9.returns B9.notSynchronized (Or.inr ⟨(by decide +kernel), rfl⟩) (by omega) (by decide +kernel) (by decide +kernel) (by show 0 + 3 ≤ 3; omega) (by show 0 + 18 ≤ 18; omega) hf H locs ls hlv hR2 hO2 hS2)

def spL_unload (W9 : xWd) (aM : Nat → Nat) (oA : Nat) : xSp lS := (fun av S => (2, 12), fun av S K => ∃ (x : Nat) (p0 : Int32) (B : Nat), av = [.ref x, .int p0, .ref oA] ∧ (RR W9 B x S.1 S.2.1 ∧ B + 15 ≤ 8000 ∧ lApt aM oA S.1) ∧ (∀ S2 z9, RR W9 (B + 15) x S2 (oUnload S.2.1 p0).2 → lApt aM oA S2 → ((oUnload S.2.1 p0).2.1 0 = 0 → z9 = (oUnload S.2.1 p0).1.toInt64) → K (rI ((oUnload S.2.1 p0).2.1 0)) (S2, S.2.1, z9)))
theorem spcL_unload {W9 : xWd} {aM : Nat → Nat} {oA : Nat} {av : List Value} {S : lS} : (spL_unload W9 aM oA).1 av S = (2, 12) := rfl

set_option maxHeartbeats 1000000 in
set_option maxRecDepth 20000 in
theorem semL_unload (l : Launch) (hl : l.stackTraces = false) (W9 : xWd) (aM : Nat → Nat) (oA : Nat) : lSem l W9 aM oA yL_unload wsL_unload 8 176 (spL_unload W9 aM oA) := by
  intro av S sz KF hsp
  obtain ⟨x, p0, B, rfl, ⟨hRR, hB, hdj⟩, hk⟩ := hsp
  refine vx_ofWH (cc := cL_unload) (maxL := 4) (ret := some .int) (hh := [(0, 9, 12, 13), (0, 9, 15, 17)]) (by decide +kernel) rfl ?_
  intro p e s m args below meth c s₁ B9 hml hv
  obtain ⟨rfl, hsz, hR, hAmb, hN⟩ := hv
  subst hsz
  have hts := atoms_spec (ws := wsL_unload) B9.pre
  have htab := vx_table (x := yL_unload) B9 (hts _ List.mem_cons_self)
  have hown : s.vm.findClass RL = some m.cls := findClass_of_methodNamed B9.named
  have X : xCtxL W9 (lE aM oA 2 12 KF) (xReg (lI aM oA) (wY W9) S s.heap.size) p s m [.ref x, .int p0, .ref oA].toArray c 4 RL wsL_unload := ⟨B9.exec, hml, hown, hts, lI_law, hAmb, fun q h => Or.inr h⟩
  rw [lg_entry_eq]
  refine (?_ : wG (lE aM oA 2 12 KF) W9 (xReg (lI aM oA) (wY W9) S s.heap.size) p l e _ s m [.ref x, .int p0, .ref oA].toArray below meth c 4 0 (xEntry 4 [.ref x, .int p0, .ref oA]) [] S 0 0) s.heap [] _ (xentry_ok (by intro v hv; simp only [List.mem_cons, List.not_mem_nil, or_false] at hv; rcases hv with rfl | rfl | rfl <;> rfl) (Nat.le_of_ble_eq_true rfl)) hR (fun a x h => Or.inl ⟨x, h⟩) va_S.rf
  refine wg_aln (u := 2) (k := 2) X.1 B9.bytes (by decide +kernel) rfl rfl ?_
  refine wg_ic (z := 0) X.1 B9.bytes (by decide +kernel) ?_
  refine wg_aln (u := 0) (k := 0) X.1 B9.bytes (by decide +kernel) rfl rfl ?_
  refine wg_iln (u := 1) (k := 1) X.1 B9.bytes (by decide +kernel) rfl rfl ?_
  refine wg_call (i := .invokevirtual 51) (len := 3) (av := [.ref x, .int p0]) (rest := [.int 0, .ref oA]) (KF := fun r S' => ∃ S2, S' = (S2, S.2) ∧ lApt aM oA S2 ∧ ans [eB, eS] W9 (B + 15) x (oUnload S.2.1 p0) r S2) (xCR_VC (n := 1) (ci := 8) rfl X (semX7_unload l hl W9) gL_unload_X7_unload rfl rfl (by decide +kernel) ⟨by show 7 + 1 ≤ 8; omega, by show 8 + (5 + 11) + 152 ≤ 176; omega⟩) B9.bytes (by decide +kernel) rfl rfl rfl (fun _ => Or.inr (Or.inl ⟨hdj.fr (live_of (RR_k hRR) (by omega)), RR_k hRR, by omega⟩)) (by show 1 + (1 + 0) ≤ 8; omega) (by show 0 + 2 ≤ 2; omega) (by show 0 + 12 ≤ 12; omega) ⟨hdj, Q_unload hRR (fun r S2 ha hd2 => ⟨S2, rfl, hd2, RR_up ha.1 (by omega) hB, ha.2⟩)⟩ (fun v S' hk2 => ?_) (fun ex S' hk2 => ?_)
  · obtain ⟨S2, rfl, hd2, ha1, ha2⟩ := hk2
    unfold rZ at ha2
    by_cases z0 : (oUnload S.2.1 p0).2.1 0 = 0
    · rw [if_pos z0] at ha2
      cases ha2
      have hf := hk S2 _ ha1 hd2 (fun _ => rfl)
      rw [z0] at hf
      exact wg_end (n2 := 9) (z := 18) rfl X B9.bytes B9.returns B9.notSynchronized (by decide +kernel) (by decide +kernel) (by decide +kernel) (by decide) (by decide +kernel) (by decide +kernel) (by show 0 + 2 ≤ 2; omega) (by show 0 + 12 ≤ 12; omega) rfl rfl hf
    · rw [if_neg z0] at ha2
      cases ha2
  · obtain ⟨S2, rfl, hd2, ha1, ha2⟩ := hk2
    unfold rZ at ha2
    rcases @cd_unload S.2.1 p0 with z0 | z1 | z2
    · rw [if_pos z0] at ha2
      cases ha2
    · rw [if_neg (by rw [z1]; decide), z1] at ha2
      have he : ex = eB := Sum.inr.inj ha2
      subst he
      have hf := hk S2 S.2.2 ha1 hd2 (fun z => absurd z (by rw [z1]; decide))
      rw [z1] at hf
      intro H locs ls rest q ce hlv hR2 hO2 hS2 hce hcv hcl
      exact vx_catch (name := eB) (E := eB) hown [] ⟨0, 9, 12, 13⟩ [⟨0, 9, 15, 17⟩] htab (fun _ h => nomatch h) rfl (by decide) (hts _ (by decide +kernel)) (xExtra_use hAmb.2.2.2.2.1.2.2 _ (by decide +kernel)) hce hcv hcl (wg_h (z := 1) (k := 3) (n := 1) X B9.bytes B9.returns B9.notSynchronized (Or.inl ⟨3, (by decide +kernel), rfl, rfl⟩) (by omega) (by decide +kernel) (by decide +kernel) (by show 0 + 2 ≤ 2; omega) (by show 0 + 12 ≤ 12; omega) hf H locs ls hlv hR2 hO2 hS2)
    · rw [if_neg (by rw [z2]; decide), z2] at ha2
      have he : ex = eS := Sum.inr.inj ha2
      subst he
      have hf := hk S2 S.2.2 ha1 hd2 (fun z => absurd z (by rw [z2]; decide))
      rw [z2] at hf
      intro H locs ls rest q ce hlv hR2 hO2 hS2 hce hcv hcl
      exact vx_catch (name := eS) (E := eS) hown [⟨0, 9, 12, 13⟩] ⟨0, 9, 15, 17⟩ [] htab (List.forall_mem_cons.mpr ⟨Or.inr ⟨by decide, eB, hts _ (by decide +kernel), hN.2.1⟩, (fun _ h => nomatch h)⟩) rfl (by decide) (hts _ (by decide +kernel)) (xExtra_use hAmb.2.2.2.2.1.2.2 _ (by decide +kernel)) hce hcv hcl (wg_h (z := 2) (k := 3) (n := 1) X B9.bytes B9.returns B9.notSynchronized (Or.inl ⟨3, (by decide +kernel), rfl, rfl⟩) (by omega) (by decide +kernel) (by decide +kernel) (by show 0 + 2 ≤ 2; omega) (by show 0 + 12 ≤ 12; omega) hf H locs ls hlv hR2 hO2 hS2)

def spL_load (W9 : xWd) (aM : Nat → Nat) (oA : Nat) : xSp lS := (fun av S => (6, 36), fun av S K => ∃ (x : Nat) (p0 p1 p2 : Int32) (B : Nat), av = [.ref x, .int p0, .int p1, .int p2, .ref oA] ∧ (RR W9 B x S.1 S.2.1 ∧ B + 15 ≤ 8000 ∧ lApt aM oA S.1) ∧ (∀ S2 z9, RR W9 (B + 15) x S2 (oLoad S.2.1 p0 p1 p2).2 → lApt aM oA S2 → ((oLoad S.2.1 p0 p1 p2).2.1 0 = 0 → z9 = (oLoad S.2.1 p0 p1 p2).1.toInt64) → K (rI ((oLoad S.2.1 p0 p1 p2).2.1 0)) (S2, S.2.1, z9)))
theorem spcL_load {W9 : xWd} {aM : Nat → Nat} {oA : Nat} {av : List Value} {S : lS} : (spL_load W9 aM oA).1 av S = (6, 36) := rfl

set_option maxHeartbeats 1000000 in
set_option maxRecDepth 20000 in
theorem semL_load (l : Launch) (hl : l.stackTraces = false) (W9 : xWd) (aM : Nat → Nat) (oA : Nat) : lSem l W9 aM oA yL_load wsL_load 8 178 (spL_load W9 aM oA) := by
  intro av S sz KF hsp
  obtain ⟨x, p0, p1, p2, B, rfl, ⟨hRR, hB, hdj⟩, hk⟩ := hsp
  refine vx_ofWH (cc := cL_load) (maxL := 6) (ret := some .int) (hh := [(0, 12, 15, 13), (0, 12, 19, 15), (0, 12, 23, 17)]) (by decide +kernel) rfl ?_
  intro p e s m args below meth c s₁ B9 hml hv
  obtain ⟨rfl, hsz, hR, hAmb, hN⟩ := hv
  subst hsz
  have hts := atoms_spec (ws := wsL_load) B9.pre
  have htab := vx_table (x := yL_load) B9 (hts _ List.mem_cons_self)
  have hown : s.vm.findClass RL = some m.cls := findClass_of_methodNamed B9.named
  have X : xCtxL W9 (lE aM oA 6 36 KF) (xReg (lI aM oA) (wY W9) S s.heap.size) p s m [.ref x, .int p0, .int p1, .int p2, .ref oA].toArray c 6 RL wsL_load := ⟨B9.exec, hml, hown, hts, lI_law, hAmb, fun q h => Or.inr h⟩
  rw [lg_entry_eq]
  refine (?_ : wG (lE aM oA 6 36 KF) W9 (xReg (lI aM oA) (wY W9) S s.heap.size) p l e _ s m [.ref x, .int p0, .int p1, .int p2, .ref oA].toArray below meth c 6 0 (xEntry 6 [.ref x, .int p0, .int p1, .int p2, .ref oA]) [] S 0 0) s.heap [] _ (xentry_ok (by intro v hv; simp only [List.mem_cons, List.not_mem_nil, or_false] at hv; rcases hv with rfl | rfl | rfl | rfl | rfl <;> rfl) (Nat.le_of_ble_eq_true rfl)) hR (fun a x h => Or.inl ⟨x, h⟩) va_S.rf
  refine wg_al (k := 4) X.1 B9.bytes (by decide +kernel) rfl ?_
  refine wg_ic (z := 0) X.1 B9.bytes (by decide +kernel) ?_
  refine wg_aln (u := 0) (k := 0) X.1 B9.bytes (by decide +kernel) rfl rfl ?_
  refine wg_iln (u := 1) (k := 1) X.1 B9.bytes (by decide +kernel) rfl rfl ?_
  refine wg_iln (u := 2) (k := 2) X.1 B9.bytes (by decide +kernel) rfl rfl ?_
  refine wg_iln (u := 3) (k := 3) X.1 B9.bytes (by decide +kernel) rfl rfl ?_
  refine wg_call (i := .invokevirtual 48) (len := 3) (av := [.ref x, .int p0, .int p1, .int p2]) (rest := [.int 0, .ref oA]) (KF := fun r S' => ∃ S2, S' = (S2, S.2) ∧ lApt aM oA S2 ∧ ans [eB, eA, eS] W9 (B + 15) x (oLoad S.2.1 p0 p1 p2) r S2) (xCR_VC (n := 3) (ci := 8) rfl X (semX7_load l hl W9) gL_load_X7_load rfl rfl (by decide +kernel) ⟨by show 7 + 1 ≤ 8; omega, by show 8 + (7 + 11) + 152 ≤ 178; omega⟩) B9.bytes (by decide +kernel) rfl rfl rfl (fun _ => Or.inr (Or.inl ⟨hdj.fr (live_of (RR_k hRR) (by omega)), RR_k hRR, by omega⟩)) (by show 1 + (1 + 0) ≤ 8; omega) (by show 0 + 6 ≤ 6; omega) (by show 0 + 36 ≤ 36; omega) ⟨hdj, Q_load hRR (fun r S2 ha hd2 => ⟨S2, rfl, hd2, RR_up ha.1 (by omega) hB, ha.2⟩)⟩ (fun v S' hk2 => ?_) (fun ex S' hk2 => ?_)
  · obtain ⟨S2, rfl, hd2, ha1, ha2⟩ := hk2
    unfold rZ at ha2
    by_cases z0 : (oLoad S.2.1 p0 p1 p2).2.1 0 = 0
    · rw [if_pos z0] at ha2
      cases ha2
      have hf := hk S2 _ ha1 hd2 (fun _ => rfl)
      rw [z0] at hf
      exact wg_end (n2 := 15) (z := 27) rfl X B9.bytes B9.returns B9.notSynchronized (by decide +kernel) (by decide +kernel) (by decide +kernel) (by decide) (by decide +kernel) (by decide +kernel) (by show 0 + 6 ≤ 6; omega) (by show 0 + 36 ≤ 36; omega) rfl rfl hf
    · rw [if_neg z0] at ha2
      cases ha2
  · obtain ⟨S2, rfl, hd2, ha1, ha2⟩ := hk2
    unfold rZ at ha2
    rcases @cd_load S.2.1 p0 p1 p2 with z0 | z1 | z2 | z3
    · rw [if_pos z0] at ha2
      cases ha2
    · rw [if_neg (by rw [z1]; decide), z1] at ha2
      have he : ex = eB := Sum.inr.inj ha2
      subst he
      have hf := hk S2 S.2.2 ha1 hd2 (fun z => absurd z (by rw [z1]; decide))
      rw [z1] at hf
      intro H locs ls rest q ce hlv hR2 hO2 hS2 hce hcv hcl
      exact vx_catch (name := eB) (E := eB) hown [] ⟨0, 12, 15, 13⟩ [⟨0, 12, 19, 15⟩, ⟨0, 12, 23, 17⟩] htab (fun _ h => nomatch h) rfl (by decide) (hts _ (by decide +kernel)) (xExtra_use hAmb.2.2.2.2.1.2.2 _ (by decide +kernel)) hce hcv hcl (wg_h (z := 1) (k := 5) (n := 2) X B9.bytes B9.returns B9.notSynchronized (Or.inr ⟨(by decide +kernel), rfl⟩) (by omega) (by decide +kernel) (by decide +kernel) (by show 0 + 6 ≤ 6; omega) (by show 0 + 36 ≤ 36; omega) hf H locs ls hlv hR2 hO2 hS2)
    · rw [if_neg (by rw [z2]; decide), z2] at ha2
      have he : ex = eA := Sum.inr.inj ha2
      subst he
      have hf := hk S2 S.2.2 ha1 hd2 (fun z => absurd z (by rw [z2]; decide))
      rw [z2] at hf
      intro H locs ls rest q ce hlv hR2 hO2 hS2 hce hcv hcl
      exact vx_catch (name := eA) (E := eA) hown [⟨0, 12, 15, 13⟩] ⟨0, 12, 19, 15⟩ [⟨0, 12, 23, 17⟩] htab (List.forall_mem_cons.mpr ⟨Or.inr ⟨by decide, eB, hts _ (by decide +kernel), hN.1⟩, (fun _ h => nomatch h)⟩) rfl (by decide) (hts _ (by decide +kernel)) (xExtra_use hAmb.2.2.2.2.1.2.2 _ (by decide +kernel)) hce hcv hcl (wg_h (z := 2) (k := 5) (n := 2) X B9.bytes B9.returns B9.notSynchronized (Or.inr ⟨(by decide +kernel), rfl⟩) (by omega) (by decide +kernel) (by decide +kernel) (by show 0 + 6 ≤ 6; omega) (by show 0 + 36 ≤ 36; omega) hf H locs ls hlv hR2 hO2 hS2)
    · rw [if_neg (by rw [z3]; decide), z3] at ha2
      have he : ex = eS := Sum.inr.inj ha2
      subst he
      have hf := hk S2 S.2.2 ha1 hd2 (fun z => absurd z (by rw [z3]; decide))
      rw [z3] at hf
      intro H locs ls rest q ce hlv hR2 hO2 hS2 hce hcv hcl
      exact vx_catch (name := eS) (E := eS) hown [⟨0, 12, 15, 13⟩, ⟨0, 12, 19, 15⟩] ⟨0, 12, 23, 17⟩ [] htab (List.forall_mem_cons.mpr ⟨Or.inr ⟨by decide, eB, hts _ (by decide +kernel), hN.2.1⟩, (List.forall_mem_cons.mpr ⟨Or.inr ⟨by decide, eA, hts _ (by decide +kernel), hN.2.2⟩, (fun _ h => nomatch h)⟩)⟩) rfl (by decide) (hts _ (by decide +kernel)) (xExtra_use hAmb.2.2.2.2.1.2.2 _ (by decide +kernel)) hce hcv hcl (wg_h (z := 3) (k := 5) (n := 2) X B9.bytes B9.returns B9.notSynchronized (Or.inr ⟨(by decide +kernel), rfl⟩) (by omega) (by decide +kernel) (by decide +kernel) (by show 0 + 6 ≤ 6; omega) (by show 0 + 36 ≤ 36; omega) hf H locs ls hlv hR2 hO2 hS2)

def spL_contract (W9 : xWd) (aM : Nat → Nat) (oA : Nat) : xSp lS := (fun av S => (10, 104), fun av S K => ∃ (x : Nat) (p0 p1 p2 p3 p4 p5 : Int32) (B : Nat), av = [.ref x, .int p0, .int p1, .int p2, .int p3, .int p4, .int p5, .ref oA] ∧ (RR W9 B x S.1 S.2.1 ∧ B + 15 ≤ 8000 ∧ lApt aM oA S.1) ∧ (∀ S2 z9, RR W9 (B + 15) x S2 (oContract S.2.1 p0 p1 p2 p3 p4 p5).2 → lApt aM oA S2 → ((oContract S.2.1 p0 p1 p2 p3 p4 p5).2.1 0 = 0 → z9 = (oContract S.2.1 p0 p1 p2 p3 p4 p5).1.toInt64) → K (rI ((oContract S.2.1 p0 p1 p2 p3 p4 p5).2.1 0)) (S2, S.2.1, z9)))
theorem spcL_contract {W9 : xWd} {aM : Nat → Nat} {oA : Nat} {av : List Value} {S : lS} : (spL_contract W9 aM oA).1 av S = (10, 104) := rfl

set_option maxHeartbeats 1000000 in
set_option maxRecDepth 20000 in
theorem semL_contract (l : Launch) (hl : l.stackTraces = false) (W9 : xWd) (aM : Nat → Nat) (oA : Nat) : lSem l W9 aM oA yL_contract wsL_contract 9 218 (spL_contract W9 aM oA) := by
  intro av S sz KF hsp
  obtain ⟨x, p0, p1, p2, p3, p4, p5, B, rfl, ⟨hRR, hB, hdj⟩, hk⟩ := hsp
  refine vx_ofWH (cc := cL_contract) (maxL := 9) (ret := some .int) (hh := [(0, 18, 21, 13), (0, 18, 25, 15), (0, 18, 29, 17)]) (by decide +kernel) rfl ?_
  intro p e s m args below meth c s₁ B9 hml hv
  obtain ⟨rfl, hsz, hR, hAmb, hN⟩ := hv
  subst hsz
  have hts := atoms_spec (ws := wsL_contract) B9.pre
  have htab := vx_table (x := yL_contract) B9 (hts _ List.mem_cons_self)
  have hown : s.vm.findClass RL = some m.cls := findClass_of_methodNamed B9.named
  have X : xCtxL W9 (lE aM oA 10 104 KF) (xReg (lI aM oA) (wY W9) S s.heap.size) p s m [.ref x, .int p0, .int p1, .int p2, .int p3, .int p4, .int p5, .ref oA].toArray c 9 RL wsL_contract := ⟨B9.exec, hml, hown, hts, lI_law, hAmb, fun q h => Or.inr h⟩
  rw [lg_entry_eq]
  refine (?_ : wG (lE aM oA 10 104 KF) W9 (xReg (lI aM oA) (wY W9) S s.heap.size) p l e _ s m [.ref x, .int p0, .int p1, .int p2, .int p3, .int p4, .int p5, .ref oA].toArray below meth c 9 0 (xEntry 9 [.ref x, .int p0, .int p1, .int p2, .int p3, .int p4, .int p5, .ref oA]) [] S 0 0) s.heap [] _ (xentry_ok (by intro v hv; simp only [List.mem_cons, List.not_mem_nil, or_false] at hv; rcases hv with rfl | rfl | rfl | rfl | rfl | rfl | rfl | rfl <;> rfl) (Nat.le_of_ble_eq_true rfl)) hR (fun a x h => Or.inl ⟨x, h⟩) va_S.rf
  refine wg_al (k := 7) X.1 B9.bytes (by decide +kernel) rfl ?_
  refine wg_ic (z := 0) X.1 B9.bytes (by decide +kernel) ?_
  refine wg_aln (u := 0) (k := 0) X.1 B9.bytes (by decide +kernel) rfl rfl ?_
  refine wg_iln (u := 1) (k := 1) X.1 B9.bytes (by decide +kernel) rfl rfl ?_
  refine wg_iln (u := 2) (k := 2) X.1 B9.bytes (by decide +kernel) rfl rfl ?_
  refine wg_iln (u := 3) (k := 3) X.1 B9.bytes (by decide +kernel) rfl rfl ?_
  refine wg_il (k := 4) X.1 B9.bytes (by decide +kernel) rfl ?_
  refine wg_il (k := 5) X.1 B9.bytes (by decide +kernel) rfl ?_
  refine wg_il (k := 6) X.1 B9.bytes (by decide +kernel) rfl ?_
  refine wg_call (i := .invokevirtual 41) (len := 3) (av := [.ref x, .int p0, .int p1, .int p2, .int p3, .int p4, .int p5]) (rest := [.int 0, .ref oA]) (KF := fun r S' => ∃ S2, S' = (S2, S.2) ∧ lApt aM oA S2 ∧ ans [eB, eA, eS] W9 (B + 15) x (oContract S.2.1 p0 p1 p2 p3 p4 p5) r S2) (xCR_VC (n := 6) (ci := 8) rfl X (semX7_contract l hl W9) gL_contract_X7_contract rfl rfl (by decide +kernel) ⟨by show 8 + 1 ≤ 9; omega, by show 8 + (8 + 11) + 191 ≤ 218; omega⟩) B9.bytes (by decide +kernel) rfl rfl rfl (fun _ => Or.inr (Or.inl ⟨hdj.fr (live_of (RR_k hRR) (by omega)), RR_k hRR, by omega⟩)) (by show 1 + (1 + 0) ≤ 8; omega) (by show 0 + 10 ≤ 10; omega) (by show 0 + 104 ≤ 104; omega) ⟨hdj, Q_contract hRR (fun r S2 ha hd2 => ⟨S2, rfl, hd2, RR_up ha.1 (by omega) hB, ha.2⟩)⟩ (fun v S' hk2 => ?_) (fun ex S' hk2 => ?_)
  · obtain ⟨S2, rfl, hd2, ha1, ha2⟩ := hk2
    unfold rZ at ha2
    by_cases z0 : (oContract S.2.1 p0 p1 p2 p3 p4 p5).2.1 0 = 0
    · rw [if_pos z0] at ha2
      cases ha2
      have hf := hk S2 _ ha1 hd2 (fun _ => rfl)
      rw [z0] at hf
      exact wg_end (n2 := 15) (z := 33) rfl X B9.bytes B9.returns B9.notSynchronized (by decide +kernel) (by decide +kernel) (by decide +kernel) (by decide) (by decide +kernel) (by decide +kernel) (by show 0 + 10 ≤ 10; omega) (by show 0 + 104 ≤ 104; omega) rfl rfl hf
    · rw [if_neg z0] at ha2
      cases ha2
  · obtain ⟨S2, rfl, hd2, ha1, ha2⟩ := hk2
    unfold rZ at ha2
    rcases @cd_contract S.2.1 p0 p1 p2 p3 p4 p5 with z0 | z1 | z2 | z3
    · rw [if_pos z0] at ha2
      cases ha2
    · rw [if_neg (by rw [z1]; decide), z1] at ha2
      have he : ex = eB := Sum.inr.inj ha2
      subst he
      have hf := hk S2 S.2.2 ha1 hd2 (fun z => absurd z (by rw [z1]; decide))
      rw [z1] at hf
      intro H locs ls rest q ce hlv hR2 hO2 hS2 hce hcv hcl
      exact vx_catch (name := eB) (E := eB) hown [] ⟨0, 18, 21, 13⟩ [⟨0, 18, 25, 15⟩, ⟨0, 18, 29, 17⟩] htab (fun _ h => nomatch h) rfl (by decide) (hts _ (by decide +kernel)) (xExtra_use hAmb.2.2.2.2.1.2.2 _ (by decide +kernel)) hce hcv hcl (wg_h (z := 1) (k := 8) (n := 2) X B9.bytes B9.returns B9.notSynchronized (Or.inr ⟨(by decide +kernel), rfl⟩) (by omega) (by decide +kernel) (by decide +kernel) (by show 0 + 10 ≤ 10; omega) (by show 0 + 104 ≤ 104; omega) hf H locs ls hlv hR2 hO2 hS2)
    · rw [if_neg (by rw [z2]; decide), z2] at ha2
      have he : ex = eA := Sum.inr.inj ha2
      subst he
      have hf := hk S2 S.2.2 ha1 hd2 (fun z => absurd z (by rw [z2]; decide))
      rw [z2] at hf
      intro H locs ls rest q ce hlv hR2 hO2 hS2 hce hcv hcl
      exact vx_catch (name := eA) (E := eA) hown [⟨0, 18, 21, 13⟩] ⟨0, 18, 25, 15⟩ [⟨0, 18, 29, 17⟩] htab (List.forall_mem_cons.mpr ⟨Or.inr ⟨by decide, eB, hts _ (by decide +kernel), hN.1⟩, (fun _ h => nomatch h)⟩) rfl (by decide) (hts _ (by decide +kernel)) (xExtra_use hAmb.2.2.2.2.1.2.2 _ (by decide +kernel)) hce hcv hcl (wg_h (z := 2) (k := 8) (n := 2) X B9.bytes B9.returns B9.notSynchronized (Or.inr ⟨(by decide +kernel), rfl⟩) (by omega) (by decide +kernel) (by decide +kernel) (by show 0 + 10 ≤ 10; omega) (by show 0 + 104 ≤ 104; omega) hf H locs ls hlv hR2 hO2 hS2)
    · rw [if_neg (by rw [z3]; decide), z3] at ha2
      have he : ex = eS := Sum.inr.inj ha2
      subst he
      have hf := hk S2 S.2.2 ha1 hd2 (fun z => absurd z (by rw [z3]; decide))
      rw [z3] at hf
      intro H locs ls rest q ce hlv hR2 hO2 hS2 hce hcv hcl
      exact vx_catch (name := eS) (E := eS) hown [⟨0, 18, 21, 13⟩, ⟨0, 18, 25, 15⟩] ⟨0, 18, 29, 17⟩ [] htab (List.forall_mem_cons.mpr ⟨Or.inr ⟨by decide, eB, hts _ (by decide +kernel), hN.2.1⟩, (List.forall_mem_cons.mpr ⟨Or.inr ⟨by decide, eA, hts _ (by decide +kernel), hN.2.2⟩, (fun _ h => nomatch h)⟩)⟩) rfl (by decide) (hts _ (by decide +kernel)) (xExtra_use hAmb.2.2.2.2.1.2.2 _ (by decide +kernel)) hce hcv hcl (wg_h (z := 3) (k := 8) (n := 2) X B9.bytes B9.returns B9.notSynchronized (Or.inr ⟨(by decide +kernel), rfl⟩) (by omega) (by decide +kernel) (by decide +kernel) (by show 0 + 10 ≤ 10; omega) (by show 0 + 104 ≤ 104; omega) hf H locs ls hlv hR2 hO2 hS2)

def spL_barge (W9 : xWd) (aM : Nat → Nat) (oA : Nat) : xSp lS := (fun av S => (10, 193), fun av S K => ∃ (x : Nat) (p0 p1 p2 : Int32) (B : Nat), av = [.ref x, .int p0, .int p1, .int p2, .ref oA] ∧ (RR W9 B x S.1 S.2.1 ∧ B + 15 ≤ 8000 ∧ lApt aM oA S.1) ∧ (∀ S2 z9, RR W9 (B + 15) x S2 (oBarge S.2.1 p0 p1 p2).2 → lApt aM oA S2 → ((oBarge S.2.1 p0 p1 p2).2.1 0 = 0 → z9 = (oBarge S.2.1 p0 p1 p2).1.toInt64) → K (rI ((oBarge S.2.1 p0 p1 p2).2.1 0)) (S2, S.2.1, z9)))
theorem spcL_barge {W9 : xWd} {aM : Nat → Nat} {oA : Nat} {av : List Value} {S : lS} : (spL_barge W9 aM oA).1 av S = (10, 193) := rfl

set_option maxHeartbeats 1000000 in
set_option maxRecDepth 20000 in
theorem semL_barge (l : Launch) (hl : l.stackTraces = false) (W9 : xWd) (aM : Nat → Nat) (oA : Nat) : lSem l W9 aM oA yL_barge wsL_barge 10 237 (spL_barge W9 aM oA) := by
  intro av S sz KF hsp
  obtain ⟨x, p0, p1, p2, B, rfl, ⟨hRR, hB, hdj⟩, hk⟩ := hsp
  refine vx_ofWH (cc := cL_barge) (maxL := 6) (ret := some .int) (hh := [(0, 12, 15, 13), (0, 12, 19, 15), (0, 12, 23, 17)]) (by decide +kernel) rfl ?_
  intro p e s m args below meth c s₁ B9 hml hv
  obtain ⟨rfl, hsz, hR, hAmb, hN⟩ := hv
  subst hsz
  have hts := atoms_spec (ws := wsL_barge) B9.pre
  have htab := vx_table (x := yL_barge) B9 (hts _ List.mem_cons_self)
  have hown : s.vm.findClass RL = some m.cls := findClass_of_methodNamed B9.named
  have X : xCtxL W9 (lE aM oA 10 193 KF) (xReg (lI aM oA) (wY W9) S s.heap.size) p s m [.ref x, .int p0, .int p1, .int p2, .ref oA].toArray c 6 RL wsL_barge := ⟨B9.exec, hml, hown, hts, lI_law, hAmb, fun q h => Or.inr h⟩
  rw [lg_entry_eq]
  refine (?_ : wG (lE aM oA 10 193 KF) W9 (xReg (lI aM oA) (wY W9) S s.heap.size) p l e _ s m [.ref x, .int p0, .int p1, .int p2, .ref oA].toArray below meth c 6 0 (xEntry 6 [.ref x, .int p0, .int p1, .int p2, .ref oA]) [] S 0 0) s.heap [] _ (xentry_ok (by intro v hv; simp only [List.mem_cons, List.not_mem_nil, or_false] at hv; rcases hv with rfl | rfl | rfl | rfl | rfl <;> rfl) (Nat.le_of_ble_eq_true rfl)) hR (fun a x h => Or.inl ⟨x, h⟩) va_S.rf
  refine wg_al (k := 4) X.1 B9.bytes (by decide +kernel) rfl ?_
  refine wg_ic (z := 0) X.1 B9.bytes (by decide +kernel) ?_
  refine wg_aln (u := 0) (k := 0) X.1 B9.bytes (by decide +kernel) rfl rfl ?_
  refine wg_iln (u := 1) (k := 1) X.1 B9.bytes (by decide +kernel) rfl rfl ?_
  refine wg_iln (u := 2) (k := 2) X.1 B9.bytes (by decide +kernel) rfl rfl ?_
  refine wg_iln (u := 3) (k := 3) X.1 B9.bytes (by decide +kernel) rfl rfl ?_
  refine wg_call (i := .invokevirtual 38) (len := 3) (av := [.ref x, .int p0, .int p1, .int p2]) (rest := [.int 0, .ref oA]) (KF := fun r S' => ∃ S2, S' = (S2, S.2) ∧ lApt aM oA S2 ∧ ans [eB, eA, eS] W9 (B + 15) x (oBarge S.2.1 p0 p1 p2) r S2) (xCR_VC (n := 3) (ci := 8) rfl X (semX7_barge l hl W9) gL_barge_X7_barge rfl rfl (by decide +kernel) ⟨by show 9 + 1 ≤ 10; omega, by show 8 + (6 + 11) + 212 ≤ 237; omega⟩) B9.bytes (by decide +kernel) rfl rfl rfl (fun _ => Or.inr (Or.inl ⟨hdj.fr (live_of (RR_k hRR) (by omega)), RR_k hRR, by omega⟩)) (by show 1 + (1 + 0) ≤ 8; omega) (by show 0 + 10 ≤ 10; omega) (by show 0 + 193 ≤ 193; omega) ⟨hdj, Q_barge hRR hB (fun r S2 ha hd2 => ⟨S2, rfl, hd2, ha⟩)⟩ (fun v S' hk2 => ?_) (fun ex S' hk2 => ?_)
  · obtain ⟨S2, rfl, hd2, ha1, ha2⟩ := hk2
    unfold rZ at ha2
    by_cases z0 : (oBarge S.2.1 p0 p1 p2).2.1 0 = 0
    · rw [if_pos z0] at ha2
      cases ha2
      have hf := hk S2 _ ha1 hd2 (fun _ => rfl)
      rw [z0] at hf
      exact wg_end (n2 := 15) (z := 27) rfl X B9.bytes B9.returns B9.notSynchronized (by decide +kernel) (by decide +kernel) (by decide +kernel) (by decide) (by decide +kernel) (by decide +kernel) (by show 0 + 10 ≤ 10; omega) (by show 0 + 193 ≤ 193; omega) rfl rfl hf
    · rw [if_neg z0] at ha2
      cases ha2
  · obtain ⟨S2, rfl, hd2, ha1, ha2⟩ := hk2
    unfold rZ at ha2
    rcases @cd_barge S.2.1 p0 p1 p2 with z0 | z1 | z2 | z3
    · rw [if_pos z0] at ha2
      cases ha2
    · rw [if_neg (by rw [z1]; decide), z1] at ha2
      have he : ex = eB := Sum.inr.inj ha2
      subst he
      have hf := hk S2 S.2.2 ha1 hd2 (fun z => absurd z (by rw [z1]; decide))
      rw [z1] at hf
      intro H locs ls rest q ce hlv hR2 hO2 hS2 hce hcv hcl
      exact vx_catch (name := eB) (E := eB) hown [] ⟨0, 12, 15, 13⟩ [⟨0, 12, 19, 15⟩, ⟨0, 12, 23, 17⟩] htab (fun _ h => nomatch h) rfl (by decide) (hts _ (by decide +kernel)) (xExtra_use hAmb.2.2.2.2.1.2.2 _ (by decide +kernel)) hce hcv hcl (wg_h (z := 1) (k := 5) (n := 2) X B9.bytes B9.returns B9.notSynchronized (Or.inr ⟨(by decide +kernel), rfl⟩) (by omega) (by decide +kernel) (by decide +kernel) (by show 0 + 10 ≤ 10; omega) (by show 0 + 193 ≤ 193; omega) hf H locs ls hlv hR2 hO2 hS2)
    · rw [if_neg (by rw [z2]; decide), z2] at ha2
      have he : ex = eA := Sum.inr.inj ha2
      subst he
      have hf := hk S2 S.2.2 ha1 hd2 (fun z => absurd z (by rw [z2]; decide))
      rw [z2] at hf
      intro H locs ls rest q ce hlv hR2 hO2 hS2 hce hcv hcl
      exact vx_catch (name := eA) (E := eA) hown [⟨0, 12, 15, 13⟩] ⟨0, 12, 19, 15⟩ [⟨0, 12, 23, 17⟩] htab (List.forall_mem_cons.mpr ⟨Or.inr ⟨by decide, eB, hts _ (by decide +kernel), hN.1⟩, (fun _ h => nomatch h)⟩) rfl (by decide) (hts _ (by decide +kernel)) (xExtra_use hAmb.2.2.2.2.1.2.2 _ (by decide +kernel)) hce hcv hcl (wg_h (z := 2) (k := 5) (n := 2) X B9.bytes B9.returns B9.notSynchronized (Or.inr ⟨(by decide +kernel), rfl⟩) (by omega) (by decide +kernel) (by decide +kernel) (by show 0 + 10 ≤ 10; omega) (by show 0 + 193 ≤ 193; omega) hf H locs ls hlv hR2 hO2 hS2)
    · rw [if_neg (by rw [z3]; decide), z3] at ha2
      have he : ex = eS := Sum.inr.inj ha2
      subst he
      have hf := hk S2 S.2.2 ha1 hd2 (fun z => absurd z (by rw [z3]; decide))
      rw [z3] at hf
      intro H locs ls rest q ce hlv hR2 hO2 hS2 hce hcv hcl
      exact vx_catch (name := eS) (E := eS) hown [⟨0, 12, 15, 13⟩, ⟨0, 12, 19, 15⟩] ⟨0, 12, 23, 17⟩ [] htab (List.forall_mem_cons.mpr ⟨Or.inr ⟨by decide, eB, hts _ (by decide +kernel), hN.2.1⟩, (List.forall_mem_cons.mpr ⟨Or.inr ⟨by decide, eA, hts _ (by decide +kernel), hN.2.2⟩, (fun _ h => nomatch h)⟩)⟩) rfl (by decide) (hts _ (by decide +kernel)) (xExtra_use hAmb.2.2.2.2.1.2.2 _ (by decide +kernel)) hce hcv hcl (wg_h (z := 3) (k := 5) (n := 2) X B9.bytes B9.returns B9.notSynchronized (Or.inr ⟨(by decide +kernel), rfl⟩) (by omega) (by decide +kernel) (by decide +kernel) (by show 0 + 10 ≤ 10; omega) (by show 0 + 193 ≤ 193; omega) hf H locs ls hlv hR2 hO2 hS2)

def spL_boat (W9 : xWd) (aM : Nat → Nat) (oA : Nat) : xSp lS := (fun av S => (11, 170), fun av S K => ∃ (x : Nat) (p0 p1 p2 : Int32) (B : Nat), av = [.ref x, .int p0, .int p1, .int p2, .ref oA] ∧ (RR W9 B x S.1 S.2.1 ∧ B + 15 ≤ 8000 ∧ lApt aM oA S.1) ∧ (∀ S2 z9, RR W9 (B + 15) x S2 (oBoat S.2.1 p0 p1 p2).2 → lApt aM oA S2 → ((oBoat S.2.1 p0 p1 p2).2.1 0 = 0 → z9 = (oBoat S.2.1 p0 p1 p2).1.toInt64) → K (rI ((oBoat S.2.1 p0 p1 p2).2.1 0)) (S2, S.2.1, z9)))
theorem spcL_boat {W9 : xWd} {aM : Nat → Nat} {oA : Nat} {av : List Value} {S : lS} : (spL_boat W9 aM oA).1 av S = (11, 170) := rfl

set_option maxHeartbeats 1000000 in
set_option maxRecDepth 20000 in
theorem semL_boat (l : Launch) (hl : l.stackTraces = false) (W9 : xWd) (aM : Nat → Nat) (oA : Nat) : lSem l W9 aM oA yL_boat wsL_boat 9 215 (spL_boat W9 aM oA) := by
  intro av S sz KF hsp
  obtain ⟨x, p0, p1, p2, B, rfl, ⟨hRR, hB, hdj⟩, hk⟩ := hsp
  refine vx_ofWH (cc := cL_boat) (maxL := 6) (ret := some .int) (hh := [(0, 12, 15, 13), (0, 12, 19, 15), (0, 12, 23, 17)]) (by decide +kernel) rfl ?_
  intro p e s m args below meth c s₁ B9 hml hv
  obtain ⟨rfl, hsz, hR, hAmb, hN⟩ := hv
  subst hsz
  have hts := atoms_spec (ws := wsL_boat) B9.pre
  have htab := vx_table (x := yL_boat) B9 (hts _ List.mem_cons_self)
  have hown : s.vm.findClass RL = some m.cls := findClass_of_methodNamed B9.named
  have X : xCtxL W9 (lE aM oA 11 170 KF) (xReg (lI aM oA) (wY W9) S s.heap.size) p s m [.ref x, .int p0, .int p1, .int p2, .ref oA].toArray c 6 RL wsL_boat := ⟨B9.exec, hml, hown, hts, lI_law, hAmb, fun q h => Or.inr h⟩
  rw [lg_entry_eq]
  refine (?_ : wG (lE aM oA 11 170 KF) W9 (xReg (lI aM oA) (wY W9) S s.heap.size) p l e _ s m [.ref x, .int p0, .int p1, .int p2, .ref oA].toArray below meth c 6 0 (xEntry 6 [.ref x, .int p0, .int p1, .int p2, .ref oA]) [] S 0 0) s.heap [] _ (xentry_ok (by intro v hv; simp only [List.mem_cons, List.not_mem_nil, or_false] at hv; rcases hv with rfl | rfl | rfl | rfl | rfl <;> rfl) (Nat.le_of_ble_eq_true rfl)) hR (fun a x h => Or.inl ⟨x, h⟩) va_S.rf
  refine wg_al (k := 4) X.1 B9.bytes (by decide +kernel) rfl ?_
  refine wg_ic (z := 0) X.1 B9.bytes (by decide +kernel) ?_
  refine wg_aln (u := 0) (k := 0) X.1 B9.bytes (by decide +kernel) rfl rfl ?_
  refine wg_iln (u := 1) (k := 1) X.1 B9.bytes (by decide +kernel) rfl rfl ?_
  refine wg_iln (u := 2) (k := 2) X.1 B9.bytes (by decide +kernel) rfl rfl ?_
  refine wg_iln (u := 3) (k := 3) X.1 B9.bytes (by decide +kernel) rfl rfl ?_
  refine wg_call (i := .invokevirtual 58) (len := 3) (av := [.ref x, .int p0, .int p1, .int p2]) (rest := [.int 0, .ref oA]) (KF := fun r S' => ∃ S2, S' = (S2, S.2) ∧ lApt aM oA S2 ∧ ans [eB, eA, eS] W9 (B + 15) x (oBoat S.2.1 p0 p1 p2) r S2) (xCR_VC (n := 3) (ci := 8) rfl X (semX7_boat l hl W9) gL_boat_X7_boat rfl rfl (by decide +kernel) ⟨by show 8 + 1 ≤ 9; omega, by show 8 + (5 + 11) + 191 ≤ 215; omega⟩) B9.bytes (by decide +kernel) rfl rfl rfl (fun _ => Or.inr (Or.inl ⟨hdj.fr (live_of (RR_k hRR) (by omega)), RR_k hRR, by omega⟩)) (by show 1 + (1 + 0) ≤ 8; omega) (by show 0 + 11 ≤ 11; omega) (by show 0 + 170 ≤ 170; omega) ⟨hdj, Q_boat hRR hB (fun r S2 ha hd2 => ⟨S2, rfl, hd2, ha⟩)⟩ (fun v S' hk2 => ?_) (fun ex S' hk2 => ?_)
  · obtain ⟨S2, rfl, hd2, ha1, ha2⟩ := hk2
    unfold rZ at ha2
    by_cases z0 : (oBoat S.2.1 p0 p1 p2).2.1 0 = 0
    · rw [if_pos z0] at ha2
      cases ha2
      have hf := hk S2 _ ha1 hd2 (fun _ => rfl)
      rw [z0] at hf
      exact wg_end (n2 := 15) (z := 27) rfl X B9.bytes B9.returns B9.notSynchronized (by decide +kernel) (by decide +kernel) (by decide +kernel) (by decide) (by decide +kernel) (by decide +kernel) (by show 0 + 11 ≤ 11; omega) (by show 0 + 170 ≤ 170; omega) rfl rfl hf
    · rw [if_neg z0] at ha2
      cases ha2
  · obtain ⟨S2, rfl, hd2, ha1, ha2⟩ := hk2
    unfold rZ at ha2
    rcases @cd_boat S.2.1 p0 p1 p2 with z0 | z1 | z2 | z3
    · rw [if_pos z0] at ha2
      cases ha2
    · rw [if_neg (by rw [z1]; decide), z1] at ha2
      have he : ex = eB := Sum.inr.inj ha2
      subst he
      have hf := hk S2 S.2.2 ha1 hd2 (fun z => absurd z (by rw [z1]; decide))
      rw [z1] at hf
      intro H locs ls rest q ce hlv hR2 hO2 hS2 hce hcv hcl
      exact vx_catch (name := eB) (E := eB) hown [] ⟨0, 12, 15, 13⟩ [⟨0, 12, 19, 15⟩, ⟨0, 12, 23, 17⟩] htab (fun _ h => nomatch h) rfl (by decide) (hts _ (by decide +kernel)) (xExtra_use hAmb.2.2.2.2.1.2.2 _ (by decide +kernel)) hce hcv hcl (wg_h (z := 1) (k := 5) (n := 2) X B9.bytes B9.returns B9.notSynchronized (Or.inr ⟨(by decide +kernel), rfl⟩) (by omega) (by decide +kernel) (by decide +kernel) (by show 0 + 11 ≤ 11; omega) (by show 0 + 170 ≤ 170; omega) hf H locs ls hlv hR2 hO2 hS2)
    · rw [if_neg (by rw [z2]; decide), z2] at ha2
      have he : ex = eA := Sum.inr.inj ha2
      subst he
      have hf := hk S2 S.2.2 ha1 hd2 (fun z => absurd z (by rw [z2]; decide))
      rw [z2] at hf
      intro H locs ls rest q ce hlv hR2 hO2 hS2 hce hcv hcl
      exact vx_catch (name := eA) (E := eA) hown [⟨0, 12, 15, 13⟩] ⟨0, 12, 19, 15⟩ [⟨0, 12, 23, 17⟩] htab (List.forall_mem_cons.mpr ⟨Or.inr ⟨by decide, eB, hts _ (by decide +kernel), hN.1⟩, (fun _ h => nomatch h)⟩) rfl (by decide) (hts _ (by decide +kernel)) (xExtra_use hAmb.2.2.2.2.1.2.2 _ (by decide +kernel)) hce hcv hcl (wg_h (z := 2) (k := 5) (n := 2) X B9.bytes B9.returns B9.notSynchronized (Or.inr ⟨(by decide +kernel), rfl⟩) (by omega) (by decide +kernel) (by decide +kernel) (by show 0 + 11 ≤ 11; omega) (by show 0 + 170 ≤ 170; omega) hf H locs ls hlv hR2 hO2 hS2)
    · rw [if_neg (by rw [z3]; decide), z3] at ha2
      have he : ex = eS := Sum.inr.inj ha2
      subst he
      have hf := hk S2 S.2.2 ha1 hd2 (fun z => absurd z (by rw [z3]; decide))
      rw [z3] at hf
      intro H locs ls rest q ce hlv hR2 hO2 hS2 hce hcv hcl
      exact vx_catch (name := eS) (E := eS) hown [⟨0, 12, 15, 13⟩, ⟨0, 12, 19, 15⟩] ⟨0, 12, 23, 17⟩ [] htab (List.forall_mem_cons.mpr ⟨Or.inr ⟨by decide, eB, hts _ (by decide +kernel), hN.2.1⟩, (List.forall_mem_cons.mpr ⟨Or.inr ⟨by decide, eA, hts _ (by decide +kernel), hN.2.2⟩, (fun _ h => nomatch h)⟩)⟩) rfl (by decide) (hts _ (by decide +kernel)) (xExtra_use hAmb.2.2.2.2.1.2.2 _ (by decide +kernel)) hce hcv hcl (wg_h (z := 3) (k := 5) (n := 2) X B9.bytes B9.returns B9.notSynchronized (Or.inr ⟨(by decide +kernel), rfl⟩) (by omega) (by decide +kernel) (by decide +kernel) (by show 0 + 11 ≤ 11; omega) (by show 0 + 170 ≤ 170; omega) hf H locs ls hlv hR2 hO2 hS2)

def spL_couple (W9 : xWd) (aM : Nat → Nat) (oA : Nat) : xSp lS := (fun av S => (7, 136), fun av S K => ∃ (x : Nat) (p0 p1 : Int32) (B : Nat), av = [.ref x, .int p0, .int p1, .ref oA] ∧ (RR W9 B x S.1 S.2.1 ∧ B + 15 ≤ 8000 ∧ lApt aM oA S.1) ∧ (∀ S2 z9, RR W9 (B + 15) x S2 (oCouple S.2.1 p0 p1).2 → lApt aM oA S2 → ((oCouple S.2.1 p0 p1).2.1 0 = 0 → z9 = (oCouple S.2.1 p0 p1).1.toInt64) → K (rI ((oCouple S.2.1 p0 p1).2.1 0)) (S2, S.2.1, z9)))
theorem spcL_couple {W9 : xWd} {aM : Nat → Nat} {oA : Nat} {av : List Value} {S : lS} : (spL_couple W9 aM oA).1 av S = (7, 136) := rfl

set_option maxHeartbeats 1000000 in
set_option maxRecDepth 20000 in
theorem semL_couple (l : Launch) (hl : l.stackTraces = false) (W9 : xWd) (aM : Nat → Nat) (oA : Nat) : lSem l W9 aM oA yL_couple wsL_couple 9 237 (spL_couple W9 aM oA) := by
  intro av S sz KF hsp
  obtain ⟨x, p0, p1, B, rfl, ⟨hRR, hB, hdj⟩, hk⟩ := hsp
  refine vx_ofWH (cc := cL_couple) (maxL := 5) (ret := some .int) (hh := [(0, 10, 13, 13), (0, 10, 17, 17)]) (by decide +kernel) rfl ?_
  intro p e s m args below meth c s₁ B9 hml hv
  obtain ⟨rfl, hsz, hR, hAmb, hN⟩ := hv
  subst hsz
  have hts := atoms_spec (ws := wsL_couple) B9.pre
  have htab := vx_table (x := yL_couple) B9 (hts _ List.mem_cons_self)
  have hown : s.vm.findClass RL = some m.cls := findClass_of_methodNamed B9.named
  have X : xCtxL W9 (lE aM oA 7 136 KF) (xReg (lI aM oA) (wY W9) S s.heap.size) p s m [.ref x, .int p0, .int p1, .ref oA].toArray c 5 RL wsL_couple := ⟨B9.exec, hml, hown, hts, lI_law, hAmb, fun q h => Or.inr h⟩
  rw [lg_entry_eq]
  refine (?_ : wG (lE aM oA 7 136 KF) W9 (xReg (lI aM oA) (wY W9) S s.heap.size) p l e _ s m [.ref x, .int p0, .int p1, .ref oA].toArray below meth c 5 0 (xEntry 5 [.ref x, .int p0, .int p1, .ref oA]) [] S 0 0) s.heap [] _ (xentry_ok (by intro v hv; simp only [List.mem_cons, List.not_mem_nil, or_false] at hv; rcases hv with rfl | rfl | rfl | rfl <;> rfl) (Nat.le_of_ble_eq_true rfl)) hR (fun a x h => Or.inl ⟨x, h⟩) va_S.rf
  refine wg_aln (u := 3) (k := 3) X.1 B9.bytes (by decide +kernel) rfl rfl ?_
  refine wg_ic (z := 0) X.1 B9.bytes (by decide +kernel) ?_
  refine wg_aln (u := 0) (k := 0) X.1 B9.bytes (by decide +kernel) rfl rfl ?_
  refine wg_iln (u := 1) (k := 1) X.1 B9.bytes (by decide +kernel) rfl rfl ?_
  refine wg_iln (u := 2) (k := 2) X.1 B9.bytes (by decide +kernel) rfl rfl ?_
  refine wg_call (i := .invokevirtual 67) (len := 3) (av := [.ref x, .int p0, .int p1]) (rest := [.int 0, .ref oA]) (KF := fun r S' => ∃ S2, S' = (S2, S.2) ∧ lApt aM oA S2 ∧ ans [eB, eS] W9 (B + 15) x (oCouple S.2.1 p0 p1) r S2) (xCR_VC (n := 2) (ci := 8) rfl X (semX7_couple l hl W9) gL_couple_X7_couple rfl rfl (by decide +kernel) ⟨by show 8 + 1 ≤ 9; omega, by show 8 + (6 + 11) + 212 ≤ 237; omega⟩) B9.bytes (by decide +kernel) rfl rfl rfl (fun _ => Or.inr (Or.inl ⟨hdj.fr (live_of (RR_k hRR) (by omega)), RR_k hRR, by omega⟩)) (by show 1 + (1 + 0) ≤ 8; omega) (by show 0 + 7 ≤ 7; omega) (by show 0 + 136 ≤ 136; omega) ⟨hdj, Q_couple hRR hB (fun r S2 ha hd2 => ⟨S2, rfl, hd2, ha⟩)⟩ (fun v S' hk2 => ?_) (fun ex S' hk2 => ?_)
  · obtain ⟨S2, rfl, hd2, ha1, ha2⟩ := hk2
    unfold rZ at ha2
    by_cases z0 : (oCouple S.2.1 p0 p1).2.1 0 = 0
    · rw [if_pos z0] at ha2
      cases ha2
      have hf := hk S2 _ ha1 hd2 (fun _ => rfl)
      rw [z0] at hf
      exact wg_end (n2 := 11) (z := 21) rfl X B9.bytes B9.returns B9.notSynchronized (by decide +kernel) (by decide +kernel) (by decide +kernel) (by decide) (by decide +kernel) (by decide +kernel) (by show 0 + 7 ≤ 7; omega) (by show 0 + 136 ≤ 136; omega) rfl rfl hf
    · rw [if_neg z0] at ha2
      cases ha2
  · obtain ⟨S2, rfl, hd2, ha1, ha2⟩ := hk2
    unfold rZ at ha2
    rcases @cd_couple S.2.1 p0 p1 with z0 | z1 | z2
    · rw [if_pos z0] at ha2
      cases ha2
    · rw [if_neg (by rw [z1]; decide), z1] at ha2
      have he : ex = eB := Sum.inr.inj ha2
      subst he
      have hf := hk S2 S.2.2 ha1 hd2 (fun z => absurd z (by rw [z1]; decide))
      rw [z1] at hf
      intro H locs ls rest q ce hlv hR2 hO2 hS2 hce hcv hcl
      exact vx_catch (name := eB) (E := eB) hown [] ⟨0, 10, 13, 13⟩ [⟨0, 10, 17, 17⟩] htab (fun _ h => nomatch h) rfl (by decide) (hts _ (by decide +kernel)) (xExtra_use hAmb.2.2.2.2.1.2.2 _ (by decide +kernel)) hce hcv hcl (wg_h (z := 1) (k := 4) (n := 2) X B9.bytes B9.returns B9.notSynchronized (Or.inr ⟨(by decide +kernel), rfl⟩) (by omega) (by decide +kernel) (by decide +kernel) (by show 0 + 7 ≤ 7; omega) (by show 0 + 136 ≤ 136; omega) hf H locs ls hlv hR2 hO2 hS2)
    · rw [if_neg (by rw [z2]; decide), z2] at ha2
      have he : ex = eS := Sum.inr.inj ha2
      subst he
      have hf := hk S2 S.2.2 ha1 hd2 (fun z => absurd z (by rw [z2]; decide))
      rw [z2] at hf
      intro H locs ls rest q ce hlv hR2 hO2 hS2 hce hcv hcl
      exact vx_catch (name := eS) (E := eS) hown [⟨0, 10, 13, 13⟩] ⟨0, 10, 17, 17⟩ [] htab (List.forall_mem_cons.mpr ⟨Or.inr ⟨by decide, eB, hts _ (by decide +kernel), hN.2.1⟩, (fun _ h => nomatch h)⟩) rfl (by decide) (hts _ (by decide +kernel)) (xExtra_use hAmb.2.2.2.2.1.2.2 _ (by decide +kernel)) hce hcv hcl (wg_h (z := 2) (k := 4) (n := 2) X B9.bytes B9.returns B9.notSynchronized (Or.inr ⟨(by decide +kernel), rfl⟩) (by omega) (by decide +kernel) (by decide +kernel) (by show 0 + 7 ≤ 7; omega) (by show 0 + 136 ≤ 136; omega) hf H locs ls hlv hR2 hO2 hS2)

def spL_drop (W9 : xWd) (aM : Nat → Nat) (oA : Nat) : xSp lS := (fun av S => (11, 160), fun av S K => ∃ (x : Nat) (p0 p1 p2 : Int32) (B : Nat), av = [.ref x, .int p0, .int p1, .int p2, .ref oA] ∧ (RR W9 B x S.1 S.2.1 ∧ B + 15 ≤ 8000 ∧ lApt aM oA S.1) ∧ (∀ S2 z9, RR W9 (B + 15) x S2 (oDrop S.2.1 p0 p1 p2).2 → lApt aM oA S2 → ((oDrop S.2.1 p0 p1 p2).2.1 0 = 0 → z9 = (oDrop S.2.1 p0 p1 p2).1.toInt64) → K (rI ((oDrop S.2.1 p0 p1 p2).2.1 0)) (S2, S.2.1, z9)))
theorem spcL_drop {W9 : xWd} {aM : Nat → Nat} {oA : Nat} {av : List Value} {S : lS} : (spL_drop W9 aM oA).1 av S = (11, 160) := rfl

set_option maxHeartbeats 1000000 in
set_option maxRecDepth 20000 in
theorem semL_drop (l : Launch) (hl : l.stackTraces = false) (W9 : xWd) (aM : Nat → Nat) (oA : Nat) : lSem l W9 aM oA yL_drop wsL_drop 10 238 (spL_drop W9 aM oA) := by
  intro av S sz KF hsp
  obtain ⟨x, p0, p1, p2, B, rfl, ⟨hRR, hB, hdj⟩, hk⟩ := hsp
  refine vx_ofWH (cc := cL_drop) (maxL := 6) (ret := some .int) (hh := [(0, 12, 15, 13), (0, 12, 19, 17)]) (by decide +kernel) rfl ?_
  intro p e s m args below meth c s₁ B9 hml hv
  obtain ⟨rfl, hsz, hR, hAmb, hN⟩ := hv
  subst hsz
  have hts := atoms_spec (ws := wsL_drop) B9.pre
  have htab := vx_table (x := yL_drop) B9 (hts _ List.mem_cons_self)
  have hown : s.vm.findClass RL = some m.cls := findClass_of_methodNamed B9.named
  have X : xCtxL W9 (lE aM oA 11 160 KF) (xReg (lI aM oA) (wY W9) S s.heap.size) p s m [.ref x, .int p0, .int p1, .int p2, .ref oA].toArray c 6 RL wsL_drop := ⟨B9.exec, hml, hown, hts, lI_law, hAmb, fun q h => Or.inr h⟩
  rw [lg_entry_eq]
  refine (?_ : wG (lE aM oA 11 160 KF) W9 (xReg (lI aM oA) (wY W9) S s.heap.size) p l e _ s m [.ref x, .int p0, .int p1, .int p2, .ref oA].toArray below meth c 6 0 (xEntry 6 [.ref x, .int p0, .int p1, .int p2, .ref oA]) [] S 0 0) s.heap [] _ (xentry_ok (by intro v hv; simp only [List.mem_cons, List.not_mem_nil, or_false] at hv; rcases hv with rfl | rfl | rfl | rfl | rfl <;> rfl) (Nat.le_of_ble_eq_true rfl)) hR (fun a x h => Or.inl ⟨x, h⟩) va_S.rf
  refine wg_al (k := 4) X.1 B9.bytes (by decide +kernel) rfl ?_
  refine wg_ic (z := 0) X.1 B9.bytes (by decide +kernel) ?_
  refine wg_aln (u := 0) (k := 0) X.1 B9.bytes (by decide +kernel) rfl rfl ?_
  refine wg_iln (u := 1) (k := 1) X.1 B9.bytes (by decide +kernel) rfl rfl ?_
  refine wg_iln (u := 2) (k := 2) X.1 B9.bytes (by decide +kernel) rfl rfl ?_
  refine wg_iln (u := 3) (k := 3) X.1 B9.bytes (by decide +kernel) rfl rfl ?_
  refine wg_call (i := .invokevirtual 70) (len := 3) (av := [.ref x, .int p0, .int p1, .int p2]) (rest := [.int 0, .ref oA]) (KF := fun r S' => ∃ S2, S' = (S2, S.2) ∧ lApt aM oA S2 ∧ ans [eB, eS] W9 (B + 15) x (oDrop S.2.1 p0 p1 p2) r S2) (xCR_VC (n := 3) (ci := 8) rfl X (semX7_drop l hl W9) gL_drop_X7_drop rfl rfl (by decide +kernel) ⟨by show 9 + 1 ≤ 10; omega, by show 8 + (7 + 11) + 212 ≤ 238; omega⟩) B9.bytes (by decide +kernel) rfl rfl rfl (fun _ => Or.inr (Or.inl ⟨hdj.fr (live_of (RR_k hRR) (by omega)), RR_k hRR, by omega⟩)) (by show 1 + (1 + 0) ≤ 8; omega) (by show 0 + 11 ≤ 11; omega) (by show 0 + 160 ≤ 160; omega) ⟨hdj, Q_drop hRR hB (fun r S2 ha hd2 => ⟨S2, rfl, hd2, ha⟩)⟩ (fun v S' hk2 => ?_) (fun ex S' hk2 => ?_)
  · obtain ⟨S2, rfl, hd2, ha1, ha2⟩ := hk2
    unfold rZ at ha2
    by_cases z0 : (oDrop S.2.1 p0 p1 p2).2.1 0 = 0
    · rw [if_pos z0] at ha2
      cases ha2
      have hf := hk S2 _ ha1 hd2 (fun _ => rfl)
      rw [z0] at hf
      exact wg_end (n2 := 11) (z := 23) rfl X B9.bytes B9.returns B9.notSynchronized (by decide +kernel) (by decide +kernel) (by decide +kernel) (by decide) (by decide +kernel) (by decide +kernel) (by show 0 + 11 ≤ 11; omega) (by show 0 + 160 ≤ 160; omega) rfl rfl hf
    · rw [if_neg z0] at ha2
      cases ha2
  · obtain ⟨S2, rfl, hd2, ha1, ha2⟩ := hk2
    unfold rZ at ha2
    rcases @cd_drop S.2.1 p0 p1 p2 with z0 | z1 | z2
    · rw [if_pos z0] at ha2
      cases ha2
    · rw [if_neg (by rw [z1]; decide), z1] at ha2
      have he : ex = eB := Sum.inr.inj ha2
      subst he
      have hf := hk S2 S.2.2 ha1 hd2 (fun z => absurd z (by rw [z1]; decide))
      rw [z1] at hf
      intro H locs ls rest q ce hlv hR2 hO2 hS2 hce hcv hcl
      exact vx_catch (name := eB) (E := eB) hown [] ⟨0, 12, 15, 13⟩ [⟨0, 12, 19, 17⟩] htab (fun _ h => nomatch h) rfl (by decide) (hts _ (by decide +kernel)) (xExtra_use hAmb.2.2.2.2.1.2.2 _ (by decide +kernel)) hce hcv hcl (wg_h (z := 1) (k := 5) (n := 2) X B9.bytes B9.returns B9.notSynchronized (Or.inr ⟨(by decide +kernel), rfl⟩) (by omega) (by decide +kernel) (by decide +kernel) (by show 0 + 11 ≤ 11; omega) (by show 0 + 160 ≤ 160; omega) hf H locs ls hlv hR2 hO2 hS2)
    · rw [if_neg (by rw [z2]; decide), z2] at ha2
      have he : ex = eS := Sum.inr.inj ha2
      subst he
      have hf := hk S2 S.2.2 ha1 hd2 (fun z => absurd z (by rw [z2]; decide))
      rw [z2] at hf
      intro H locs ls rest q ce hlv hR2 hO2 hS2 hce hcv hcl
      exact vx_catch (name := eS) (E := eS) hown [⟨0, 12, 15, 13⟩] ⟨0, 12, 19, 17⟩ [] htab (List.forall_mem_cons.mpr ⟨Or.inr ⟨by decide, eB, hts _ (by decide +kernel), hN.2.1⟩, (fun _ h => nomatch h)⟩) rfl (by decide) (hts _ (by decide +kernel)) (xExtra_use hAmb.2.2.2.2.1.2.2 _ (by decide +kernel)) hce hcv hcl (wg_h (z := 2) (k := 5) (n := 2) X B9.bytes B9.returns B9.notSynchronized (Or.inr ⟨(by decide +kernel), rfl⟩) (by omega) (by decide +kernel) (by decide +kernel) (by show 0 + 11 ≤ 11; omega) (by show 0 + 160 ≤ 160; omega) hf H locs ls hlv hR2 hO2 hS2)

def spL_shifts (W9 : xWd) (aM : Nat → Nat) (oA : Nat) : xSp lS := (fun av S => (34, 1371), fun av S K => ∃ (x : Nat) (p0 p1 : Int32) (B : Nat), av = [.ref x, .int p0, .int p1, .ref oA] ∧ (RR W9 B x S.1 S.2.1 ∧ B + 15 ≤ 8000 ∧ lApt aM oA S.1) ∧ (∀ S2 z9, RR W9 (B + 15) x S2 (oShifts S.2.1 p0 p1).2 → lApt aM oA S2 → ((oShifts S.2.1 p0 p1).2.1 0 = 0 → z9 = (oShifts S.2.1 p0 p1).1.toInt64) → K (rI ((oShifts S.2.1 p0 p1).2.1 0)) (S2, S.2.1, z9)))
theorem spcL_shifts {W9 : xWd} {aM : Nat → Nat} {oA : Nat} {av : List Value} {S : lS} : (spL_shifts W9 aM oA).1 av S = (34, 1371) := rfl

set_option maxHeartbeats 1000000 in
set_option maxRecDepth 20000 in
theorem semL_shifts (l : Launch) (hl : l.stackTraces = false) (W9 : xWd) (aM : Nat → Nat) (oA : Nat) : lSem l W9 aM oA yL_shifts wsL_shifts 9 242 (spL_shifts W9 aM oA) := by
  intro av S sz KF hsp
  obtain ⟨x, p0, p1, B, rfl, ⟨hRR, hB, hdj⟩, hk⟩ := hsp
  refine vx_ofWH (cc := cL_shifts) (maxL := 5) (ret := some .int) (hh := [(0, 10, 13, 13), (0, 10, 17, 15)]) (by decide +kernel) rfl ?_
  intro p e s m args below meth c s₁ B9 hml hv
  obtain ⟨rfl, hsz, hR, hAmb, hN⟩ := hv
  subst hsz
  have hts := atoms_spec (ws := wsL_shifts) B9.pre
  have htab := vx_table (x := yL_shifts) B9 (hts _ List.mem_cons_self)
  have hown : s.vm.findClass RL = some m.cls := findClass_of_methodNamed B9.named
  have X : xCtxL W9 (lE aM oA 34 1371 KF) (xReg (lI aM oA) (wY W9) S s.heap.size) p s m [.ref x, .int p0, .int p1, .ref oA].toArray c 5 RL wsL_shifts := ⟨B9.exec, hml, hown, hts, lI_law, hAmb, fun q h => Or.inr h⟩
  rw [lg_entry_eq]
  refine (?_ : wG (lE aM oA 34 1371 KF) W9 (xReg (lI aM oA) (wY W9) S s.heap.size) p l e _ s m [.ref x, .int p0, .int p1, .ref oA].toArray below meth c 5 0 (xEntry 5 [.ref x, .int p0, .int p1, .ref oA]) [] S 0 0) s.heap [] _ (xentry_ok (by intro v hv; simp only [List.mem_cons, List.not_mem_nil, or_false] at hv; rcases hv with rfl | rfl | rfl | rfl <;> rfl) (Nat.le_of_ble_eq_true rfl)) hR (fun a x h => Or.inl ⟨x, h⟩) va_S.rf
  refine wg_aln (u := 3) (k := 3) X.1 B9.bytes (by decide +kernel) rfl rfl ?_
  refine wg_ic (z := 0) X.1 B9.bytes (by decide +kernel) ?_
  refine wg_aln (u := 0) (k := 0) X.1 B9.bytes (by decide +kernel) rfl rfl ?_
  refine wg_iln (u := 1) (k := 1) X.1 B9.bytes (by decide +kernel) rfl rfl ?_
  refine wg_iln (u := 2) (k := 2) X.1 B9.bytes (by decide +kernel) rfl rfl ?_
  refine wg_call (i := .invokevirtual 108) (len := 3) (av := [.ref x, .int p0, .int p1]) (rest := [.int 0, .ref oA]) (KF := fun r S' => ∃ S2, S' = (S2, S.2) ∧ lApt aM oA S2 ∧ ans [eB, eA] W9 (B + 15) x (oShifts S.2.1 p0 p1) r S2) (xCR_VC (n := 2) (ci := 8) rfl X (semX7_shifts l hl W9) gL_shifts_X7_shifts rfl rfl (by decide +kernel) ⟨by show 8 + 1 ≤ 9; omega, by show 8 + (7 + 11) + 216 ≤ 242; omega⟩) B9.bytes (by decide +kernel) rfl rfl rfl (fun _ => Or.inr (Or.inl ⟨hdj.fr (live_of (RR_k hRR) (by omega)), RR_k hRR, by omega⟩)) (by show 1 + (1 + 0) ≤ 8; omega) (by show 0 + 34 ≤ 34; omega) (by show 0 + 1371 ≤ 1371; omega) ⟨hdj, Q_shifts hRR (fun r S2 ha hd2 => ⟨S2, rfl, hd2, RR_up ha.1 (by omega) hB, ha.2⟩)⟩ (fun v S' hk2 => ?_) (fun ex S' hk2 => ?_)
  · obtain ⟨S2, rfl, hd2, ha1, ha2⟩ := hk2
    unfold rZ at ha2
    by_cases z0 : (oShifts S.2.1 p0 p1).2.1 0 = 0
    · rw [if_pos z0] at ha2
      cases ha2
      have hf := hk S2 _ ha1 hd2 (fun _ => rfl)
      rw [z0] at hf
      exact wg_end (n2 := 11) (z := 21) rfl X B9.bytes B9.returns B9.notSynchronized (by decide +kernel) (by decide +kernel) (by decide +kernel) (by decide) (by decide +kernel) (by decide +kernel) (by show 0 + 34 ≤ 34; omega) (by show 0 + 1371 ≤ 1371; omega) rfl rfl hf
    · rw [if_neg z0] at ha2
      cases ha2
  · obtain ⟨S2, rfl, hd2, ha1, ha2⟩ := hk2
    unfold rZ at ha2
    rcases @cd_shifts S.2.1 p0 p1 with z0 | z1 | z2
    · rw [if_pos z0] at ha2
      cases ha2
    · rw [if_neg (by rw [z1]; decide), z1] at ha2
      have he : ex = eB := Sum.inr.inj ha2
      subst he
      have hf := hk S2 S.2.2 ha1 hd2 (fun z => absurd z (by rw [z1]; decide))
      rw [z1] at hf
      intro H locs ls rest q ce hlv hR2 hO2 hS2 hce hcv hcl
      exact vx_catch (name := eB) (E := eB) hown [] ⟨0, 10, 13, 13⟩ [⟨0, 10, 17, 15⟩] htab (fun _ h => nomatch h) rfl (by decide) (hts _ (by decide +kernel)) (xExtra_use hAmb.2.2.2.2.1.2.2 _ (by decide +kernel)) hce hcv hcl (wg_h (z := 1) (k := 4) (n := 2) X B9.bytes B9.returns B9.notSynchronized (Or.inr ⟨(by decide +kernel), rfl⟩) (by omega) (by decide +kernel) (by decide +kernel) (by show 0 + 34 ≤ 34; omega) (by show 0 + 1371 ≤ 1371; omega) hf H locs ls hlv hR2 hO2 hS2)
    · rw [if_neg (by rw [z2]; decide), z2] at ha2
      have he : ex = eA := Sum.inr.inj ha2
      subst he
      have hf := hk S2 S.2.2 ha1 hd2 (fun z => absurd z (by rw [z2]; decide))
      rw [z2] at hf
      intro H locs ls rest q ce hlv hR2 hO2 hS2 hce hcv hcl
      exact vx_catch (name := eA) (E := eA) hown [⟨0, 10, 13, 13⟩] ⟨0, 10, 17, 15⟩ [] htab (List.forall_mem_cons.mpr ⟨Or.inr ⟨by decide, eB, hts _ (by decide +kernel), hN.1⟩, (fun _ h => nomatch h)⟩) rfl (by decide) (hts _ (by decide +kernel)) (xExtra_use hAmb.2.2.2.2.1.2.2 _ (by decide +kernel)) hce hcv hcl (wg_h (z := 2) (k := 4) (n := 2) X B9.bytes B9.returns B9.notSynchronized (Or.inr ⟨(by decide +kernel), rfl⟩) (by omega) (by decide +kernel) (by decide +kernel) (by show 0 + 34 ≤ 34; omega) (by show 0 + 1371 ≤ 1371; omega) hf H locs ls hlv hR2 hO2 hS2)

def spL_shiftsAnew (W9 : xWd) (aM : Nat → Nat) (oA : Nat) : xSp lS := (fun av S => (34, 1371), fun av S K => ∃ (x : Nat) (p0 p1 : Int32) (B : Nat), av = [.ref x, .int p0, .int p1, .ref oA] ∧ (RR W9 B x S.1 S.2.1 ∧ B + 15 ≤ 8000 ∧ lApt aM oA S.1) ∧ (∀ S2 z9, RR W9 (B + 15) x S2 (oShifts S.2.1 p0 p1).2 → lApt aM oA S2 → ((oShifts S.2.1 p0 p1).2.1 0 = 0 → z9 = (oShifts S.2.1 p0 p1).1.toInt64) → K (rI ((oShifts S.2.1 p0 p1).2.1 0)) (S2, S.2.1, z9)))
theorem spcL_shiftsAnew {W9 : xWd} {aM : Nat → Nat} {oA : Nat} {av : List Value} {S : lS} : (spL_shiftsAnew W9 aM oA).1 av S = (34, 1371) := rfl

set_option maxHeartbeats 1000000 in
set_option maxRecDepth 20000 in
theorem semL_shiftsAnew (l : Launch) (hl : l.stackTraces = false) (W9 : xWd) (aM : Nat → Nat) (oA : Nat) : lSem l W9 aM oA yL_shiftsAnew wsL_shiftsAnew 37 889 (spL_shiftsAnew W9 aM oA) := by
  intro av S sz KF hsp
  obtain ⟨x, p0, p1, B, rfl, ⟨hRR, hB, hdj⟩, hk⟩ := hsp
  refine vx_ofWH (cc := cL_shiftsAnew) (maxL := 5) (ret := some .int) (hh := [(0, 10, 13, 13), (0, 10, 17, 15)]) (by decide +kernel) rfl ?_
  intro p e s m args below meth c s₁ B9 hml hv
  obtain ⟨rfl, hsz, hR, hAmb, hN⟩ := hv
  subst hsz
  have hts := atoms_spec (ws := wsL_shiftsAnew) B9.pre
  have htab := vx_table (x := yL_shiftsAnew) B9 (hts _ List.mem_cons_self)
  have hown : s.vm.findClass RL = some m.cls := findClass_of_methodNamed B9.named
  have X : xCtxL W9 (lE aM oA 34 1371 KF) (xReg (lI aM oA) (wY W9) S s.heap.size) p s m [.ref x, .int p0, .int p1, .ref oA].toArray c 5 RL wsL_shiftsAnew := ⟨B9.exec, hml, hown, hts, lI_law, hAmb, fun q h => Or.inr h⟩
  rw [lg_entry_eq]
  refine (?_ : wG (lE aM oA 34 1371 KF) W9 (xReg (lI aM oA) (wY W9) S s.heap.size) p l e _ s m [.ref x, .int p0, .int p1, .ref oA].toArray below meth c 5 0 (xEntry 5 [.ref x, .int p0, .int p1, .ref oA]) [] S 0 0) s.heap [] _ (xentry_ok (by intro v hv; simp only [List.mem_cons, List.not_mem_nil, or_false] at hv; rcases hv with rfl | rfl | rfl | rfl <;> rfl) (Nat.le_of_ble_eq_true rfl)) hR (fun a x h => Or.inl ⟨x, h⟩) va_S.rf
  refine wg_aln (u := 3) (k := 3) X.1 B9.bytes (by decide +kernel) rfl rfl ?_
  refine wg_ic (z := 0) X.1 B9.bytes (by decide +kernel) ?_
  refine wg_aln (u := 0) (k := 0) X.1 B9.bytes (by decide +kernel) rfl rfl ?_
  refine wg_iln (u := 1) (k := 1) X.1 B9.bytes (by decide +kernel) rfl rfl ?_
  refine wg_iln (u := 2) (k := 2) X.1 B9.bytes (by decide +kernel) rfl rfl ?_
  refine wg_call (i := .invokevirtual 111) (len := 3) (av := [.ref x, .int p0, .int p1]) (rest := [.int 0, .ref oA]) (KF := fun r S' => ∃ S2, S' = (S2, S.2) ∧ lApt aM oA S2 ∧ ans [eB, eA] W9 (B + 15) x (oShifts S.2.1 p0 p1) r S2) (xCR_VC (n := 2) (ci := 8) rfl X (semX7_shiftsAnew l hl W9) gL_shiftsAnew_X7_shiftsAnew rfl rfl (by decide +kernel) ⟨by show 36 + 1 ≤ 37; omega, by show 8 + (3 + 11) + 867 ≤ 889; omega⟩) B9.bytes (by decide +kernel) rfl rfl rfl (fun _ => Or.inr (Or.inl ⟨hdj.fr (live_of (RR_k hRR) (by omega)), RR_k hRR, by omega⟩)) (by show 1 + (1 + 0) ≤ 8; omega) (by show 0 + 34 ≤ 34; omega) (by show 0 + 1371 ≤ 1371; omega) ⟨hdj, Q_shiftsAnew hRR (fun r S2 ha hd2 => ⟨S2, rfl, hd2, RR_up ha.1 (by omega) hB, ha.2⟩)⟩ (fun v S' hk2 => ?_) (fun ex S' hk2 => ?_)
  · obtain ⟨S2, rfl, hd2, ha1, ha2⟩ := hk2
    unfold rZ at ha2
    by_cases z0 : (oShifts S.2.1 p0 p1).2.1 0 = 0
    · rw [if_pos z0] at ha2
      cases ha2
      have hf := hk S2 _ ha1 hd2 (fun _ => rfl)
      rw [z0] at hf
      exact wg_end (n2 := 11) (z := 21) rfl X B9.bytes B9.returns B9.notSynchronized (by decide +kernel) (by decide +kernel) (by decide +kernel) (by decide) (by decide +kernel) (by decide +kernel) (by show 0 + 34 ≤ 34; omega) (by show 0 + 1371 ≤ 1371; omega) rfl rfl hf
    · rw [if_neg z0] at ha2
      cases ha2
  · obtain ⟨S2, rfl, hd2, ha1, ha2⟩ := hk2
    unfold rZ at ha2
    rcases @cd_shiftsAnew S.2.1 p0 p1 with z0 | z1 | z2
    · rw [if_pos z0] at ha2
      cases ha2
    · rw [if_neg (by rw [z1]; decide), z1] at ha2
      have he : ex = eB := Sum.inr.inj ha2
      subst he
      have hf := hk S2 S.2.2 ha1 hd2 (fun z => absurd z (by rw [z1]; decide))
      rw [z1] at hf
      intro H locs ls rest q ce hlv hR2 hO2 hS2 hce hcv hcl
      exact vx_catch (name := eB) (E := eB) hown [] ⟨0, 10, 13, 13⟩ [⟨0, 10, 17, 15⟩] htab (fun _ h => nomatch h) rfl (by decide) (hts _ (by decide +kernel)) (xExtra_use hAmb.2.2.2.2.1.2.2 _ (by decide +kernel)) hce hcv hcl (wg_h (z := 1) (k := 4) (n := 2) X B9.bytes B9.returns B9.notSynchronized (Or.inr ⟨(by decide +kernel), rfl⟩) (by omega) (by decide +kernel) (by decide +kernel) (by show 0 + 34 ≤ 34; omega) (by show 0 + 1371 ≤ 1371; omega) hf H locs ls hlv hR2 hO2 hS2)
    · rw [if_neg (by rw [z2]; decide), z2] at ha2
      have he : ex = eA := Sum.inr.inj ha2
      subst he
      have hf := hk S2 S.2.2 ha1 hd2 (fun z => absurd z (by rw [z2]; decide))
      rw [z2] at hf
      intro H locs ls rest q ce hlv hR2 hO2 hS2 hce hcv hcl
      exact vx_catch (name := eA) (E := eA) hown [⟨0, 10, 13, 13⟩] ⟨0, 10, 17, 15⟩ [] htab (List.forall_mem_cons.mpr ⟨Or.inr ⟨by decide, eB, hts _ (by decide +kernel), hN.1⟩, (fun _ h => nomatch h)⟩) rfl (by decide) (hts _ (by decide +kernel)) (xExtra_use hAmb.2.2.2.2.1.2.2 _ (by decide +kernel)) hce hcv hcl (wg_h (z := 2) (k := 4) (n := 2) X B9.bytes B9.returns B9.notSynchronized (Or.inr ⟨(by decide +kernel), rfl⟩) (by omega) (by decide +kernel) (by decide +kernel) (by show 0 + 34 ≤ 34; omega) (by show 0 + 1371 ≤ 1371; omega) hf H locs ls hlv hR2 hO2 hS2)

def spL_pass (W9 : xWd) (aM : Nat → Nat) (oA : Nat) : xSp lS := (fun av S => (290, 9660), fun av S K => ∃ (x : Nat) (p0 : Int32) (B : Nat), av = [.ref x, .int p0, .ref oA] ∧ (RR W9 B x S.1 S.2.1 ∧ B + 15 ≤ 8000 ∧ lApt aM oA S.1) ∧ (∀ S2 z9, RR W9 (B + 15) x S2 (oPass S.2.1 p0).2 → lApt aM oA S2 → ((oPass S.2.1 p0).2.1 0 = 0 → z9 = (oPass S.2.1 p0).1.toInt64) → K (rI ((oPass S.2.1 p0).2.1 0)) (S2, S.2.1, z9)))
theorem spcL_pass {W9 : xWd} {aM : Nat → Nat} {oA : Nat} {av : List Value} {S : lS} : (spL_pass W9 aM oA).1 av S = (290, 9660) := rfl

set_option maxHeartbeats 1000000 in
set_option maxRecDepth 20000 in
theorem semL_pass (l : Launch) (hl : l.stackTraces = false) (W9 : xWd) (aM : Nat → Nat) (oA : Nat) : lSem l W9 aM oA yL_pass wsL_pass 10 230 (spL_pass W9 aM oA) := by
  intro av S sz KF hsp
  obtain ⟨x, p0, B, rfl, ⟨hRR, hB, hdj⟩, hk⟩ := hsp
  refine vx_ofWH (cc := cL_pass) (maxL := 4) (ret := some .int) (hh := [(0, 9, 12, 15), (0, 9, 15, 17)]) (by decide +kernel) rfl ?_
  intro p e s m args below meth c s₁ B9 hml hv
  obtain ⟨rfl, hsz, hR, hAmb, hN⟩ := hv
  subst hsz
  have hts := atoms_spec (ws := wsL_pass) B9.pre
  have htab := vx_table (x := yL_pass) B9 (hts _ List.mem_cons_self)
  have hown : s.vm.findClass RL = some m.cls := findClass_of_methodNamed B9.named
  have X : xCtxL W9 (lE aM oA 290 9660 KF) (xReg (lI aM oA) (wY W9) S s.heap.size) p s m [.ref x, .int p0, .ref oA].toArray c 4 RL wsL_pass := ⟨B9.exec, hml, hown, hts, lI_law, hAmb, fun q h => Or.inr h⟩
  rw [lg_entry_eq]
  refine (?_ : wG (lE aM oA 290 9660 KF) W9 (xReg (lI aM oA) (wY W9) S s.heap.size) p l e _ s m [.ref x, .int p0, .ref oA].toArray below meth c 4 0 (xEntry 4 [.ref x, .int p0, .ref oA]) [] S 0 0) s.heap [] _ (xentry_ok (by intro v hv; simp only [List.mem_cons, List.not_mem_nil, or_false] at hv; rcases hv with rfl | rfl | rfl <;> rfl) (Nat.le_of_ble_eq_true rfl)) hR (fun a x h => Or.inl ⟨x, h⟩) va_S.rf
  refine wg_aln (u := 2) (k := 2) X.1 B9.bytes (by decide +kernel) rfl rfl ?_
  refine wg_ic (z := 0) X.1 B9.bytes (by decide +kernel) ?_
  refine wg_aln (u := 0) (k := 0) X.1 B9.bytes (by decide +kernel) rfl rfl ?_
  refine wg_iln (u := 1) (k := 1) X.1 B9.bytes (by decide +kernel) rfl rfl ?_
  refine wg_call (i := .invokevirtual 80) (len := 3) (av := [.ref x, .int p0]) (rest := [.int 0, .ref oA]) (KF := fun r S' => ∃ S2, S' = (S2, S.2) ∧ lApt aM oA S2 ∧ ans [eA, eS] W9 (B + 15) x (oPass S.2.1 p0) r S2) (xCR_VC (n := 1) (ci := 8) rfl X (semX7_pass l hl W9) gL_pass_X7_pass rfl rfl (by decide +kernel) ⟨by show 9 + 1 ≤ 10; omega, by show 8 + (3 + 11) + 208 ≤ 230; omega⟩) B9.bytes (by decide +kernel) rfl rfl rfl (fun _ => Or.inr (Or.inl ⟨hdj.fr (live_of (RR_k hRR) (by omega)), RR_k hRR, by omega⟩)) (by show 1 + (1 + 0) ≤ 8; omega) (by show 0 + 290 ≤ 290; omega) (by show 0 + 9660 ≤ 9660; omega) ⟨hdj, by rw [spwX7_pass]; exact ⟨B, S.2.1, hRR, fun r S2 ha hd2 => ⟨S2, rfl, hd2, RR_up ha.1 (by omega) hB, ha.2⟩⟩⟩ (fun v S' hk2 => ?_) (fun ex S' hk2 => ?_)
  · obtain ⟨S2, rfl, hd2, ha1, ha2⟩ := hk2
    unfold rZ at ha2
    by_cases z0 : (oPass S.2.1 p0).2.1 0 = 0
    · rw [if_pos z0] at ha2
      cases ha2
      have hf := hk S2 _ ha1 hd2 (fun _ => rfl)
      rw [z0] at hf
      exact wg_end (n2 := 9) (z := 18) rfl X B9.bytes B9.returns B9.notSynchronized (by decide +kernel) (by decide +kernel) (by decide +kernel) (by decide) (by decide +kernel) (by decide +kernel) (by show 0 + 290 ≤ 290; omega) (by show 0 + 9660 ≤ 9660; omega) rfl rfl hf
    · rw [if_neg z0] at ha2
      cases ha2
  · obtain ⟨S2, rfl, hd2, ha1, ha2⟩ := hk2
    unfold rZ at ha2
    rcases @cd_pass S.2.1 p0 with z0 | z1 | z2
    · rw [if_pos z0] at ha2
      cases ha2
    · rw [if_neg (by rw [z1]; decide), z1] at ha2
      have he : ex = eA := Sum.inr.inj ha2
      subst he
      have hf := hk S2 S.2.2 ha1 hd2 (fun z => absurd z (by rw [z1]; decide))
      rw [z1] at hf
      intro H locs ls rest q ce hlv hR2 hO2 hS2 hce hcv hcl
      exact vx_catch (name := eA) (E := eA) hown [] ⟨0, 9, 12, 15⟩ [⟨0, 9, 15, 17⟩] htab (fun _ h => nomatch h) rfl (by decide) (hts _ (by decide +kernel)) (xExtra_use hAmb.2.2.2.2.1.2.2 _ (by decide +kernel)) hce hcv hcl (wg_h (z := 1) (k := 3) (n := 1) X B9.bytes B9.returns B9.notSynchronized (Or.inl ⟨3, (by decide +kernel), rfl, rfl⟩) (by omega) (by decide +kernel) (by decide +kernel) (by show 0 + 290 ≤ 290; omega) (by show 0 + 9660 ≤ 9660; omega) hf H locs ls hlv hR2 hO2 hS2)
    · rw [if_neg (by rw [z2]; decide), z2] at ha2
      have he : ex = eS := Sum.inr.inj ha2
      subst he
      have hf := hk S2 S.2.2 ha1 hd2 (fun z => absurd z (by rw [z2]; decide))
      rw [z2] at hf
      intro H locs ls rest q ce hlv hR2 hO2 hS2 hce hcv hcl
      exact vx_catch (name := eS) (E := eS) hown [⟨0, 9, 12, 15⟩] ⟨0, 9, 15, 17⟩ [] htab (List.forall_mem_cons.mpr ⟨Or.inr ⟨by decide, eA, hts _ (by decide +kernel), hN.2.2⟩, (fun _ h => nomatch h)⟩) rfl (by decide) (hts _ (by decide +kernel)) (xExtra_use hAmb.2.2.2.2.1.2.2 _ (by decide +kernel)) hce hcv hcl (wg_h (z := 2) (k := 3) (n := 1) X B9.bytes B9.returns B9.notSynchronized (Or.inl ⟨3, (by decide +kernel), rfl, rfl⟩) (by omega) (by decide +kernel) (by decide +kernel) (by show 0 + 290 ≤ 290; omega) (by show 0 + 9660 ≤ 9660; omega) hf H locs ls hlv hR2 hO2 hS2)

