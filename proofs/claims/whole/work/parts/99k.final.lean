/-! THE CLAIM OUT OF ONE WALK OF THE LAW'S BODY. Your part is whole_start (and what it stands on); all else here is the same for every law, but numbers. -/
def R_law : String := "TowmasterLaw"
def lw_P (b : Addr) (xs : List Int32) (args : Array Value) (s : State) : Prop := args = #[.ref b] ∧ s.IntsAt b xs ∧ xs.length ≤ 3584 ∧ (Jvm.Cond.and given_1 narrow_1).before args s = true
def lw_Q (_ : Array Value) (s : State) (o : Outcome) (t : State) : Prop := o = .returned (some (.int 1)) ∧ Framed s o t [] 601024 7293034
def lw_Z (below : List Frame) (a : Array Value) (s : State) : State → Prop := fun t => ∃ o, t.status = .running ∧ Ended t below o ∧ lw_Q a s o t
/-- the law's own end, with 1 on the stack, nothing written that was there before, its room as the claim has it -/
theorem lw_ret {p : Program} {l : Launch} {e : Env} {s : State} {m : MethodId} {below : List Frame} {meth : Method} {c : Code} {b : Nat} (hx : p.tables.exec = Jvm.exec) (hb : c.code = code) (hr : meth.sig.returnType = ret) (hlocks : meth.locks = false) {pc : Nat} {H : Heap} {ls : Array Slot} (hdg : decode code pc = .ok (.ireturn, 1)) : W p l e room_1 s m #[Value.ref b] below meth c H [] 601024 7293034 (lw_Z below #[Value.ref b] s) (F0 m pc ls [.int 1]) := by
  intro T hT X
  obtain ⟨fs, hret, hrun, hended, hW, hframe⟩ := X.leave (v := some (.int 1)) (hlocks := hlocks) (fun h => by rw [hr] at h; cases h)
  have hmeth' : T.vm.method? m = some meth := X.method'
  refine ⟨T.setFrames fs, ?_, .returned (some (.int 1)), hrun, hended, rfl, ⟨_, rfl⟩, hW, hframe⟩
  jvm_step X.here [X.here.top, hx, hb, hdg, hmeth', hr, ret, narrow_b1]
  (try refine ⟨rfl, ?_⟩); (try refine ⟨rfl, ?_⟩)
  first | (intro acts; rw [hret _ acts rfl rfl rfl]) | rw [hret _ _ rfl rfl rfl]
  exact Steps.refl _
/-- what holds at the law's entry: the machine, the code, the tables' words (any of lw_tbl by 'hts w (by decide +kernel)'), the script of L ints xs at the cell b, what the Statement gives of the start (any of its parts by flat_of_before) -/
def lw_At (p : Program) (s : State) (m : MethodId) (meth : Method) (c : Code) (b L : Nat) (xs : Nat → Int32) : Prop :=
  p.tables.exec = Jvm.exec ∧ c.code = code ∧ meth.sig.returnType = ret ∧ c.maxLocals = 7 ∧ s.vm.findClass R_law = some m.cls ∧ (∀ w ∈ lw_tbl, w.before #[Value.ref b] s = true) ∧ va_X b L xs s s.heap ∧ b < s.heap.size ∧ meth.locks = false ∧ (Jvm.Cond.and given_1 narrow_1).before #[Value.ref b] s = true
theorem z_drop {s s' : State} {L : List Loc} {k n : Nat} (h : s.sameButNew s' L k n) (hJ : ∀ x ∈ L, s.heap.size ≤ x.base) : s.sameButNew s' [] k n := by
  obtain ⟨h1, h2, h3, h4, h5, h6⟩ := h
  refine ⟨h1, h2, h3, h4, h5, fun a c hc => ?_⟩
  obtain ⟨c', hc', hce, hsz, hout⟩ := h6 a c hc
  refine ⟨c', hc', hce, hsz, fun i hi => hout i (fun hmem => ?_)⟩
  have hb : s.heap.size ≤ a := hJ _ hmem
  have ha : a < s.heap.size := (Array.getElem?_eq_some_iff.mp hc).1
  exact absurd ha (Nat.not_lt.mpr hb)
theorem lz_mono {below : List Frame} {a : Array Value} {s t : State} {I : xRI lS} {D : va_G} {Y : Nat → ClassId} {A : Nat → Prop} (h : vx_MQ below (xQc I D vwCl Y A (fun r _ => r = rI 1)) (xXC I D vwCl Y A (fun r _ => r = rI 1)) a s 601024 7293034 (fun q => s.heap.size ≤ q) t) : lw_Z below a s t := by
  obtain ⟨o, h1, h2, h3⟩ := h
  refine ⟨o, h1, h2, ?_⟩
  rcases h3 with ⟨⟨⟨v, S', e1, hF, -⟩, -⟩, L, ⟨-, hW, hsame⟩, hfree⟩ | ⟨q, -, hT⟩
  · have e2 : v = some (.int 1) := Sum.inl.inj hF
    subst e2
    subst e1
    exact ⟨rfl, ⟨_, rfl⟩, hW, z_drop hsame hfree⟩
  · obtain ⟨E, ce, locs, ⟨⟨S', hF, _⟩, _⟩, _⟩ := hT
    cases hF
def zS0 : cS := (fun _ => 0, fun _ _ => 0, fun _ _ => none, fun _ => 0, fun _ _ => 0, fun _ _ => none)
theorem zS0_no {Y : Nat → ClassId} {a : Nat} : cCell zS0 Y a = none := cDead_no (fun h => absurd h.1 (by show ¬ 1 ≤ 0; omega))
set_option maxHeartbeats 4000000 in
theorem whole_start {p : Program} {e : Env} {s : State} {m : MethodId} {below : List Frame} {meth : Method} {c : Code} (l : Launch) (hflags : l.flags = flags0) {b L : Nat} {xs : Nat → Int32} (hL : L ≤ 3584) (C0 : lw_At p s m meth c b L xs) : W p l e room_1 s m #[Value.ref b] below meth c s.heap [] 0 0 (lw_Z below #[Value.ref b] s) (entryFrame m ([Value.ref b] : List Value).toArray 7) := by
  obtain ⟨hx, hb, hr, hml, hown, hts, hX, hbl, hlk, hgv⟩ := C0
  have hl : l.stackTraces = false := by
    unfold Launch.stackTraces
    rw [hflags]
    decide
  obtain ⟨W9, hAmb⟩ := l_amb (A := fun q => s.heap.size ≤ q) hts hgv (fun a h => Nat.not_le.mpr h)
  have hN := l_nc hgv
  have hown' : s.vm.findClass RL = some m.cls := hown
  have hts' : ∀ w ∈ wsL_law, w.before #[.ref b] s = true := fun w h => hts w (wsL_law_in w h)
  have gi : ∀ {ws2 : List Jvm.Cond}, GoodIn wsL_law ws2 → GoodIn lw_tbl ws2 := fun g w h => ⟨wsL_law_in w (g w h).1, (g w h).2⟩
  have hA : ∀ q : Nat, s.heap.size ≤ q → (fun q => s.heap.size ≤ q) q := fun q h => h
  rw [lg_entry_eq]
  have hlv0 := xentry_ok (av := [.ref b]) (n := 7) (by intro v hv; simp only [List.mem_cons, List.not_mem_nil, or_false] at hv; subst hv; rfl) (by show 1 ≤ 7; omega)
  have hR0 : xRep cI (wD W9) vwCl (wY W9) zS0 s.heap := fun a x h => by
    rw [show xCell cI zS0 (wY W9) a = none from zS0_no (Y := wY W9) (a := a)] at h
    cases h
  have hO0 : xOwn cI (wY W9) zS0 (fun q => s.heap.size ≤ q) := fun a x h => by
    rw [show xCell cI zS0 (wY W9) a = none from zS0_no (Y := wY W9) (a := a)] at h
    cases h
  refine l_new (l := l) (cc := code) (ws := lw_tbl) (own := RL) (nL := 7) (k := 1) (ci := 8) (idxN := 8) (idxI := 120) (Pst := fun q S' => ∃ d, jB q d S' 7 16 ∧ jLs W9 d S' 7 16) (sp := spX7_init W9) (mc := 71) (ms := 1363) hx hml hown' hts hAmb hA hb rfl (by omega) (amb_u (ci := 8) rfl) (by decide +kernel) (amb_i (ci := 8) rfl) (by decide +kernel)
    (semX7_init l hl W9) (gi gL_law_X7_init) rfl (by decide +kernel) (by decide +kernel) (by decide +kernel) rfl (by decide +kernel) ⟨by decide, by decide⟩ (by decide +kernel) (by decide +kernel) (by decide +kernel) (by decide +kernel) (by decide) hlv0 hR0 hO0 va_S.rf
    (fun _ => ⟨_, rfl, by rw [cK_newO, if_pos rfl], fun g _ => by rw [cFi_newO, if_pos rfl], fun d S2 h1 h2 => ⟨rfl, d, h1, h2⟩⟩) spcX7_init (by decide) (by decide) (fun x S1 H1 locs1 ls1 hdx hP1 hlv1 hR1 hO1 hS1 => ?_)
  obtain ⟨d, hj, hjl⟩ := hP1
  refine l_new (l := l) (cc := code) (ws := lw_tbl) (own := RL) (nL := 7) (k := 2) (ci := 9) (idxN := 121) (idxI := 123) (Pst := fun q S' => mIni (cNewO S1 q 9) q S') (sp := spX8_init W9) (mc := 48) (ms := 710) hx hml hown' hts hAmb hA hb rfl (by omega) (amb_u (ci := 9) rfl) (by decide +kernel) (amb_i (ci := 9) rfl) (by decide +kernel)
    (semX8_init l hl W9) (gi gL_law_X8_init) rfl (by decide +kernel) (by decide +kernel) (by decide +kernel) rfl (by decide +kernel) ⟨by decide, by decide⟩ (by decide +kernel) (by decide +kernel) (by decide +kernel) (by decide +kernel) (by decide) hlv1 hR1 hO1 hS1
    (fun _ => ⟨_, rfl, by rw [cK_newO, if_pos rfl], fun S2 h => ⟨rfl, h⟩⟩) spcX8_init (by decide) (by decide) (fun m0 S3 H3 locs3 ls3 hdm hm hlv3 hR3 hO3 hS3 => ?_)
  refine lv_iconst (n := 1) (v := 1) hx hb (by decide +kernel) (by decide +kernel) ?_
  refine xw_newa (cA := wY W9 3) (atype := .long) (ty := .long) (n := 1) (N' := 1) hx hb (hts (.arrayClass .long) (by decide +kernel)) rfl (hAmb.1.2 3 _ rfl).2 hS3 (by decide) (by decide) (by decide) (by decide) (by decide) (by decide +kernel) (fun H4 f1 f2 f3 => ?_)
  refine lv_astore_n (k := 3) hx hb (by decide +kernel) rfl (xLok_pairs hlv3) (by decide) rfl (fun ls4 hl4 => ?_)
  have hlv4 := xLok_after hlv3 rfl hl4
  refine lv_iconst (n := 0) (v := nI (7 * 0)) hx hb (by decide +kernel) (by decide +kernel) ?_
  refine lv_istore (i := 4) hx hb (by decide +kernel) (xLok_pairs hlv4) (by decide) rfl (fun ls5 hl5 => ?_)
  have hlv5 := xLok_after hlv4 rfl hl5
  have eo : H4[H3.size]? = some (vp_cell (wY W9 3) (1, .inr (.inl (fun j => if j = 0 then (0 : Int64) else 0)))) := by
    rw [vp_cell_l, show (fun j : Nat => Value.long (if j = 0 then (0 : Int64) else 0)) = fun _ => defaultValue .long from funext fun j => by rw [ite_self]; rfl]
    exact f1
  obtain ⟨aM, a0, hinj, hout, hapt, hR9, hO9⟩ := l_start hdm hm hR3 hO3 f2 eo hS3.1
  have hRR : RR W9 (15 * 0) x S1 mZst := ⟨d, 1, 0, jRR hj hjl⟩
  have X : xCtxL W9 (lE aM H3.size 601024 7293034 (fun r _ => r = rI 1)) (fun q => s.heap.size ≤ q) p s m #[.ref b] c 7 RL wsL_law := ⟨hx, hml, hown', hts', lI_law, hAmb, hA⟩
  have Z : lZ (lE aM H3.size 601024 7293034 (fun r _ => r = rI 1)) W9 (fun q => s.heap.size ≤ q) p room_1 s m #[.ref b] c b L xs aM H3.size := ⟨⟨rfl, hinj, hout⟩, X, hb, hN, ⟨hX, hbl, Nat.not_le.mpr hbl, hL⟩, by decide, by decide⟩
  have hlv6 : xLok ls5 7 (lLv b x (aM 0) H3.size (7 * 0) none none) := by
    rw [a0]
    exact hlv5
  have K := lc_loop (l := l) (e := e) (below := below) (meth := meth) (x := x) (c0 := 122) (s0 := 2147) hl Z (fun _ => rfl) hr hlk (Nat.le_refl _) (Nat.le_refl _) (by decide) (by decide) L 0 (S1, mZst, 0) (0 + 1 + 71 + 1 + 48 + 1) (0 + 14 + 1363 + 59 + 710 + 1) none none (by omega) (by omega) hRR hapt (by decide) (by decide) H4 locs3 ls5 hlv6 hR9 hO9 f3
  intro T hT X9
  obtain ⟨t, k1, k2⟩ := K T hT X9
  exact ⟨t, k1, lz_mono k2⟩
set_option maxHeartbeats 4000000 in
theorem lw_walk (l : Launch) (hflags : l.flags = flags0) (b : Addr) (xs : List Int32) : MetFree l x (headSpec (Jvm.Cond.code x code maxLocals ret :: tables_1) room_1) (lw_P b xs) (fun _ _ _ _ _ => True) lw_Q := by
  refine MetFree.of_bodyS (code := code) (maxLocals := maxLocals) (ret := ret) (by decide) ?_ ?_
  · intro args s m h hn
    obtain ⟨meth, c, h1, h2, h3, h4, h5, h6, -, -⟩ := Cond.code_spec hn (atoms_spec (ws := Jvm.Cond.code x code maxLocals ret :: tables_1) h _ List.mem_cons_self)
    exact ⟨meth, c, h1, h2, h3, h4, h5, h6⟩
  · intro p e s m args below meth c s₁ B hml0 hP _
    obtain ⟨rfl, hx, hbd, hgv⟩ := hP
    obtain ⟨scr, harrAt, hlist, hof, hsmall⟩ := hx
    obtain ⟨hcb, hkn, -, -⟩ := State.arrayAt?_spec harrAt
    have hown : s.vm.findClass R_law = some m.cls := findClass_of_methodNamed B.named
    have hts0 : ∀ c ∈ (Jvm.Cond.code x code maxLocals ret :: tables_1), c.before #[Value.ref b] s = true := atoms_spec (ws := Jvm.Cond.code x code maxLocals ret :: tables_1) B.pre
    have hts : ∀ w ∈ lw_tbl, w.before #[Value.ref b] s = true := k2_hts_sels lw_privs (fun w hw => hts0 w (List.mem_cons_of_mem _ hw)) lw_privs_ok
    have hml : c.maxLocals = 7 := B.maxLocals_eq (hts0 _ List.mem_cons_self)
    have X₀ : Stand p l e room_1 s m #[Value.ref b] below meth c s₁ [] 0 0 := Stand.of_body B
    have hh0 : s₁.heap = s.heap := by rw [B.state]; rfl
    have hsz : scr.slots.size = xs.length := by rw [← Array.length_toList, hlist, List.length_map]
    have hval : ∀ j : Nat, j < xs.length → scr.slots[j]? = some (.int (xs.getD j 0)) := fun j hj => by
      rw [← Array.getElem?_toList, hlist]
      simp [hj]
    have hbl : b < s.heap.size := (Array.getElem?_eq_some_iff.mp hcb).1
    have hX : va_X b xs.length (fun j => xs.getD j 0) s s.heap := ⟨scr, hcb, hof, hkn, hsz, hval⟩
    have K : W p l e room_1 s m #[Value.ref b] below meth c s₁.heap [] 0 0 (lw_Z below #[Value.ref b] s) (entryFrame m ([Value.ref b] : List Value).toArray 7) := by
      rw [hh0]
      exact whole_start l hflags hbd ⟨B.exec, B.bytes, B.returns, hml, hown, hts, hX, hbl, B.notSynchronized, hgv⟩
    obtain ⟨t, a1, o, b1, b2, b3⟩ := K s₁ rfl X₀
    exact ⟨t, o, a1, b1, b2, b3⟩
theorem lw_pre_spec {args : Array Value} {s : State} (h : (Jvm.Cond.and given_1 narrow_1).before args s = true) (hr : rest_1_c.before args s = true) : ∃ (b : Addr) (xs : List Int32), lw_P b xs args s := by
  have hs := flat_of_before _ h
  have hq := flat_of_before _ hr
  have hc : (Cond.count 1).before args s = true := hs _ (by decide +kernel)
  have harr : (Cond.arrayOf (.arg 0) .int).before args s = true := hs _ (by decide +kernel)
  have hle : (Cond.le (.length (.arg 0)) (.int 3584)).before args s = true := hs _ (by decide +kernel)
  have hlen : (Cond.isInt (.length (.arg 0))).before args s = true := hq _ (by decide +kernel)
  have hall : (Cond.all (.arg 0) (.isInt (.elem (.arg 0) (.index 0)))).before args s = true := hq _ (by decide +kernel)
  obtain ⟨b, xs, hb, hx⟩ := State.ints_of_pre rfl harr hlen hall
  have hsm : xs.length < 2 ^ 31 := hx.choose_spec.2.2.2
  have hev : (Term.length (.arg 0)).eval args s none [] s = some (.int xs.length.toInt32) := hx.length_eval hb
  have hv := Cond.le_ints hev (show (Term.int 3584).eval args s none [] s = some (.int 3584) from rfl)
  have hd : xs.length.toInt32 ≤ 3584 := by
    simpa [Cond.before, Cond.holds, hv] using hle
  have hN : xs.length ≤ 3584 := (Int32.ofNat_le_ofNat hsm (by decide)).mp (show Int32.ofNat xs.length ≤ Int32.ofNat 3584 from hd)
  exact ⟨b, xs, Cond.one_arg hc (show args[0]? = some (.ref b) from hb), hx, hN, h⟩
theorem lw_comes (l : Launch) (hflags : l.flags = flags0) : Comes l x (Jvm.Cond.code x code maxLocals ret :: tables_1) room_1 (fun tb e args s => Calls_1 tb e args s ∧ rest_1 tb e args s ∧ Pre_1 tb e args s)
    (fun _ _ args s o t => lw_Q args s o t) := by
  intro p e ha hc hk s m args below hf hfit hheap happ hpre
  obtain ⟨b, xs, hP⟩ := lw_pre_spec hpre.2.2 hpre.2.1
  obtain ⟨k, o, h1, h2, h3, hQ⟩ := lw_walk l hflags b xs p e ha hc hk s m args below hf ((Spec.applies_iff_loose hf).mp happ).1 hP trivial
  exact ⟨k, o, h1, h2, h3, hQ⟩
theorem lw_frame {s t : State} {o : Outcome} {args : Array Value} (h : Framed s o t [] 601024 7293034) :
    Framed s o t (fieldLocs frame_1_writes args s ++ arrayLocs frame_1_arrays args s ++ staticLocs frame_1_statics s) 601024 7293034 := h
theorem lw_limb (L : Cond) (hL : ∀ (args : Array Value) (s t : State), L.after args s (.returned (some (.int 1))) t = true) :
    ArmFor flags0 classFile x code maxLocals ret World_1 tables_1 room_1 Calls_1 rest_1 Pre_1
      (fun tb e a s o t => postC L tb e a s o t ∧ Framed s o t (fieldLocs frame_1_writes a s ++ arrayLocs frame_1_arrays a s ++ staticLocs frame_1_statics s) 601024 7293034) := by
  intro l hflags _ _ p e ha hc hk s m args below hf hfit hheap happ hpre
  obtain ⟨k, o, h1, h2, h3, rfl, hF⟩ := lw_comes l hflags p e ha hc hk s m args below hf hfit hheap happ hpre
  exact ⟨k, _, h1, h2, h3, hL args s _, lw_frame hF⟩
theorem i_vc : Claimed_1_1 ∧ Claimed_1_2 := ⟨lw_limb limb_1_1 (fun args s t => by simp [limb_1_1, Cond.after, Cond.holds, Cond.value]), lw_limb limb_1_2 (fun args s t => Cond.after_iff.mpr (by
  first | (rw [show limb_1_2 = Cond.eq .result (.int 1) from rfl, Cond.eq_ints (x := 1) (y := 1) rfl rfl]; simp; done) | (simp [limb_1_2, Cond.value, Term.eval]; done)))⟩
