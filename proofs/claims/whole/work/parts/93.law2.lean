/-! The law: rows of its own (long numbers, the script), the wrappers' frame. -/
def lNc (U : State) : Prop := va_Nc eA eB U ∧ va_Nc eS eB U ∧ va_Nc eS eA U
def lPc (aM : Nat → Nat) (oA : Nat) (W9 : xWd) (av : List Value) (S : lS) (sz : Nat) : Array Value → State → Prop :=
  va_Pc av (fun U => U.heap.size = sz ∧ xRep (lI aM oA) (wD W9) vwCl (wY W9) S U.heap ∧ xAmb W9 (xReg (lI aM oA) (wY W9) S sz) U U.heap ∧ lNc U)
def lSem (l : Launch) (W9 : xWd) (aM : Nat → Nat) (oA : Nat) (y : MethodName) (ws : List Jvm.Cond) (F L : Nat) (sp : xSp lS) : Prop :=
  ∀ (av : List Value) (S : lS) (sz : Nat) (KF : xRes → lS → Prop), sp.2 av S KF →
    vx_Met l y ws ({ frames := F, cells := (sp.1 av S).1, slots := (sp.1 av S).2, locals := L }) (lPc aM oA W9 av S sz) (xQc (lI aM oA) (wD W9) vwCl (wY W9) (xReg (lI aM oA) (wY W9) S sz) KF) (xXC (lI aM oA) (wD W9) vwCl (wY W9) (xReg (lI aM oA) (wY W9) S sz) KF) (sp.1 av S).1 (sp.1 av S).2 (xReg (lI aM oA) (wY W9) S sz)
set_option maxHeartbeats 400000 in
theorem lPc_blind {aM : Nat → Nat} {oA : Nat} {W9 : xWd} {av : List Value} {S : lS} {sz : Nat} : FrameBlind (lPc aM oA W9 av S sz) := fun a U g mk h =>
  ⟨h.1, h.2.1, h.2.2.1, xAmb.same (u := U) (U := U.calling g mk a) (H := U.heap) rfl h.2.2.2.1, h.2.2.2.2⟩
def sp_i2l : xSp lS := (fun _ _ => (0, 0), fun av S K => ∃ x : Int32, av = [.int x] ∧ K (.inl (some (.long x.toInt64))) S)
set_option maxHeartbeats 400000 in
theorem sp_i2l_c {av : List Value} {S : lS} : sp_i2l.1 av S = (0, 0) := rfl
set_option maxHeartbeats 400000 in
theorem sp_i2l_w {S : lS} {K : xRes → lS → Prop} {x : Int32} : sp_i2l.2 [.int x] S K = K (.inl (some (.long x.toInt64))) S := propext ⟨fun h => by
  obtain ⟨_, e, h⟩ := h
  cases e
  exact h, fun h => ⟨_, rfl, h⟩⟩
def sp_lst (oA : Nat) : xSp lS := (fun _ _ => (0, 0), fun av S K => ∃ v : Int64, av = [.ref oA, .int 0, .long v] ∧ K rV (S.1, S.2.1, v))
def sp_lld (oA : Nat) : xSp lS := (fun _ _ => (0, 0), fun av S K => av = [.ref oA, .int 0] ∧ K (.inl (some (.long S.2.2))) S)
set_option maxHeartbeats 400000 in
theorem sp_lld_c {oA : Nat} {av : List Value} {S : lS} : (sp_lld oA).1 av S = (0, 0) := rfl
set_option maxHeartbeats 400000 in
theorem sp_lld_w {oA a : Nat} {x : Int32} {S : lS} {K : xRes → lS → Prop} : (sp_lld oA).2 [.ref a, .int x] S K = ((a = oA ∧ x = 0) ∧ K (.inl (some (.long S.2.2))) S) := propext ⟨fun h => by
  obtain ⟨e, h⟩ := h
  cases e
  exact ⟨⟨rfl, rfl⟩, h⟩, fun h => by
  obtain ⟨⟨rfl, rfl⟩, h⟩ := h
  exact ⟨rfl, h⟩⟩
def sp_lcm : xSp lS := (fun _ _ => (0, 0), fun av S K => ∃ x y : Int64, av = [.long x, .long y] ∧ K (rI (lg_cmp x y)) S)
set_option maxHeartbeats 400000 in
theorem sp_lcm_c {av : List Value} {S : lS} : sp_lcm.1 av S = (0, 0) := rfl
set_option maxHeartbeats 400000 in
theorem sp_lcm_w {S : lS} {K : xRes → lS → Prop} {x y : Int64} : sp_lcm.2 [.long x, .long y] S K = K (rI (lg_cmp x y)) S := propext ⟨fun h => by
  obtain ⟨_, _, e, h⟩ := h
  cases e
  exact h, fun h => ⟨_, _, rfl, h⟩⟩
def sp_lcn (v : Int64) : xSp lS := (fun _ _ => (0, 0), fun av S K => av = [] ∧ K (.inl (some (.long v))) S)
set_option maxHeartbeats 400000 in
theorem sp_lcn_c {v : Int64} {av : List Value} {S : lS} : (sp_lcn v).1 av S = (0, 0) := rfl
set_option maxHeartbeats 400000 in
theorem sp_lcn_w {v : Int64} {S : lS} {K : xRes → lS → Prop} : (sp_lcn v).2 [] S K = K (.inl (some (.long v))) S := propext ⟨fun h => h.2, fun h => ⟨rfl, h⟩⟩
def sp_scr (b n : Nat) (xs : Nat → Int32) : xSp lS := (fun _ _ => (0, 0), fun av S K => ∃ i : Int32, av = [.ref b, .int i] ∧ vp_in i n ∧ K (rI (xs i.toNatClampNeg)) S)
set_option maxHeartbeats 400000 in
theorem sp_scr_c {b n : Nat} {xs : Nat → Int32} {av : List Value} {S : lS} : (sp_scr b n xs).1 av S = (0, 0) := rfl
set_option maxHeartbeats 400000 in
theorem sp_scr_w {b n a : Nat} {xs : Nat → Int32} {i : Int32} {S : lS} {K : xRes → lS → Prop} : (sp_scr b n xs).2 [.ref a, .int i] S K = (a = b ∧ vp_in i n ∧ K (rI (xs i.toNatClampNeg)) S) := propext ⟨fun h => by
  obtain ⟨_, e, h⟩ := h
  cases e
  exact ⟨rfl, h⟩, fun h => by
  obtain ⟨rfl, h⟩ := h
  exact ⟨_, rfl, h⟩⟩
def sp_sln (b n : Nat) : xSp lS := (fun _ _ => (0, 0), fun av S K => av = [.ref b] ∧ K (rI (Int32.ofNat n)) S)
set_option maxHeartbeats 400000 in
theorem sp_sln_c {b n : Nat} {av : List Value} {S : lS} : (sp_sln b n).1 av S = (0, 0) := rfl
set_option maxHeartbeats 400000 in
theorem sp_sln_w {b n a : Nat} {S : lS} {K : xRes → lS → Prop} : (sp_sln b n).2 [.ref a] S K = (a = b ∧ K (rI (Int32.ofNat n)) S) := propext ⟨fun h => by
  obtain ⟨e, h⟩ := h
  cases e
  exact ⟨rfl, h⟩, fun h => by
  obtain ⟨rfl, h⟩ := h
  exact ⟨rfl, h⟩⟩
section LR
variable {E : xEnv lS} {W9 : xWd} {A : Nat → Prop} {aM : Nat → Nat} {oA : Nat}
variable {p : Program} {l : Launch} {e : Env} {R : Room} {s : State} {m : MethodId} {args : Array Value} {below : List Frame} {meth : Method} {c : Code} {nL : Nat} {own : String} {ws : List Jvm.Cond}
set_option maxHeartbeats 400000 in
theorem xCR_i2l {ci : Nat} (X : xCtxL W9 E A p s m args c nL own ws) : xCR E (wD W9) vwCl (wY W9) A p l e R s m args below meth c nL .i2l 1 ci sp_i2l := by
  intro pc len H locs ls lv av rest S cs ss KF hd hxl hlen hlv hR hO hS hrc hcat b1 b2 hv kk kx
  cases hxl
  obtain ⟨x, rfl, hv⟩ := hv
  exact lv_i2l X.1 rfl hd rfl (kk _ S hv H locs ls hlv hR hO hS)
set_option maxHeartbeats 400000 in
theorem xCR_lcn0 {ci : Nat} (X : xCtxL W9 E A p s m args c nL own ws) : xCR E (wD W9) vwCl (wY W9) A p l e R s m args below meth c nL (.lconst 0) 0 ci (sp_lcn 0) := by
  intro pc len H locs ls lv av rest S cs ss KF hd hxl hlen hlv hR hO hS hrc hcat b1 b2 hv kk kx
  cases hxl
  obtain ⟨rfl, hv⟩ := hv
  exact lv_lconst X.1 rfl hd rfl (kk _ S hv H locs ls hlv hR hO hS)
set_option maxHeartbeats 400000 in
theorem xCR_lcn1 {ci : Nat} (X : xCtxL W9 E A p s m args c nL own ws) : xCR E (wD W9) vwCl (wY W9) A p l e R s m args below meth c nL (.lconst 1) 0 ci (sp_lcn 1) := by
  intro pc len H locs ls lv av rest S cs ss KF hd hxl hlen hlv hR hO hS hrc hcat b1 b2 hv kk kx
  cases hxl
  obtain ⟨rfl, hv⟩ := hv
  exact lv_lconst X.1 rfl hd rfl (kk _ S hv H locs ls hlv hR hO hS)
set_option maxHeartbeats 400000 in
theorem xCR_lcm {ci : Nat} (X : xCtxL W9 E A p s m args c nL own ws) : xCR E (wD W9) vwCl (wY W9) A p l e R s m args below meth c nL .lcmp 2 ci sp_lcm := by
  intro pc len H locs ls lv av rest S cs ss KF hd hxl hlen hlv hR hO hS hrc hcat b1 b2 hv kk kx
  cases hxl
  obtain ⟨x, y, rfl, hv⟩ := hv
  exact W.lcmp X.1 rfl hd (kk _ S hv H locs ls hlv hR hO hS)
set_option maxHeartbeats 400000 in
theorem xCR_lld {ci : Nat} (hI : eI E = lI aM oA) (X : xCtxL W9 E A p s m args c nL own ws) : xCR E (wD W9) vwCl (wY W9) A p l e R s m args below meth c nL .laload 2 ci (sp_lld oA) := by
  obtain ⟨hx, hml, hown, hts, hlaw, hAmb, hA⟩ := X
  intro pc len H locs ls lv av rest S cs ss KF hd hxl hlen hlv hR hO hS hrc hcat b1 b2 hv kk kx
  cases hxl
  obtain ⟨rfl, hv⟩ := hv
  have hR2 := hR
  rw [hI] at hR2
  exact va_lald (rest := rest) hx rfl hAmb.1 (xP1 (hR2 oA _ lCell_o)) 0 3 rfl rfl (i := 0) (vp_in_nI (n := 0) (N := 1) (by omega) (by omega)) hd (kk _ S hv H locs ls hlv hR hO hS)
set_option maxHeartbeats 400000 in
theorem xCR_lst {ci : Nat} (hI : eI E = lI aM oA) (X : xCtxL W9 E A p s m args c nL own ws) : xCR E (wD W9) vwCl (wY W9) A p l e R s m args below meth c nL .lastore 3 ci (sp_lst oA) := by
  obtain ⟨hx, hml, hown, hts, hlaw, hAmb, hA⟩ := X
  intro pc len H locs ls lv av rest S cs ss KF hd hxl hlen hlv hR hO hS hrc hcat b1 b2 hv kk kx
  cases hxl
  obtain ⟨v, rfl, hv⟩ := hv
  have hR2 := hR
  have hO2 := hO
  rw [hI] at hR2 hO2
  have hAa : A oA := hO2 oA _ lCell_o
  refine W.last hx rfl (hR2 oA _ lCell_o) ((hAmb.1.2 3 _ rfl).1 1 (fun j => .long (if j = 0 then S.2.2 else 0))) (fun q => by cases q) (by show ¬ ((0 : Int32) < 0 ∨ (arrV _ _ _).slots.size ≤ _); rw [arrV_size]; exact vp_in_nI (n := 0) (N := 1) (by omega) (by omega)) rfl rfl hd fun H1 e z oq => ?_
  have hc1 : va_at (wD W9) vwCl (oA, .inl (wY W9 3, 1, .inr (.inl (fun j => if j = 0 then v else 0)))) H1 := by
    show H1[oA]? = some (vp_cell _ _)
    rw [e]
    rw [vp_cell_l, vp_cell_l, arrV_store]
    congr 2
    funext q
    by_cases hq : q = 0
    · subst hq
      simp [updV]
    · simp [updV, hq]
  refine kk none _ hv H1 _ ls hlv ?_ ?_ (hS.put z oq hAa)
  · rw [hI]
    intro a x hx2
    have hx2 : lCell aM oA (S.1, S.2.1, v) (wY W9) a = some x := hx2
    by_cases c1 : a = oA
    · subst c1
      rw [lCell_o] at hx2
      cases hx2
      exact hc1
    · have h2 : lCell aM oA S (wY W9) a = some x := by
        unfold lCell at hx2 ⊢
        rw [if_neg c1] at hx2 ⊢
        exact hx2
      exact (hR2 a x h2).kept (oq a c1)
  · rw [hI]
    intro a x hx2
    have hx2 : lCell aM oA (S.1, S.2.1, v) (wY W9) a = some x := hx2
    by_cases c1 : a = oA
    · rw [c1]
      exact hAa
    · have h2 : lCell aM oA S (wY W9) a = some x := by
        unfold lCell at hx2 ⊢
        rw [if_neg c1] at hx2 ⊢
        exact hx2
      exact hO2 a x h2
set_option maxHeartbeats 400000 in
theorem xCR_scr {b n ci : Nat} {xs : Nat → Int32} (X : xCtxL W9 E A p s m args c nL own ws) (hX : va_X b n xs s s.heap) (hbl : b < s.heap.size) (hbA : ¬ A b) : xCR E (wD W9) vwCl (wY W9) A p l e R s m args below meth c nL .iaload 2 ci (sp_scr b n xs) := by
  intro pc len H locs ls lv av rest S cs ss KF hd hxl hlen hlv hR hO hS hrc hcat b1 b2 hv kk kx
  cases hxl
  obtain ⟨i, rfl, hi, hv⟩ := hv
  exact va_sld (rest := rest) X.1 rfl hX hbl hbA hS hi hd (kk _ S hv H locs ls hlv hR hO hS)
set_option maxHeartbeats 400000 in
theorem xCR_sln {b n ci : Nat} {xs : Nat → Int32} (X : xCtxL W9 E A p s m args c nL own ws) (hX : va_X b n xs s s.heap) (hbl : b < s.heap.size) (hbA : ¬ A b) : xCR E (wD W9) vwCl (wY W9) A p l e R s m args below meth c nL .arraylength 1 ci (sp_sln b n) := by
  intro pc len H locs ls lv av rest S cs ss KF hd hxl hlen hlv hR hO hS hrc hcat b1 b2 hv kk kx
  cases hxl
  obtain ⟨rfl, hv⟩ := hv
  exact va_slen (rest := rest) X.1 rfl hX hbl hbA hS hd (kk _ S hv H locs ls hlv hR hO hS)
set_option maxHeartbeats 400000 in
/-- a call of a wrapper -/
theorem xCR_SX {y : MethodName} {ws2 ws' : List Jvm.Cond} {F L k ci n maxL : Nat} {bytes : ByteArray} {ret : Option FieldType} {hh : List (Nat × Nat × Nat × Nat)} {sp : xSp lS} (hI : eI E = lI aM oA) (X : xCtxL W9 E A p s m args c nL own ws) (hN : lNc s) (hM : lSem l W9 aM oA y ws2 F L sp) (hg : GoodIn ws (va_wsS own k y ws2)) (hw : ws2 = Jvm.Cond.codeWith y bytes maxL ret hh :: ws')
    (hy : y.cls ≠ "java/lang/invoke/MethodHandle" ∧ y.cls ≠ "java/lang/invoke/VarHandle" ∧ (parseMethodDescriptor y.desc).map (fun d => d.parameters.length) = some n) (hRm : F + 1 ≤ R.frames ∧ 8 + (maxL + 11) + L ≤ R.locals) :
    xCR E (wD W9) vwCl (wY W9) A p l e R s m args below meth c nL (.invokestatic k) n ci sp := by
  obtain ⟨hx, hml, hown, hts, hlaw, hAmb, hA⟩ := X
  intro pc len H locs ls lv av rest S cs ss KF hd hxl hlen hlv hR hO hS hrc hcat b1 b2 hv kk kx
  cases hxl
  have hR2 := hR
  have hO2 := hO
  rw [hI] at hR2 hO2
  have hM' := hM av S H.size KF hv
  have hrun := vx_runSX (l := l) (e := e) (below := below) (meth := meth) (H := H) (locs := locs) (cells := cs) (slots := ss) (As := av) (rest := rest) (g := F0 m pc ls (av.reverse ++ rest)) ⟨hx, rfl, hml, hown, hts⟩ hM' (vx_cwSW n hts hg hw rfl rfl hy hRm)
    ⟨lPc_blind, fun U hU hW => by
      obtain ⟨u1, u2, u3, u4⟩ := xpre (av := av) hA hAmb hR2 hO2 hS U hU hW
      exact ⟨u1, u2, u3, u4, hN.1.moved hW.alike, hN.2.1.moved hW.alike, hN.2.2.moved hW.alike⟩⟩ rfl hlen hlv.1 rfl (lv_room hcat) hd ⟨b1, b2⟩
  have hsub : ∀ q, xReg (lI aM oA) (wY W9) S H.size q → A q := fun q h => by
    rcases h with ⟨x, h⟩ | h
    · exact hO2 q x h
    · exact hA q (Nat.le_trans hS.1 h)
  refine xcr_goL (KF := KF) hlv hS hsub hrun (fun r S' H' hK hR' hO' hkeep => ⟨S', hK, ?_, ?_⟩) kk kx
  · rw [hI]; exact hR'
  · rw [hI]; exact fun a x h => hsub a (hO' a x h)
/-! a wrapper's body, row by row -/
abbrev wG (E : xEnv lS) (W9 : xWd) (A : Nat → Prop) (p : Program) (l : Launch) (e : Env) (R : Room) (s : State) (m : MethodId) (args : Array Value) (below : List Frame) (meth : Method) (c : Code) (nL : Nat) : xGo lS := xWG E (wD W9) vwCl (wY W9) A p l e R s m args below meth c nL
variable {cc : ByteArray} {pc : Nat} {lv : xLv} {st : List Value} {S : lS} {cs ss : Nat}
set_option maxHeartbeats 400000 in
theorem wg_aln {a k : Nat} {u : Fin 4} (hx : p.tables.exec = Jvm.exec) (hb : c.code = cc) (hd : decode cc pc = .ok (.aload_n u, 1)) (hu : u.val = k) (hv : lv[k]? = some (some (.ref a))) (h : wG E W9 A p l e R s m args below meth c nL (pc + 1) lv (.ref a :: st) S cs ss) : wG E W9 A p l e R s m args below meth c nL pc lv st S cs ss := by
  intro H locs ls hlv hR hO hS
  subst hb
  exact lv_aload_n hx rfl hd hu (hlv.2.2 k _ hv).1 (h H locs ls hlv hR hO hS)
set_option maxHeartbeats 400000 in
theorem wg_al {a k : Nat} (hx : p.tables.exec = Jvm.exec) (hb : c.code = cc) (hd : decode cc pc = .ok (.aload k, 2)) (hv : lv[k]? = some (some (.ref a))) (h : wG E W9 A p l e R s m args below meth c nL (pc + 2) lv (.ref a :: st) S cs ss) : wG E W9 A p l e R s m args below meth c nL pc lv st S cs ss := by
  intro H locs ls hlv hR hO hS
  subst hb
  exact lv_aload hx rfl hd (hlv.2.2 k _ hv).1 (h H locs ls hlv hR hO hS)
set_option maxHeartbeats 400000 in
theorem wg_iln {x : Int32} {k : Nat} {u : Fin 4} (hx : p.tables.exec = Jvm.exec) (hb : c.code = cc) (hd : decode cc pc = .ok (.iload_n u, 1)) (hu : u.val = k) (hv : lv[k]? = some (some (.int x))) (h : wG E W9 A p l e R s m args below meth c nL (pc + 1) lv (.int x :: st) S cs ss) : wG E W9 A p l e R s m args below meth c nL pc lv st S cs ss := by
  intro H locs ls hlv hR hO hS
  subst hb
  exact lv_iload_n hx rfl hd hu (hlv.2.2 k _ hv).1 (h H locs ls hlv hR hO hS)
set_option maxHeartbeats 400000 in
theorem wg_il {x : Int32} {k : Nat} (hx : p.tables.exec = Jvm.exec) (hb : c.code = cc) (hd : decode cc pc = .ok (.iload k, 2)) (hv : lv[k]? = some (some (.int x))) (h : wG E W9 A p l e R s m args below meth c nL (pc + 2) lv (.int x :: st) S cs ss) : wG E W9 A p l e R s m args below meth c nL pc lv st S cs ss := by
  intro H locs ls hlv hR hO hS
  subst hb
  exact lv_iload hx rfl hd (hlv.2.2 k _ hv).1 (h H locs ls hlv hR hO hS)
set_option maxHeartbeats 400000 in
theorem wg_ic {z : Int} (hx : p.tables.exec = Jvm.exec) (hb : c.code = cc) (hd : decode cc pc = .ok (.iconst z, 1)) (h : wG E W9 A p l e R s m args below meth c nL (pc + 1) lv (.int (Int32.ofInt z) :: st) S cs ss) : wG E W9 A p l e R s m args below meth c nL pc lv st S cs ss := by
  intro H locs ls hlv hR hO hS
  subst hb
  exact lv_iconst hx rfl hd rfl (h H locs ls hlv hR hO hS)
set_option maxHeartbeats 400000 in
theorem wg_ret {x : Int32} (hx : p.tables.exec = Jvm.exec) (hb : c.code = cc) (hr : meth.sig.returnType = some .int) (hl : meth.locks = false) (hd : decode cc pc = .ok (.ireturn, 1)) (h1 : cs ≤ eMc E) (h2 : ss ≤ eMs E) (h : eF E (rI x) S) : wG E W9 A p l e R s m args below meth c nL pc lv [.int x] S cs ss := by
  intro H locs ls hlv hR hO hS
  subst hb
  refine vx_ret (W.widen h1 h2 (W.iret hx rfl hr (fun t ht _ => ⟨⟨some (.int x), S, rfl, h, ?_, hO⟩, hS.F ht⟩) hS.2.2 hd hl))
  rw [ht]
  exact hR
set_option maxHeartbeats 400000 in
/-- a call, a row for it -/
theorem wg_call {i : Instr} {len na ci : Nat} {sp : xSp lS} {KF : xRes → lS → Prop} {av rest : List Value} (hcr : xCR E (wD W9) vwCl (wY W9) A p l e R s m args below meth c nL i na ci sp) (hb : c.code = cc) (hd : decode cc pc = .ok (i, len)) (hxl : xlen i = some len) (hlen : av.length = na) (hst : st = av.reverse ++ rest) (hrc : (∃ k, i = .invokevirtual k) → xRecv (eI E) S ci av) (hcat : (rest.map fun v => v.category).sum ≤ 8) (b1 : cs + (sp.1 av S).1 ≤ R.cells) (b2 : ss + (sp.1 av S).2 ≤ R.slots) (hv : sp.2 av S KF)
    (kk : ∀ (v : Option Value) (S' : lS), KF (.inl v) S' → wG E W9 A p l e R s m args below meth c nL (pc + len) lv (v.toList ++ rest) S' (cs + (sp.1 av S).1) (ss + (sp.1 av S).2))
    (kx : ∀ (ex : String) (S' : lS), KF (.inr ex) S' → xXG E (wD W9) vwCl (wY W9) A p l e R s m args below meth c nL pc lv S' (cs + (sp.1 av S).1) (ss + (sp.1 av S).2) ex) : wG E W9 A p l e R s m args below meth c nL pc lv st S cs ss := by
  subst hst
  subst hb
  intro H locs ls hlv hR hO hS
  exact hcr pc len H locs ls lv av rest S cs ss KF hd hxl hlen hlv hR hO hS hrc hcat b1 b2 hv kk kx
set_option maxHeartbeats 400000 in
/-- behind an answer: it is laid, 0 goes back -/
theorem wg_end {v : Int32} {n2 : Int} {z : Nat} (hI : eI E = lI aM oA) (X : xCtxL W9 E A p s m args c nL own ws) (hb : c.code = cc) (hr : meth.sig.returnType = some .int) (hl : meth.locks = false) (d0 : decode cc pc = .ok (.i2l, 1)) (d1 : decode cc (pc + 1) = .ok (.lastore, 1)) (d2 : decode cc (pc + 2) = .ok (.goto n2, 3)) (hz : ((pc + 2 : Nat) : Int) + n2 = (z : Int)) (d3 : decode cc z = .ok (.iconst 0, 1)) (d4 : decode cc (z + 1) = .ok (.ireturn, 1))
    (h1 : cs ≤ eMc E) (h2 : ss ≤ eMs E) (r1 : eMc E = R.cells) (r2 : eMs E = R.slots) (h : eF E (rI 0) (S.1, S.2.1, v.toInt64)) : wG E W9 A p l e R s m args below meth c nL pc lv [.int v, .int 0, .ref oA] S cs ss := by
  refine wg_call (av := [.int v]) (rest := [.int 0, .ref oA]) (KF := fun r S' => r = .inl (some (.long v.toInt64)) ∧ S' = S) (xCR_i2l (ci := 0) X) hb d0 rfl rfl rfl (fun ⟨k, q⟩ => by cases q) (by show 1 + (1 + 0) ≤ 8; omega) (by show cs + 0 ≤ _; omega) (by show ss + 0 ≤ _; omega) ⟨v, rfl, rfl, rfl⟩ (fun w S' hk => ?_) (fun ex S' hk => by cases hk.1)
  obtain ⟨e1, rfl⟩ := hk
  cases e1
  refine wg_call (av := [.ref oA, .int 0, .long v.toInt64]) (rest := []) (KF := fun r S2 => r = rV ∧ S2 = (S'.1, S'.2.1, v.toInt64)) (xCR_lst (ci := 0) hI X) hb d1 rfl rfl rfl (fun ⟨k, q⟩ => by cases q) (by decide) (by show cs + 0 + 0 ≤ _; omega) (by show ss + 0 + 0 ≤ _; omega) ⟨_, rfl, rfl, rfl⟩ (fun w S2 hk => ?_) (fun ex S' hk => by cases hk.1)
  obtain ⟨e2, rfl⟩ := hk
  cases e2
  have k3 := wg_ic (st := []) (lv := lv) (S := (S'.1, S'.2.1, v.toInt64)) (cs := cs + 0 + 0) (ss := ss + 0 + 0) X.1 hb d3 (wg_ret (E := E) (W9 := W9) (A := A) (l := l) (e := e) (R := R) (s := s) (m := m) (args := args) (below := below) (nL := nL) X.1 hb hr hl d4 (by omega) (by omega) h)
  intro H locs ls hlv hR hO hS
  have k4 := k3 H locs ls hlv hR hO hS
  subst hb
  exact lv_goto X.1 rfl d2 (by omega) k4
set_option maxHeartbeats 400000 in
/-- nothing answered: 0 goes back -/
theorem wg_endV {n2 : Int} {z : Nat} (X : xCtxL W9 E A p s m args c nL own ws) (hb : c.code = cc) (hr : meth.sig.returnType = some .int) (hl : meth.locks = false) (d2 : decode cc pc = .ok (.goto n2, 3)) (hz : (pc : Int) + n2 = (z : Int)) (d3 : decode cc z = .ok (.iconst 0, 1)) (d4 : decode cc (z + 1) = .ok (.ireturn, 1))
    (h1 : cs ≤ eMc E) (h2 : ss ≤ eMs E) (h : eF E (rI 0) S) : wG E W9 A p l e R s m args below meth c nL pc lv [] S cs ss := by
  have k3 := wg_ic (st := []) (lv := lv) (S := S) (cs := cs) (ss := ss) X.1 hb d3 (wg_ret (E := E) (W9 := W9) (A := A) (l := l) (e := e) (R := R) (s := s) (m := m) (args := args) (below := below) (nL := nL) X.1 hb hr hl d4 (by omega) (by omega) h)
  intro H locs ls hlv hR hO hS
  have k4 := k3 H locs ls hlv hR hO hS
  subst hb
  exact lv_goto X.1 rfl d2 (by omega) k4
set_option maxHeartbeats 400000 in
/-- a handler: its number goes back -/
theorem wg_h {z : Int} {t k n : Nat} {q : Nat} (X : xCtxL W9 E A p s m args c nL own ws) (hb : c.code = cc) (hr : meth.sig.returnType = some .int) (hl : meth.locks = false) (d0 : (∃ u : Fin 4, decode cc t = .ok (.astore_n u, 1) ∧ u.val = k ∧ n = 1) ∨ (decode cc t = .ok (.astore k, 2) ∧ n = 2)) (hk : k < nL) (d1 : decode cc (t + n) = .ok (.iconst z, 1)) (d2 : decode cc (t + n + 1) = .ok (.ireturn, 1))
    (h1 : cs ≤ eMc E) (h2 : ss ≤ eMs E) (h : eF E (rI (Int32.ofInt z)) S) : wG E W9 A p l e R s m args below meth c nL t lv [.ref q] S cs ss := by
  have k3 := wg_ic (st := []) (lv := lv.set k (some (.ref q))) (S := S) (cs := cs) (ss := ss) X.1 hb d1 (wg_ret (E := E) (W9 := W9) (A := A) (l := l) (e := e) (R := R) (s := s) (m := m) (args := args) (below := below) (nL := nL) X.1 hb hr hl d2 h1 h2 h)
  intro H locs ls hlv hR hO hS
  subst hb
  rcases d0 with ⟨u, d0, hu, rfl⟩ | ⟨d0, rfl⟩
  · exact lv_astore_n X.1 rfl d0 hu (xLok_pairs hlv) hk rfl (fun ls' hl' => k3 H locs ls' (xLok_after hlv rfl hl') hR hO hS)
  · exact lv_astore X.1 rfl d0 (xLok_pairs hlv) hk rfl (fun ls' hl' => k3 H locs ls' (xLok_after hlv rfl hl') hR hO hS)
end LR
