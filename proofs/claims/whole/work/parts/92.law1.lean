/-! The law: both worlds together, and the row for the class's answers. -/
abbrev lS : Type := cS × mS × Int64
def lCell (aM : Nat → Nat) (oA : Nat) (s9 : lS) (Y : Nat → ClassId) (a : Nat) : Option va_E :=
  if a = oA then some (.inl (Y 3, 1, .inr (.inl (fun j => if j = 0 then s9.2.2 else 0)))) else match mCell aM s9.2.1 Y a with
    | some e => some e
    | none => cCell s9.1 Y a
/-- places that neither the reference nor the row for answers has -/
def lFree (aM : Nat → Nat) (oA a : Nat) : Prop := a ≠ oA ∧ a ≠ aM 0 ∧ mFind aM a = none
def lIs (aM : Nat → Nat) (oA : Nat) (s9 : lS) (ci a : Nat) : Prop := (lFree aM oA a ∧ cK s9.1 a = ci + 1 ∧ ci ≤ 9) ∨ (ci = 9 ∧ a = aM 0 ∧ aM 0 ≠ oA)
def lI (aM : Nat → Nat) (oA : Nat) : xRI lS := (lCell aM oA, lIs aM oA, (fun _ _ _ _ _ => False), (fun _ _ _ _ _ _ => False), (fun _ _ _ _ _ _ => False), (fun _ _ _ _ _ _ _ => False), (fun _ _ _ _ _ => False), (fun _ _ _ => False), (fun _ _ _ _ => False))
set_option maxHeartbeats 400000 in
theorem mCell_no {aM : Nat → Nat} {M : mS} {Y : Nat → ClassId} {a : Nat} (h1 : a ≠ aM 0) (h2 : mFind aM a = none) : mCell aM M Y a = none := by
  unfold mCell
  rw [if_neg h1, h2]
set_option maxHeartbeats 400000 in
theorem lCell_c {aM : Nat → Nat} {oA : Nat} {s9 : lS} {Y : Nat → ClassId} {a : Nat} (h : lFree aM oA a) : lCell aM oA s9 Y a = cCell s9.1 Y a := by
  unfold lCell
  rw [if_neg h.1, mCell_no h.2.1 h.2.2]
set_option maxHeartbeats 400000 in
theorem lCell_m {aM : Nat → Nat} {oA : Nat} {s9 : lS} {Y : Nat → ClassId} {a : Nat} {e : va_E} (h1 : a ≠ oA) (h : mCell aM s9.2.1 Y a = some e) : lCell aM oA s9 Y a = some e := by
  unfold lCell
  rw [if_neg h1, h]
set_option maxHeartbeats 400000 in
theorem lCell_o {aM : Nat → Nat} {oA : Nat} {s9 : lS} {Y : Nat → ClassId} : lCell aM oA s9 Y oA = some (.inl (Y 3, 1, .inr (.inl (fun j => if j = 0 then s9.2.2 else 0)))) := by
  unfold lCell
  rw [if_pos rfl]
set_option maxHeartbeats 400000 in
theorem lI_law {aM : Nat → Nat} {oA : Nat} : xLaw (lI aM oA) cDf := by
  intro S Y
  refine ⟨?_, fun _ _ _ _ h => h.elim, fun _ _ _ _ _ h => h.elim, fun _ _ _ _ _ h => h.elim, fun _ _ _ _ _ _ _ h => h.elim, fun _ _ _ _ h => h.elim, fun _ _ h => h.elim, fun _ _ _ _ h => h.elim⟩
  rintro ci a (⟨h1, h2, h3⟩ | ⟨rfl, rfl, h⟩)
  · exact ⟨_, (lCell_c h1).trans (cCell_o h2 h3)⟩
  · exact ⟨_, lCell_m h mCell_o⟩
set_option maxHeartbeats 400000 in
theorem cDead_no {S : cS} {Y : Nat → ClassId} {a : Nat} (h : cDead S a) : cCell S Y a = none := by
  cases e : cCell S Y a with
  | none => rfl
  | some x =>
    exfalso
    unfold cCell at e
    have h2 : cK S a = 0 ∨ 13 < cK S a := by
      by_cases c : cK S a = 0
      · exact Or.inl c
      · refine Or.inr (Nat.lt_of_not_le (fun z => h ⟨by omega, z⟩))
    rcases h2 with z | z
    · rw [if_pos z] at e
      cases e
    · rw [if_neg (by omega), if_neg (by omega), if_neg (by omega), if_neg (by omega), if_neg (by omega)] at e
      cases e
set_option maxHeartbeats 400000 in
theorem cLvg {S : cS} {Y : Nat → ClassId} {a : Nat} {e : va_E} (h : cCell S Y a = some e) : ¬ cDead S a := fun z => by
  rw [cDead_no z] at h
  cases h
/-- the class's things lie apart from the reference's -/
def lApt (aM : Nat → Nat) (oA : Nat) (S : cS) : Prop := ∀ a, ¬ lFree aM oA a → cDead S a
set_option maxHeartbeats 400000 in
theorem lApt.fr {aM : Nat → Nat} {oA : Nat} {S : cS} {a : Nat} (h : lApt aM oA S) (ha : ¬ cDead S a) : lFree aM oA a := Classical.byContradiction (fun z => ha (h a z))
/-- the reference's places are its own -/
def lOut (aM : Nat → Nat) (oA : Nat) : Prop := ∀ k, k < 59 → aM k ≠ oA
set_option maxHeartbeats 400000 in
theorem lOut.ne {aM : Nat → Nat} {oA : Nat} (h : lOut aM oA) {M : mS} {Y : Nat → ClassId} {a : Nat} {e : va_E} (hc : mCell aM M Y a = some e) : a ≠ oA := by
  unfold mCell at hc
  by_cases c : a = aM 0
  · rw [c]
    exact h 0 (by omega)
  · rw [if_neg c] at hc
    cases f : mFind aM a with
    | none => rw [f] at hc; cases hc
    | some k =>
      obtain ⟨k1, k2, k3⟩ := mFind_spec f
      rw [k3]
      exact h k k1
set_option maxHeartbeats 400000 in
theorem lNf {aM : Nat → Nat} {oA : Nat} {s9 : lS} {Y : Nat → ClassId} {a : Nat} (h : ¬ lFree aM oA a) : ∃ e, lCell aM oA s9 Y a = some e ∧ ∀ S, lCell aM oA (S, s9.2) Y a = some e := by
  by_cases c : a = oA
  · subst c
    exact ⟨_, lCell_o, fun S => lCell_o⟩
  · cases e : mCell aM s9.2.1 Y a with
    | some x => exact ⟨x, lCell_m c e, fun S => lCell_m c e⟩
    | none =>
      exfalso
      refine h ⟨c, fun z => ?_, ?_⟩
      · rw [z, mCell_o] at e
        cases e
      · cases f : mFind aM a with
        | none => rfl
        | some k =>
          unfold mCell at e
          rw [f] at e
          split at e <;> cases e
/-- a spec of the class's, a spec of the reference's, over both -/
def lC (aM : Nat → Nat) (oA : Nat) (sp : xSp cS) : xSp lS := (fun av s9 => sp.1 av s9.1, fun av s9 K => lApt aM oA s9.1 ∧ sp.2 av s9.1 (fun r S => lApt aM oA S → K r (S, s9.2)))
def lM (sp : xSp mS) : xSp lS := (fun av s9 => sp.1 av s9.2.1, fun av s9 K => sp.2 av s9.2.1 (fun r M => K r (s9.1, M, s9.2.2)))
/-- what a body's rows rest on -/
def xCtxL {σ : Type} (W9 : xWd) (E : xEnv σ) (A : Nat → Prop) (p : Program) (s : State) (m : MethodId) (args : Array Value) (c : Code) (nL : Nat) (own : String) (ws : List Jvm.Cond) : Prop :=
  p.tables.exec = Jvm.exec ∧ c.maxLocals = nL ∧ s.vm.findClass own = some m.cls ∧ (∀ w ∈ ws, w.before args s = true) ∧ xLaw (eI E) cDf ∧ xAmb W9 A s s.heap ∧ (∀ q, s.heap.size ≤ q → A q)
section LW
variable {E : xEnv lS} {W9 : xWd} {A : Nat → Prop} {aM : Nat → Nat} {oA : Nat}
variable {p : Program} {l : Launch} {e : Env} {R : Room} {s : State} {m : MethodId} {args : Array Value} {below : List Frame} {meth : Method} {c : Code} {nL : Nat} {own : String} {ws : List Jvm.Cond}
set_option maxHeartbeats 400000 in
theorem xcr_goL {τ : Type} {I : xRI τ} {S0 : τ} {KF0 : xRes → τ → Prop} {KF : xRes → lS → Prop} {aa : Array Value} {pc : Nat} {H : Heap} {locs : List Loc} {ls : Array Slot} {lv : xLv} {rest st0 : List Value} {cs ss mc ms : Nat}
    (hlv : xLok ls nL lv) (hS : va_S A s.heap H locs) (hsub : ∀ q, xReg I (wY W9) S0 H.size q → A q)
    (hr : vx_Run p l e R s m args below meth c H locs cs ss mc ms (F0 m pc ls st0) rest (xQc I (wD W9) vwCl (wY W9) (xReg I (wY W9) S0 H.size) KF0 aa) (xXC I (wD W9) vwCl (wY W9) (xReg I (wY W9) S0 H.size) KF0) (xReg I (wY W9) S0 H.size))
    (back : ∀ (r : xRes) (S' : τ) (H' : Heap), KF0 r S' → xRep I (wD W9) vwCl (wY W9) S' H' → xOwn I (wY W9) S' (xReg I (wY W9) S0 H.size) → (∀ q : Nat, q < H.size → ¬ xReg I (wY W9) S0 H.size q → H'[q]? = H[q]?) → ∃ s8 : lS, KF r s8 ∧ xRep (eI E) (wD W9) vwCl (wY W9) s8 H' ∧ xOwn (eI E) (wY W9) s8 A)
    (kk : ∀ (v : Option Value) (S' : lS), KF (.inl v) S' → xWG E (wD W9) vwCl (wY W9) A p l e R s m args below meth c nL (pc + 3) lv (v.toList ++ rest) S' (cs + mc) (ss + ms))
    (kx : ∀ (ex : String) (S' : lS), KF (.inr ex) S' → xXG E (wD W9) vwCl (wY W9) A p l e R s m args below meth c nL pc lv S' (cs + mc) (ss + ms) ex) :
    W p l e R s m args below meth c H locs cs ss (vx_MQ below (xQc (eI E) (wD W9) vwCl (wY W9) A (eF E)) (xXC (eI E) (wD W9) vwCl (wY W9) A (eF E)) args s (eMc E) (eMs E) A) (F0 m pc ls st0) := by
  intro T hT X
  rcases hr T hT X with ⟨v, st₀, t, T', L, h0, X', hL, e1, e2, ⟨⟨v', S', hv, hK, hR', hO'⟩, hF⟩, st⟩ | ⟨q, st₀, t, T', L, ex, ce, h0, X', hL, e1, e2, ⟨⟨S', hK, hR', hO'⟩, hF⟩, hce, hcv, hcl, st⟩
  · cases hv
    obtain ⟨k1, k2, k3⟩ := vx_keep h0 e1 hS (fun q _ h => hsub q h) hsub hL hF
    obtain ⟨s8, b1, b2, b3⟩ := back _ S' T'.heap hK (by rw [e1]; exact hR') hO' k2
    obtain ⟨t2, a1, b1⟩ := kk v s8 b1 T'.heap (locs ++ L) ls hlv b2 b3 k3 T' rfl X'
    exact ⟨t2, st t2 a1, b1⟩
  · obtain ⟨k1, k2, k3⟩ := vx_keep h0 e1 hS (fun q _ h => hsub q h) hsub hL hF
    obtain ⟨s8, b1, b2, b3⟩ := back _ S' T'.heap hK (by rw [e1]; exact hR') hO' k2
    obtain ⟨t2, a1, b1⟩ := kx ex s8 b1 T'.heap (locs ++ L) ls rest q ce hlv b2 b3 k3 (by rw [e1]; exact hce) hcv hcl T' rfl X'
    exact ⟨t2, st.trans a1, b1⟩
set_option maxHeartbeats 400000 in
theorem xrep_c {D : va_G} {cl : List vw_C} {Y : Nat → ClassId} {s9 : lS} {H : Heap} (h : xRep (lI aM oA) D cl Y s9 H) (hd : lApt aM oA s9.1) : xRep cI D cl Y s9.1 H := fun a x hx => h a x ((lCell_c (hd.fr (cLvg hx))).trans hx)
set_option maxHeartbeats 400000 in
theorem xown_c {Y : Nat → ClassId} {s9 : lS} (h : xOwn (lI aM oA) Y s9 A) (hd : lApt aM oA s9.1) : xOwn cI Y s9.1 A := fun a x hx => h a x ((lCell_c (hd.fr (cLvg hx))).trans hx)
set_option maxHeartbeats 400000 in
theorem xrep_m {D : va_G} {cl : List vw_C} {Y : Nat → ClassId} {s9 : lS} {H : Heap} (h : xRep (lI aM oA) D cl Y s9 H) (ho : lOut aM oA) : xRep (mI aM) D cl Y s9.2.1 H := fun a x hx => h a x (lCell_m (ho.ne hx) hx)
set_option maxHeartbeats 400000 in
theorem xown_m {Y : Nat → ClassId} {s9 : lS} (h : xOwn (lI aM oA) Y s9 A) (ho : lOut aM oA) : xOwn (mI aM) Y s9.2.1 A := fun a x hx => h a x (lCell_m (ho.ne hx) hx)
set_option maxHeartbeats 400000 in
/-- a call of the class's -/
theorem xCR_VC {y : MethodName} {ws2 ws' : List Jvm.Cond} {F L k ci n maxL : Nat} {C : String} {T : u_T} {N : Nat} {bytes : ByteArray} {ret : Option FieldType} {sp : xSp cS} (hI : eI E = lI aM oA) (X : xCtxL W9 E A p s m args c nL own ws) (hM : xSem l W9 cI y ws2 F L sp) (hg : GoodIn ws (wsV own k C y ws2)) (hw : ws2 = Jvm.Cond.code y bytes maxL ret :: ws') (hci : vwCl[ci]? = some (C, T, N))
    (hy : y.cls = C ∧ y.cls ≠ "java/lang/invoke/MethodHandle" ∧ y.cls ≠ "java/lang/invoke/VarHandle" ∧ (parseMethodDescriptor y.desc).map (fun d => d.parameters.length) = some n) (hRm : F + 1 ≤ R.frames ∧ 8 + (maxL + 11) + L ≤ R.locals) :
    xCR E (wD W9) vwCl (wY W9) A p l e R s m args below meth c nL (.invokevirtual k) (n + 1) ci (lC aM oA sp) := by
  obtain ⟨hx, hml, hown, hts, hlaw, hAmb, hA⟩ := X
  intro pc len H locs ls lv av rest S cs ss KF hd hxl hlen hlv hR hO hS hrc hcat b1 b2 hv kk kx
  cases hxl
  obtain ⟨b, As, rfl, hisa⟩ := xRecv_ex (fun q => by subst q; simp [vwCl] at hci) (hrc ⟨k, rfl⟩)
  obtain ⟨fs, hcell⟩ := (hlaw S (wY W9)).1 _ _ hisa
  obtain ⟨hdj, hv⟩ := hv
  have hR2 := hR
  have hO2 := hO
  rw [hI] at hR2 hO2
  have hRc := xrep_c hR2 hdj
  have hOc := xown_c hO2 hdj
  have hM' := hM (.ref b :: As) S.1 H.size _ hv
  have hrun := vx_runV (l := l) (e := e) (below := below) (meth := meth) (H := H) (locs := locs) (cells := cs) (slots := ss) (As := As) (rest := rest) (b := b) (g := F0 m pc ls ((Value.ref b :: As).reverse ++ rest)) ⟨hx, rfl, hml, hown, hts⟩ hM' (cwV n hts hg hw rfl rfl hy hRm)
    ⟨xPc_blind, va_recv hAmb.1 (xP1 (hR b _ hcell)) hci (q0 := 0) rfl, fun U hU hW => xpre hA hAmb hRc hOc hS U hU hW⟩ rfl (by simpa using hlen) hlv.1 (by simp) (lv_room hcat) hd ⟨b1, b2⟩
  have hsub : ∀ q, xReg cI (wY W9) S.1 H.size q → A q := fun q h => by
    rcases h with ⟨x, h⟩ | h
    · exact hOc q x h
    · exact hA q (Nat.le_trans hS.1 h)
  refine xcr_goL (KF := KF) hlv hS hsub hrun (fun r S' H' hK hR' hO' hkeep => ?_) kk kx
  have hnf : ∀ a, ¬ lFree aM oA a → a < H.size ∧ ¬ xReg cI (wY W9) S.1 H.size a := fun a ha => by
    obtain ⟨x, h1, -⟩ := lNf (s9 := S) (Y := wY W9) ha
    have hlt := (hR2 a x h1).lt
    refine ⟨hlt, fun z => ?_⟩
    rcases z with ⟨x2, z⟩ | z
    · exact cLvg z (hdj a ha)
    · exact absurd z (Nat.not_le.mpr hlt)
  have hdj' : lApt aM oA S' := fun a ha => by
    intro hlive
    cases ec : cCell S' (wY W9) a with
    | none => exact cDead_of ec hlive
    | some x => exact (hnf a ha).2 (hO' a x ec)
  refine ⟨(S', S.2), hK hdj', ?_, ?_⟩
  · rw [hI]
    intro a x hx2
    by_cases ha : lFree aM oA a
    · exact hR' a x ((lCell_c ha).symm.trans hx2)
    · obtain ⟨x2, h1, h2⟩ := lNf (s9 := S) (Y := wY W9) ha
      have e9 : x2 = x := Option.some.inj ((h2 S').symm.trans hx2)
      subst e9
      exact (hR2 a x2 h1).kept (hkeep a (hnf a ha).1 (hnf a ha).2)
  · rw [hI]
    intro a x hx2
    by_cases ha : lFree aM oA a
    · exact hsub a (hO' a x ((lCell_c ha).symm.trans hx2))
    · obtain ⟨x2, h1, h2⟩ := lNf (s9 := S) (Y := wY W9) ha
      exact hO2 a x2 h1
set_option maxHeartbeats 400000 in
/-- a call of the reference's -/
theorem xCR_VM {y : MethodName} {ws2 ws' : List Jvm.Cond} {F L k ci n maxL : Nat} {C : String} {T : u_T} {N : Nat} {bytes : ByteArray} {ret : Option FieldType} {sp : xSp mS} (hI : eI E = lI aM oA) (ho : lOut aM oA) (X : xCtxL W9 E A p s m args c nL own ws) (hM : xSem l W9 (mI aM) y ws2 F L sp) (hg : GoodIn ws (wsV own k C y ws2)) (hw : ws2 = Jvm.Cond.code y bytes maxL ret :: ws') (hci : vwCl[ci]? = some (C, T, N))
    (hy : y.cls = C ∧ y.cls ≠ "java/lang/invoke/MethodHandle" ∧ y.cls ≠ "java/lang/invoke/VarHandle" ∧ (parseMethodDescriptor y.desc).map (fun d => d.parameters.length) = some n) (hRm : F + 1 ≤ R.frames ∧ 8 + (maxL + 11) + L ≤ R.locals) :
    xCR E (wD W9) vwCl (wY W9) A p l e R s m args below meth c nL (.invokevirtual k) (n + 1) ci (lM sp) := by
  obtain ⟨hx, hml, hown, hts, hlaw, hAmb, hA⟩ := X
  intro pc len H locs ls lv av rest S cs ss KF hd hxl hlen hlv hR hO hS hrc hcat b1 b2 hv kk kx
  cases hxl
  obtain ⟨b, As, rfl, hisa⟩ := xRecv_ex (fun q => by subst q; simp [vwCl] at hci) (hrc ⟨k, rfl⟩)
  obtain ⟨fs, hcell⟩ := (hlaw S (wY W9)).1 _ _ hisa
  have hR2 := hR
  have hO2 := hO
  rw [hI] at hR2 hO2
  have hRc := xrep_m hR2 ho
  have hOc := xown_m hO2 ho
  have hM' := hM (.ref b :: As) S.2.1 H.size _ hv
  have hrun := vx_runV (l := l) (e := e) (below := below) (meth := meth) (H := H) (locs := locs) (cells := cs) (slots := ss) (As := As) (rest := rest) (b := b) (g := F0 m pc ls ((Value.ref b :: As).reverse ++ rest)) ⟨hx, rfl, hml, hown, hts⟩ hM' (cwV n hts hg hw rfl rfl hy hRm)
    ⟨xPc_blind, va_recv hAmb.1 (xP1 (hR b _ hcell)) hci (q0 := 0) rfl, fun U hU hW => xpre hA hAmb hRc hOc hS U hU hW⟩ rfl (by simpa using hlen) hlv.1 (by simp) (lv_room hcat) hd ⟨b1, b2⟩
  have hsub : ∀ q, xReg (mI aM) (wY W9) S.2.1 H.size q → A q := fun q h => by
    rcases h with ⟨x, h⟩ | h
    · exact hOc q x h
    · exact hA q (Nat.le_trans hS.1 h)
  refine xcr_goL (KF := KF) hlv hS hsub hrun (fun r M' H' hK hR' hO' hkeep => ?_) kk kx
  have hmc : ∀ a, (∃ x, mCell aM M' (wY W9) a = some x) → ∃ x, mCell aM S.2.1 (wY W9) a = some x := fun a ⟨x, hx2⟩ => by
    unfold mCell at hx2 ⊢
    by_cases c1 : a = aM 0
    · rw [if_pos c1]
      exact ⟨_, rfl⟩
    · rw [if_neg c1] at hx2 ⊢
      cases f : mFind aM a with
      | none => rw [f] at hx2; cases hx2
      | some k2 => exact ⟨_, rfl⟩
  have hoth : ∀ a x, mCell aM M' (wY W9) a = none → lCell aM oA S (wY W9) a = some x → a < H.size ∧ ¬ xReg (mI aM) (wY W9) S.2.1 H.size a := fun a x h1 h2 => by
    have hlt := (hR2 a x h2).lt
    refine ⟨hlt, fun z => ?_⟩
    rcases z with ⟨x2, z⟩ | z
    · have z : mCell aM S.2.1 (wY W9) a = some x2 := z
      unfold mCell at h1 z
      by_cases c1 : a = aM 0
      · rw [if_pos c1] at h1
        cases h1
      · rw [if_neg c1] at h1 z
        cases f : mFind aM a with
        | none => rw [f] at z; cases z
        | some k2 => rw [f] at h1; cases h1
    · exact absurd z (Nat.not_le.mpr hlt)
  have hcell : ∀ a x, mCell aM M' (wY W9) a = none → lCell aM oA (S.1, M', S.2.2) (wY W9) a = some x → lCell aM oA S (wY W9) a = some x := fun a x h1 h2 => by
    by_cases c1 : a = oA
    · subst c1
      rw [lCell_o] at h2
      rw [lCell_o]
      exact h2
    · have h0 : mCell aM S.2.1 (wY W9) a = none := by
        unfold mCell at h1 ⊢
        by_cases c2 : a = aM 0
        · rw [if_pos c2] at h1
          cases h1
        · rw [if_neg c2] at h1 ⊢
          cases f : mFind aM a with
          | none => rfl
          | some k2 => rw [f] at h1; cases h1
      unfold lCell at h2 ⊢
      rw [if_neg c1] at h2 ⊢
      have h1b : mCell aM (S.1, M', S.2.2).2.1 (wY W9) a = none := h1
      rw [h1b] at h2
      rw [h0]
      exact h2
  refine ⟨(S.1, M', S.2.2), hK, ?_, ?_⟩
  · rw [hI]
    intro a x hx2
    cases em : mCell aM M' (wY W9) a with
    | some x2 =>
      have hx2 : lCell aM oA (S.1, M', S.2.2) (wY W9) a = some x := hx2
      have e9 : x2 = x := Option.some.inj ((lCell_m (s9 := (S.1, M', S.2.2)) (ho.ne em) em).symm.trans hx2)
      subst e9
      exact hR' a x2 em
    | none =>
      have h2 := hcell a x em hx2
      obtain ⟨g1, g2⟩ := hoth a x em h2
      exact (hR2 a x h2).kept (hkeep a g1 g2)
  · rw [hI]
    intro a x hx2
    cases em : mCell aM M' (wY W9) a with
    | some x2 => exact hsub a (hO' a x2 em)
    | none => exact hO2 a x (hcell a x em hx2)
end LW
