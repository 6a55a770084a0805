/-! ===== BEGIN a constructor that throws (launches without stack traces) ===== -/
section VXIA
variable {p : Program} {l : Launch} {e : Env} {R : Room} {s : State} {m : MethodId} {args : Array Value} {below : List Frame} {meth : Method} {c : Code} {T : State} {locs : List Loc} {cells slots : Nat}
theorem vx_callI (X : Stand p l e R s m args below meth c T locs cells slots) (hexec : p.tables.exec = Jvm.exec) {own : String} {index : Nat} {y : MethodName} {bytes : ByteArray} {maxL : Nat}
    (hown : s.vm.findClass own = some m.cls) (hy1 : y.name = "<init>") (hlink : (Cond.methodLink own index y).before args s = true) (hinst : (Cond.instanceMethod y).before args s = true)
    (hcode : (Cond.code y bytes maxL none).before args s = true) (hy : y.cls ≠ "java/lang/invoke/MethodHandle" ∧ y.cls ≠ "java/lang/invoke/VarHandle")
    {W9 : Nat} {Pre : Pt → Array Value → Prop} {Post : Pt → Array Value → Option Value → Pt → Prop} {PostX : Pt → Array Value → Addr → Pt → Prop} (hK : vx_Back l R p e below s args y 3 W9 Pre Post PostX)
    {g : JFrame} (hg : g.method = m) (hsize : g.locals.size = c.maxLocals) {a : Addr} {argsL rest : List Value} (hlen : ∀ sig, parseMethodDescriptor y.desc = some sig → argsL.length = sig.parameters.length)
    (hstack : g.stack = argsL.reverse ++ .ref a :: rest) (hW : 2 * g.monitorRoom + (rest.map fun v => v.category).sum ≤ W9) (hdg : decode c.code g.pc = .ok (.invokespecial index, 3))
    (hpre : ∀ vm₁, s.WarmedH vm₁ → Pre ⟨T.setVm vm₁, locs, cells, slots⟩ (Value.ref a :: argsL).toArray) :
    (∃ (v : Option Value) (vm₁ : Vm) (B : Pt), s.WarmedH vm₁ ∧ Stand p l e R s m args below meth c B.U B.locs B.cells B.slots ∧ Post ⟨T.setVm vm₁, locs, cells, slots⟩ (Value.ref a :: argsL).toArray v B ∧
      ∀ target, Steps p.tables e below (B.U.setTop { g with pc := g.pc + 3, stack := v.toList ++ rest }) target → Steps p.tables e below (T.setTop g) target) ∨
    (∃ (q : Addr) (vm₁ : Vm) (B : Pt), s.WarmedH vm₁ ∧ Stand p l e R s m args below meth c B.U B.locs B.cells B.slots ∧ PostX ⟨T.setVm vm₁, locs, cells, slots⟩ (Value.ref a :: argsL).toArray q B ∧
      Steps p.tables e below (T.setTop g) ((B.U.setTop { g with stack := rest }).pushFrame (.throwing q))) := by
  subst hg
  have hpl : e.platform.magicAccessors = ({} : Platform).magicAccessors := by rw [X.admits.platform]
  obtain ⟨mk, methM, cM, kP, vm₁, hnamed, hmethM, hcodeM, -, hlocalsM, -, hkP, -, hW₁, hstep₁⟩ := Steps.initColdArgs (e := e) X.here hexec X.warmed hpl hown hy1 hy hlink hinst hcode (f := g) rfl hlen hstack hdg
  have X₁ := X.noted hW₁
  rcases hK g.method meth c ⟨T.setVm vm₁, locs, cells, slots⟩ { g with stack := rest } (.invokespecial index) mk (Value.ref a :: argsL).toArray X₁ rfl hsize hdg hW (X₁.named hnamed) (hpre vm₁ X₁.warmed) with ⟨v, B, X', hpost, hsteps⟩ | ⟨q, B, X', hpost, hsteps⟩
  · exact Or.inl ⟨v, vm₁, B, X₁.warmed, X', hpost, fun target h => hstep₁ _ fun acts => by rw [doInvoke_state]; exact hsteps.trans h⟩
  · exact Or.inr ⟨q, vm₁, B, X₁.warmed, X', hpost, hstep₁ _ fun acts => by rw [doInvoke_state]; exact hsteps⟩
end VXIA
section VXIB
variable {p : Program} {l : Launch} {e : Env} {R : Room} {s : State} {m : MethodId} {args : Array Value} {below : List Frame} {meth : Method} {c : Code} {H : Heap} {locs : List Loc} {cells slots : Nat}
variable {y : MethodName} {bytes cc : ByteArray} {maxL nL mc ms n index : Nat} {ret : Option FieldType} {ws : List Cond} {rm : Room} {Pc : Array Value → State → Prop} {Qc : Array Value → State → Outcome → State → Prop} {XC : String → State → State → Prop} {free : Addr → Prop} {Ts : List Cond} {own C : String} {b : Addr} {As rest : List Value} {g : JFrame}
theorem vx_runI (S : CallFix p m c cc nL s args Ts own) (hM : vx_Met l y ws rm Pc Qc XC mc ms free) (cw : CallB R s args own index y bytes maxL none ws rm mc ms n ∧ y.name = "<init>" ∧ (Cond.instanceMethod y).before args s = true) (hp : PreS s H Pc (.ref b :: As))
    (hg : g.method = m) (hn : As.length = n) (hsize : g.locals.size = nL) (hstack : g.stack = As.reverse ++ .ref b :: rest) (hW : 2 * g.monitorRoom + (rest.map fun v => v.category).sum ≤ 8) (hdg : decode cc g.pc = .ok (.invokespecial index, 3)) (hf : cells + mc ≤ R.cells ∧ slots + ms ≤ R.slots) :
    vx_Run p l e R s m args below meth c H locs cells slots mc ms g rest (Qc (Value.ref b :: As).toArray) XC free := by
  have hK : vx_Back l R p e below s args y 3 8 (PreOf R mc ms Pc) (PostOf Qc mc ms free) (vx_Post XC mc ms free) := vx_callBack cw.1 hM hp.1
  obtain ⟨⟨-, -, -, -, -, -, hcode, -, hy, hlen, hl⟩, hy1, hin⟩ := cw
  obtain ⟨hx, hb, hml, ho, -⟩ := S
  have hPc := hp.2
  intro T hT X
  rcases vx_callI X hx (bytes := bytes) (maxL := maxL) ho hy1 hl hin hcode hy hK hg (hsize.trans hml.symm) (a := b) (argsL := As) (rest := rest) (fun sig h => hn.trans (hlen sig h)) hstack hW (by rw [hb]; exact hdg)
    (fun vm₁ hW₁ => ⟨hf.1, hf.2, hPc (T.setVm vm₁) hT hW₁⟩) with ⟨v, vm₁, ⟨U', l2, c2, s2⟩, hW₁, X', ⟨g', mk, t, L, e1, e2, hq, h1, hL, h2, h3⟩, st⟩ | ⟨q, vm₁, ⟨U', l2, c2, s2⟩, hW₁, X', ⟨g', mk, t, L, E, ce, e1, e2, hq, hce, hcv, hcl, h1, hL, h2, h3⟩, st⟩
  · dsimp only [Pt.U, Pt.locs, Pt.cells, Pt.slots] at X' e1 e2 h1 h2 h3 st
    subst h1; subst h2; subst h3
    exact Or.inl ⟨v, (T.setVm vm₁).calling g' mk (Value.ref b :: As).toArray, t, U', L, hT, X', hL, e1, e2, hq, st⟩
  · dsimp only [Pt.U, Pt.locs, Pt.cells, Pt.slots] at X' e1 e2 h1 h2 h3 st hcl
    subst h1; subst h2; subst h3
    exact Or.inr ⟨q, (T.setVm vm₁).calling g' mk (Value.ref b :: As).toArray, t, U', L, E, ce, hT, X', hL, e1, e2, hq, hce, hcv, vx_cls hW₁ hcl, st⟩
end VXIB
/-! ===== END ===== -/
/-! ===== BEGIN a private constructor of a nest mate that throws ===== -/
section VXIC
variable {p : Program} {l : Launch} {e : Env} {R : Room} {s : State} {m : MethodId} {args : Array Value} {below : List Frame} {meth : Method} {c : Code} {T : State} {locs : List Loc} {cells slots : Nat}
theorem vx_callIN (X : Stand p l e R s m args below meth c T locs cells slots) (hexec : p.tables.exec = Jvm.exec) {own : String} {index : Nat} {host : String} {y : MethodName} {bytes : ByteArray} {maxL : Nat}
    (hown : s.vm.findClass own = some m.cls) (hy1 : y.name = "<init>") (hlink : (Cond.methodLinkNest own index y host).before args s = true) (hinst : (Cond.instanceMethod y).before args s = true)
    (hcode : (Cond.code y bytes maxL none).before args s = true) (hy : y.cls ≠ "java/lang/invoke/MethodHandle" ∧ y.cls ≠ "java/lang/invoke/VarHandle")
    {W9 : Nat} {Pre : Pt → Array Value → Prop} {Post : Pt → Array Value → Option Value → Pt → Prop} {PostX : Pt → Array Value → Addr → Pt → Prop} (hK : vx_Back l R p e below s args y 3 W9 Pre Post PostX)
    {g : JFrame} (hg : g.method = m) (hsize : g.locals.size = c.maxLocals) {a : Addr} {argsL rest : List Value} (hlen : ∀ sig, parseMethodDescriptor y.desc = some sig → argsL.length = sig.parameters.length)
    (hstack : g.stack = argsL.reverse ++ .ref a :: rest) (hW : 2 * g.monitorRoom + (rest.map fun v => v.category).sum ≤ W9) (hdg : decode c.code g.pc = .ok (.invokespecial index, 3))
    (hpre : ∀ vm₁, s.WarmedH vm₁ → Pre ⟨T.setVm vm₁, locs, cells, slots⟩ (Value.ref a :: argsL).toArray) :
    (∃ (v : Option Value) (vm₁ : Vm) (B : Pt), s.WarmedH vm₁ ∧ Stand p l e R s m args below meth c B.U B.locs B.cells B.slots ∧ Post ⟨T.setVm vm₁, locs, cells, slots⟩ (Value.ref a :: argsL).toArray v B ∧
      ∀ target, Steps p.tables e below (B.U.setTop { g with pc := g.pc + 3, stack := v.toList ++ rest }) target → Steps p.tables e below (T.setTop g) target) ∨
    (∃ (q : Addr) (vm₁ : Vm) (B : Pt), s.WarmedH vm₁ ∧ Stand p l e R s m args below meth c B.U B.locs B.cells B.slots ∧ PostX ⟨T.setVm vm₁, locs, cells, slots⟩ (Value.ref a :: argsL).toArray q B ∧
      Steps p.tables e below (T.setTop g) ((B.U.setTop { g with stack := rest }).pushFrame (.throwing q))) := by
  subst hg
  have hpl : e.platform.magicAccessors = ({} : Platform).magicAccessors := by rw [X.admits.platform]
  obtain ⟨mk, methM, cM, kP, vm₁, hnamed, hmethM, hcodeM, -, hlocalsM, -, hkP, -, hW₁, hstep₁⟩ := Steps.initColdArgsNest (e := e) X.here hexec X.warmed hpl hown hy1 hy hlink hinst hcode (f := g) rfl hlen hstack hdg
  have X₁ := X.noted hW₁
  rcases hK g.method meth c ⟨T.setVm vm₁, locs, cells, slots⟩ { g with stack := rest } (.invokespecial index) mk (Value.ref a :: argsL).toArray X₁ rfl hsize hdg hW (X₁.named hnamed) (hpre vm₁ X₁.warmed) with ⟨v, B, X', hpost, hsteps⟩ | ⟨q, B, X', hpost, hsteps⟩
  · exact Or.inl ⟨v, vm₁, B, X₁.warmed, X', hpost, fun target h => hstep₁ _ fun acts => by rw [doInvoke_state]; exact hsteps.trans h⟩
  · exact Or.inr ⟨q, vm₁, B, X₁.warmed, X', hpost, hstep₁ _ fun acts => by rw [doInvoke_state]; exact hsteps⟩
end VXIC
section VXID
variable {p : Program} {l : Launch} {e : Env} {R : Room} {s : State} {m : MethodId} {args : Array Value} {below : List Frame} {meth : Method} {c : Code} {H : Heap} {locs : List Loc} {cells slots : Nat}
theorem vx_runIN {y : MethodName} {bytes cc : ByteArray} {maxL nL mc ms n index : Nat} {ws : List Cond} {rm : Room} {Pc : Array Value → State → Prop} {Qc : Array Value → State → Outcome → State → Prop} {XC : String → State → State → Prop} {free : Addr → Prop} {Ts : List Cond} {own host : String} {b : Addr} {As rest : List Value} {g : JFrame}
    (S : CallFix p m c cc nL s args Ts own) (hM : vx_Met l y ws rm Pc Qc XC mc ms free) (cw : va_CN R s args own index y host bytes maxL none ws rm mc ms n ∧ y.name = "<init>" ∧ (Cond.instanceMethod y).before args s = true) (hp : PreS s H Pc (.ref b :: As))
    (hg : g.method = m) (hn : As.length = n) (hsize : g.locals.size = nL) (hstack : g.stack = As.reverse ++ .ref b :: rest) (hW : 2 * g.monitorRoom + (rest.map fun v => v.category).sum ≤ 8) (hdg : decode cc g.pc = .ok (.invokespecial index, 3)) (hf : cells + mc ≤ R.cells ∧ slots + ms ≤ R.slots) :
    vx_Run p l e R s m args below meth c H locs cells slots mc ms g rest (Qc (Value.ref b :: As).toArray) XC free := by
  obtain ⟨⟨⟨hrc, hrs, hfr, hlo, hws, hcw⟩, hcode, hini, hy, hlen, hl⟩, hx1, hx2⟩ := cw
  have hK : vx_Back l R p e below s args y 3 8 (PreOf R mc ms Pc) (PostOf Qc mc ms free) (vx_Post XC mc ms free) := vx_back (bytes := bytes) (maxL := maxL) (ret := none) hM hp.1 hrc hrs hfr hlo hws hcw (fun a' U hW => word_at hW (Or.inl (by first | rfl | simp [Cond.onTables, Cond.keeps, Cond.steady])) hini)
  obtain ⟨hx, hb, hml, ho, -⟩ := S
  have hPc := hp.2
  intro T hT X
  rcases vx_callIN X hx (bytes := bytes) (maxL := maxL) ho hx1 hl hx2 hcode hy hK hg (hsize.trans hml.symm) (a := b) (argsL := As) (rest := rest) (fun sig h => hn.trans (hlen sig h)) hstack hW (by rw [hb]; exact hdg)
    (fun vm₁ hW₁ => ⟨hf.1, hf.2, hPc (T.setVm vm₁) hT hW₁⟩) with ⟨v, vm₁, ⟨U', l2, c2, s2⟩, hW₁, X', ⟨g', mk, t, L, e1, e2, hq, h1, hL, h2, h3⟩, st⟩ | ⟨q, vm₁, ⟨U', l2, c2, s2⟩, hW₁, X', ⟨g', mk, t, L, E, ce, e1, e2, hq, hce, hcv, hcl, h1, hL, h2, h3⟩, st⟩
  · dsimp only [Pt.U, Pt.locs, Pt.cells, Pt.slots] at X' e1 e2 h1 h2 h3 st
    subst h1; subst h2; subst h3
    exact Or.inl ⟨v, (T.setVm vm₁).calling g' mk (Value.ref b :: As).toArray, t, U', L, hT, X', hL, e1, e2, hq, st⟩
  · dsimp only [Pt.U, Pt.locs, Pt.cells, Pt.slots] at X' e1 e2 h1 h2 h3 st hcl
    subst h1; subst h2; subst h3
    exact Or.inr ⟨q, (T.setVm vm₁).calling g' mk (Value.ref b :: As).toArray, t, U', L, E, ce, hT, X', hL, e1, e2, hq, hce, hcv, vx_cls hW₁ hcl, st⟩
end VXID
/-! ===== END ===== -/
/-! Two kinds of states, and how they lie in the heap. cS: objects and arrays by their addresses. mS: the one object of the twin, its whole numbers and its arrays. -/
abbrev cS : Type := (Nat → Nat) × (Nat → Nat → Int32) × (Nat → Nat → Option Nat) × (Nat → Nat) × (Nat → Nat → Int32) × (Nat → Nat → Option Nat)
def cK (S : cS) : Nat → Nat := S.1
def cFi (S : cS) : Nat → Nat → Int32 := S.2.1
def cFr (S : cS) : Nat → Nat → Option Nat := S.2.2.1
def cLen (S : cS) : Nat → Nat := S.2.2.2.1
def cRi (S : cS) : Nat → Nat → Int32 := S.2.2.2.2.1
def cRr (S : cS) : Nat → Nat → Option Nat := S.2.2.2.2.2
def cN (ci : Nat) : Nat := ([3, 6, 15, 11, 3, 6, 13, 3, 14, 59] : List Nat).getD ci 0
def cRefs : List Nat := [1, 102, 104, 203, 214, 400, 402, 505, 700, 701, 800, 801, 802, 803, 804, 805, 806, 905, 906, 907, 908, 909, 910, 911, 912, 913, 914, 915, 916, 917, 918, 919, 920, 921, 923, 924, 925, 926, 927, 928, 930, 931, 932, 933, 934, 935, 936, 937, 938, 939, 940, 941, 942, 943, 944, 945, 947, 948, 949, 950, 951, 952, 953, 954, 955]
def cIsR (g : Nat) : Bool := decide (g ∈ cRefs)
def cVal (S : cS) (ci k a : Nat) : Value := if cIsR (100 * ci + k) then va_rf (cFr S a (100 * ci + k)) else .int (cFi S a (100 * ci + k))
def cFs (S : cS) (ci a : Nat) : List Value := (List.range (cN ci)).map (fun k => cVal S ci k a)
def cCell (S : cS) (Y : Nat → ClassId) (a : Nat) : Option va_E :=
  if cK S a = 0 then none
  else if cK S a ≤ 10 then some (.inr (cK S a - 1, cFs S (cK S a - 1) a))
  else if cK S a = 11 then some (.inl (Y 0, cLen S a, .inl (cRi S a)))
  else if cK S a = 12 then some (.inl (Y 1, cLen S a, .inl (cRi S a)))
  else if cK S a = 13 then some (.inl (Y 2, cLen S a, .inr (.inr (.inr (.inr (cRr S a))))))
  else none
def vOpt (v : Value) : Option Nat := match v with
  | .ref a => some a
  | _ => none
theorem vOpt_rf (r : Option Nat) : vOpt (va_rf r) = r := by cases r <;> rfl
theorem vOpt_ref (a : Nat) : vOpt (.ref a) = some a := rfl
theorem vOpt_null : vOpt .null = none := rfl
def cSetI (S : cS) (a g : Nat) (x : Int32) : cS := (S.1, (fun b h => if b = a ∧ h = g then x else S.2.1 b h), S.2.2)
def cSetR (S : cS) (a g : Nat) (r : Option Nat) : cS := (S.1, S.2.1, (fun b h => if b = a ∧ h = g then r else S.2.2.1 b h), S.2.2.2)
def cAst (S : cS) (a j : Nat) (x : Int32) : cS := (S.1, S.2.1, S.2.2.1, S.2.2.2.1, (fun b i => if b = a ∧ i = j then x else S.2.2.2.2.1 b i), S.2.2.2.2.2)
def cNewO (S : cS) (q ci : Nat) : cS := ((fun b => if b = q then ci + 1 else S.1 b), (fun b h => if b = q then 0 else S.2.1 b h), (fun b h => if b = q then none else S.2.2.1 b h), S.2.2.2)
def cNewI (S : cS) (q z n : Nat) : cS := ((fun b => if b = q then 11 + z else S.1 b), S.2.1, S.2.2.1, (fun b => if b = q then n else S.2.2.2.1 b), (fun b i => if b = q then 0 else S.2.2.2.2.1 b i), S.2.2.2.2.2)
def cSetV (S : cS) (a g : Nat) (v : Value) : Option cS := match v with
  | .int x => if cIsR g then none else some (cSetI S a g x)
  | v => if cIsR g ∧ vRef v = true then some (cSetR S a g (vOpt v)) else none
def cI : xRI cS := (cCell, (fun S ci a => cK S a = ci + 1 ∧ ci ≤ 9),
  (fun S ci k a K => (cK S a = ci + 1 ∧ ci ≤ 9 ∧ k < cN ci) ∧ K (cVal S ci k a)),
  (fun S ci k a v K => (cK S a = ci + 1 ∧ ci ≤ 9 ∧ k < cN ci) ∧ ∃ S', cSetV S a (100 * ci + k) v = some S' ∧ K S'),
  (fun S _ z a i K => (cK S a = 11 + z ∧ z ≤ 2 ∧ vp_in i (cLen S a)) ∧ K (if z = 2 then va_rf (cRr S a i.toNatClampNeg) else .int (cRi S a i.toNatClampNeg))),
  (fun S _ z a i v K => (cK S a = 11 + z ∧ z ≤ 1 ∧ vp_in i (cLen S a)) ∧ ∃ x, v = .int x ∧ K (cAst S a i.toNatClampNeg x)),
  (fun S _ z a K => (cK S a = 11 + z ∧ z ≤ 2) ∧ K (cLen S a)),
  (fun S ci K => ci ≤ 9 ∧ ∀ q, ¬ (1 ≤ cK S q ∧ cK S q ≤ 13) → K q (cNewO S q ci)),
  (fun S z n K => z ≤ 1 ∧ ∀ q, ¬ (1 ≤ cK S q ∧ cK S q ≤ 13) → K q (cNewI S q z n)))
def cDf (ci : Nat) : List Value := (List.range (cN ci)).map (fun k => if cIsR (100 * ci + k) then .null else .int 0)
theorem cDead_of {S : cS} {Y : Nat → ClassId} {a : Nat} (e : cCell S Y a = none) : ¬ (1 ≤ cK S a ∧ cK S a ≤ 13) := by
  intro ⟨h1, h2⟩
  unfold cCell at e
  rw [if_neg (by omega)] at e
  split at e
  · cases e
  · split at e
    · cases e
    · split at e
      · cases e
      · split at e
        · cases e
        · omega
theorem cCell_o {S : cS} {Y : Nat → ClassId} {ci a : Nat} (h : cK S a = ci + 1) (hc : ci ≤ 9) : cCell S Y a = some (.inr (ci, cFs S ci a)) := by
  unfold cCell
  rw [if_neg (by omega), if_pos (by omega), h]
  rfl
theorem cCell_i {S : cS} {Y : Nat → ClassId} {z a : Nat} (h : cK S a = 11 + z) (hz : z ≤ 1) : cCell S Y a = some (.inl (Y z, cLen S a, .inl (cRi S a))) := by
  unfold cCell
  rcases (show z = 0 ∨ z = 1 by omega) with rfl | rfl
  · rw [if_neg (by omega), if_neg (by omega), if_pos (by omega)]
  · rw [if_neg (by omega), if_neg (by omega), if_neg (by omega), if_pos (by omega)]
theorem cCell_r {S : cS} {Y : Nat → ClassId} {a : Nat} (h : cK S a = 13) : cCell S Y a = some (.inl (Y 2, cLen S a, .inr (.inr (.inr (.inr (cRr S a)))))) := by
  unfold cCell
  rw [if_neg (by omega), if_neg (by omega), if_neg (by omega), if_neg (by omega), if_pos h]
theorem cFs_at {S : cS} {ci k a : Nat} (h : k < cN ci) : (cFs S ci a)[k]? = some (cVal S ci k a) := by
  unfold cFs
  rw [List.getElem?_map, List.getElem?_range h]
  rfl
theorem cFs_len {S : cS} {ci a : Nat} : (cFs S ci a).length = cN ci := by
  unfold cFs
  rw [List.length_map, List.length_range]
theorem cFs_set {S S' : cS} {ci k a : Nat} {v : Value} (h1 : cVal S' ci k a = v) (h2 : ∀ j, j ≠ k → cVal S' ci j a = cVal S ci j a) : cFs S' ci a = (cFs S ci a).set k v := by
  apply List.ext_getElem?
  intro j
  rw [List.getElem?_set]
  by_cases hj : k = j
  · subst hj
    rw [if_pos rfl, cFs_len]
    by_cases hk : k < cN ci
    · rw [if_pos hk, cFs_at hk, h1]
    · rw [if_neg hk]
      exact List.getElem?_eq_none (by rw [cFs_len]; omega)
  · rw [if_neg hj]
    by_cases hk : j < cN ci
    · rw [cFs_at hk, cFs_at hk, h2 j (Ne.symm hj)]
    · rw [List.getElem?_eq_none (by rw [cFs_len]; omega), List.getElem?_eq_none (by rw [cFs_len]; omega)]
theorem cCell_same {S S' : cS} {Y : Nat → ClassId} {b : Nat} (h1 : cK S' b = cK S b) (h2 : ∀ g, cFi S' b g = cFi S b g) (h3 : ∀ g, cFr S' b g = cFr S b g) (h4 : cLen S' b = cLen S b) (h5 : ∀ i, cRi S' b i = cRi S b i) (h6 : ∀ i, cRr S' b i = cRr S b i) : cCell S' Y b = cCell S Y b := by
  unfold cCell cFs cVal
  rw [h1, h4, funext h5, funext h6]
  simp only [h2, h3]
theorem cI_law : xLaw cI cDf := by
  intro S Y
  refine ⟨?_, ?_, ?_, ?_, ?_, ?_, ?_, ?_⟩
  · intro ci a h
    exact ⟨_, cCell_o h.1 h.2⟩
  · intro ci k a K h
    exact ⟨_, _, cCell_o h.1.1 h.1.2.1, cFs_at h.1.2.2, h.2⟩
  · intro ci k a v K h
    obtain ⟨⟨h1, h2, h3⟩, S', e, hk⟩ := h
    refine ⟨_, S', cCell_o h1 h2, by rw [cFs_len]; exact h3, hk, ?_, ?_⟩
    · unfold cSetV at e
      split at e
      · split at e
        · cases e
        · rename_i x hr
          cases e
          refine (cCell_o (ci := ci) (by exact h1) h2).trans ?_
          refine congrArg (fun z => some (Sum.inr (ci, z))) (cFs_set ?_ ?_)
          · unfold cVal cFi cSetI
            simp [hr]
          · intro j hj
            unfold cVal cFi cFr cSetI
            simp [hj]
      · split at e
        · rename_i v' hr
          cases e
          refine (cCell_o (ci := ci) (by exact h1) h2).trans ?_
          refine congrArg (fun z => some (Sum.inr (ci, z))) (cFs_set ?_ ?_)
          · obtain ⟨r, hr2⟩ := vRef_ex hr.2
            unfold cVal cFr cSetR
            simp [hr.1, hr2, vOpt_rf]
          · intro j hj
            unfold cVal cFi cFr cSetR
            simp [hj]
        · cases e
    · intro b hb
      unfold cSetV at e
      split at e
      · split at e
        · cases e
        · cases e
          apply cCell_same <;> simp [cK, cFi, cFr, cLen, cRi, cRr, cSetI, hb]
      · split at e
        · cases e
          apply cCell_same <;> simp [cK, cFi, cFr, cLen, cRi, cRr, cSetR, hb]
        · cases e
  · intro _ z a i K h
    obtain ⟨⟨h1, h2, h3⟩, hk⟩ := h
    refine ⟨_, h3, fun hz => ?_, fun hz => ?_⟩
    · rw [if_neg (by omega)] at hk
      exact ⟨_, cCell_i h1 hz, hk⟩
    · subst hz
      rw [if_pos rfl] at hk
      exact ⟨_, cCell_r h1, hk⟩
  · intro _ z a i x K hz h
    obtain ⟨⟨h1, h2, h3⟩, y, hy, hk⟩ := h
    cases hy
    refine ⟨_, _, _, h3, cCell_i h1 h2, hk, ?_, ?_⟩
    · refine (cCell_i (z := z) (by exact h1) h2).trans ?_
      refine congrArg (fun f => some (Sum.inl (Y z, cLen S a, Sum.inl f))) ?_
      funext j
      unfold upd cRi cAst
      by_cases hj : j = i.toNatClampNeg <;> simp [hj]
    · intro b hb
      apply cCell_same <;> simp [cK, cFi, cFr, cLen, cRi, cRr, cAst, hb]
  · intro _ z a K h
    obtain ⟨⟨h1, h2⟩, hk⟩ := h
    rcases (show z ≤ 1 ∨ z = 2 by omega) with q | q
    · exact ⟨_, cCell_i h1 q, hk⟩
    · subst q
      exact ⟨_, cCell_r h1, hk⟩
  · intro ci K h q hq
    obtain ⟨h1, hk⟩ := h
    refine ⟨_, hk q (cDead_of hq), ?_, ?_⟩
    · refine (cCell_o (ci := ci) (by simp [cK, cNewO]) h1).trans ?_
      refine congrArg (fun z => some (Sum.inr (ci, z))) ?_
      unfold cFs cDf cVal cFr cFi cNewO
      simp
      intro j hj
      split <;> rfl
    · intro b hb
      apply cCell_same <;> simp [cK, cFi, cFr, cLen, cRi, cRr, cNewO, hb]
  · intro z n K hz h q hq
    obtain ⟨h1, hk⟩ := h
    refine ⟨_, hk q (cDead_of hq), ?_, ?_⟩
    · refine (cCell_i (z := z) (by simp [cK, cNewI]) hz).trans ?_
      simp [cLen, cRi, cNewI]
    · intro b hb
      apply cCell_same <;> simp [cK, cFi, cFr, cLen, cRi, cRr, cNewI, hb]

abbrev mS : Type := (Nat → Int32) × (Nat → Nat → Int32)
def mArr : List (Nat × Nat × Nat) := [(5, 1, 7), (6, 0, 7), (7, 0, 7), (8, 1, 7), (9, 0, 7), (10, 0, 7), (11, 1, 7), (12, 0, 7), (13, 0, 7), (14, 1, 7), (15, 1, 7), (16, 0, 7), (17, 0, 16), (18, 0, 16), (19, 0, 80), (20, 0, 8), (21, 0, 8), (23, 0, 24), (24, 0, 24), (25, 0, 24), (26, 0, 24), (27, 0, 24), (28, 0, 24), (30, 0, 6), (31, 0, 6), (32, 0, 6), (33, 0, 6), (34, 0, 6), (35, 1, 6), (36, 0, 6), (37, 0, 6), (38, 0, 6), (39, 0, 6), (40, 0, 6), (41, 0, 72), (42, 0, 6), (43, 0, 6), (44, 0, 60), (45, 1, 36), (47, 0, 12), (48, 0, 12), (49, 0, 12), (50, 0, 12), (51, 0, 12), (52, 0, 12), (53, 0, 12), (54, 0, 12), (55, 0, 12)]
def mA (k : Nat) : Bool := mArr.any (fun q => q.1 == k)
def mZ (k : Nat) : Nat := ((mArr.find? (fun q => q.1 == k)).map (fun q => q.2.1)).getD 0
def mL (k : Nat) : Nat := ((mArr.find? (fun q => q.1 == k)).map (fun q => q.2.2)).getD 0
def mVal (aM : Nat → Nat) (M : mS) (k : Nat) : Value := if mA k then .ref (aM k) else .int (M.1 k)
def mFs (aM : Nat → Nat) (M : mS) : List Value := (List.range 59).map (mVal aM M)
def mFind (aM : Nat → Nat) (a : Nat) : Option Nat := (List.range 59).find? (fun k => mA k && a == aM k)
def mCell (aM : Nat → Nat) (M : mS) (Y : Nat → ClassId) (a : Nat) : Option va_E :=
  if a = aM 0 then some (.inr (9, mFs aM M)) else match mFind aM a with
    | some k => some (.inl (Y (mZ k), mL k, .inl (M.2 k)))
    | none => none
def mSet (M : mS) (k : Nat) (x : Int32) : mS := ((fun j => if j = k then x else M.1 j), M.2)
def mAst (M : mS) (k i : Nat) (x : Int32) : mS := (M.1, (fun j n => if j = k ∧ n = i then x else M.2 j n))
def mI (aM : Nat → Nat) : xRI mS := (mCell aM, (fun _ ci a => ci = 9 ∧ a = aM 0),
  (fun M ci k a K => (ci = 9 ∧ a = aM 0 ∧ k < 59) ∧ K (mVal aM M k)),
  (fun M ci k a v K => (ci = 9 ∧ a = aM 0 ∧ k < 59 ∧ mA k = false) ∧ ∃ x, v = .int x ∧ K (mSet M k x)),
  (fun M h z a i K => (a = aM h ∧ h < 59 ∧ mA h = true ∧ mZ h = z ∧ vp_in i (mL h)) ∧ K (.int (M.2 h i.toNatClampNeg))),
  (fun M h z a i v K => (a = aM h ∧ h < 59 ∧ mA h = true ∧ mZ h = z ∧ vp_in i (mL h)) ∧ ∃ x, v = .int x ∧ K (mAst M h i.toNatClampNeg x)),
  (fun _ _ _ _ _ => False), (fun _ _ _ => False), (fun _ _ _ _ => False))
def mInj (aM : Nat → Nat) : Prop := ∀ i j, i < 59 → j < 59 → aM i = aM j → i = j
theorem mA_0 : mA 0 = false := by decide +kernel
theorem mZ_le : ∀ k, k < 59 → mZ k ≤ 1 := by decide +kernel
theorem mFind_at {aM : Nat → Nat} (hi : mInj aM) {k : Nat} (hk : k < 59) (ha : mA k = true) : mFind aM (aM k) = some k := by
  unfold mFind
  cases e : (List.range 59).find? (fun j => mA j && aM k == aM j) with
  | none =>
    have h := List.find?_eq_none.mp e k (List.mem_range.mpr hk)
    simp [ha] at h
  | some j =>
    have h1 := List.mem_range.mp (List.mem_of_find?_eq_some e)
    have h2 := List.find?_some e
    simp only [Bool.and_eq_true, beq_iff_eq] at h2
    rw [hi k j hk h1 h2.2]
theorem mFind_spec {aM : Nat → Nat} {a k : Nat} (h : mFind aM a = some k) : k < 59 ∧ mA k = true ∧ a = aM k := by
  unfold mFind at h
  have h1 := List.mem_range.mp (List.mem_of_find?_eq_some h)
  have h2 := List.find?_some h
  simp only [Bool.and_eq_true, beq_iff_eq] at h2
  exact ⟨h1, h2.1, h2.2⟩
theorem mCell_o {aM : Nat → Nat} {M : mS} {Y : Nat → ClassId} : mCell aM M Y (aM 0) = some (.inr (9, mFs aM M)) := by
  unfold mCell
  rw [if_pos rfl]
theorem mCell_a {aM : Nat → Nat} (hi : mInj aM) {M : mS} {Y : Nat → ClassId} {k : Nat} (hk : k < 59) (ha : mA k = true) : mCell aM M Y (aM k) = some (.inl (Y (mZ k), mL k, .inl (M.2 k))) := by
  unfold mCell
  rw [if_neg ?_, mFind_at hi hk ha]
  intro h
  have h0 := hi k 0 hk (by omega) h
  rw [h0, mA_0] at ha
  cases ha
theorem mI_law {aM : Nat → Nat} (hi : mInj aM) : xLaw (mI aM) cDf := by
  intro M Y
  refine ⟨?_, ?_, ?_, ?_, ?_, fun _ _ _ _ h => h.elim, fun _ _ h => h.elim, fun _ _ _ _ h => h.elim⟩
  · rintro ci a ⟨rfl, rfl⟩
    exact ⟨_, mCell_o⟩
  · rintro ci k a K ⟨⟨rfl, rfl, hk⟩, h⟩
    exact ⟨_, _, mCell_o, by unfold mFs; rw [List.getElem?_map, List.getElem?_range hk]; rfl, h⟩
  · rintro ci k a v K ⟨⟨rfl, rfl, hk, ha⟩, x, rfl, h⟩
    refine ⟨_, _, mCell_o, by unfold mFs; rw [List.length_map, List.length_range]; exact hk, h, ?_, ?_⟩
    · refine mCell_o.trans ?_
      refine congrArg (fun z => some (Sum.inr (9, z))) ?_
      unfold mFs
      apply List.ext_getElem?
      intro j
      rw [List.getElem?_set, List.length_map, List.length_range, List.getElem?_map, List.getElem?_map]
      by_cases hj : k = j
      · subst hj
        rw [if_pos rfl, if_pos hk, List.getElem?_range hk]
        simp [mVal, mSet, ha]
      · rw [if_neg hj]
        by_cases h59 : j < 59
        · rw [List.getElem?_range h59]
          simp [mVal, mSet, Ne.symm hj]
        · rw [List.getElem?_eq_none (by rw [List.length_range]; omega)]
          rfl
    · intro b hb
      show mCell aM _ Y b = mCell aM _ Y b
      unfold mCell
      rw [if_neg hb, if_neg hb]
      rfl
  · rintro h z a i K ⟨⟨rfl, hk, ha, rfl, hin⟩, hK⟩
    refine ⟨_, hin, fun _ => ⟨_, mCell_a hi hk ha, hK⟩, fun hz => ?_⟩
    have := mZ_le h hk
    omega
  · rintro h z a i x K hz ⟨⟨rfl, hk, ha, rfl, hin⟩, y, hy, hK⟩
    cases hy
    refine ⟨_, _, _, hin, mCell_a hi hk ha, hK, ?_, ?_⟩
    · refine (mCell_a hi hk ha).trans ?_
      refine congrArg (fun f => some (Sum.inl (Y (mZ h), mL h, Sum.inl f))) ?_
      funext j
      unfold upd mAst
      by_cases hj : j = i.toNatClampNeg <;> simp [hj]
    · intro b hb
      show mCell aM _ Y b = mCell aM _ Y b
      unfold mCell
      by_cases hb0 : b = aM 0
      · rw [if_pos hb0, if_pos hb0]
        rfl
      · rw [if_neg hb0, if_neg hb0]
        cases e : mFind aM b with
        | none => rfl
        | some k =>
          obtain ⟨h1, h2, h3⟩ := mFind_spec e
          have hkh : k ≠ h := fun q => hb (by rw [h3, q])
          refine congrArg (fun f => some (Sum.inl (Y (mZ k), mL k, Sum.inl f))) ?_
          funext j
          simp [mAst, hkh]
/-! Surroundings (what every method may take for granted), contracts, calls, bodies. -/
def xStrs : List (Nat × String) := [(173, "too many would be loaded in this hour"), (191, "it has no cargo to unload here"), (349, "no such thing is told of a boat"), (355, "no such cause"), (364, "no such thing is told of a barge"), (398, "no such thing is told of a contract"), (406, "no such thing is told of the whole"), (410, "the argument is not allowed"), (413, "the argument is out of range"), (415, "as things stand, this cannot be done"), (417, "there is no such number"), (419, "there is no such section"), (421, "there is no such tier"), (423, "there is no such barge"), (425, "there is no such contract"), (427, "there is no such boat")]
def xDecl : List MethodName := [Bundle.initS "java/lang/RuntimeException", Bundle.initS "java/lang/Exception", Bundle.initS "java/lang/Throwable"]
def xCast : List (String × String) := [("java/lang/IllegalStateException", "java/lang/IllegalStateException"), ("java/lang/IllegalArgumentException", "java/lang/IllegalArgumentException"), ("java/lang/IndexOutOfBoundsException", "java/lang/IndexOutOfBoundsException"), (RX0, "java/lang/Object"), (RX1, "java/lang/Object"), (RX2, "java/lang/Object"), (RX4, "java/lang/Object"), (RX5, "java/lang/Object")]
def xExtra : List Jvm.Cond := xDecl.map (fun q => .declares q) ++ xCast.map (fun q => .castable q.1 q.2)
theorem xExtra_warm {s U : State} (hW : s.WarmedH U.vm) (h : ∀ w ∈ xExtra, va_Nw w s) : ∀ w ∈ xExtra, va_Nw w U := by
  intro w hw
  have h0 := h w hw
  rcases List.mem_append.mp hw with hw | hw
  · obtain ⟨q, -, rfl⟩ := List.mem_map.mp hw
    exact h0.warmD hW
  · obtain ⟨q, -, rfl⟩ := List.mem_map.mp hw
    exact h0.warmC hW
theorem xExtra_same {u U : State} (hv : U.vm = u.vm) (h : ∀ w ∈ xExtra, va_Nw w u) : ∀ w ∈ xExtra, va_Nw w U := by
  intro w hw
  have h0 := h w hw
  rcases List.mem_append.mp hw with hw | hw
  · obtain ⟨q, -, rfl⟩ := List.mem_map.mp hw
    exact va_tabs rfl hv.symm h0
  · obtain ⟨q, -, rfl⟩ := List.mem_map.mp hw
    exact va_tabs rfl hv.symm h0
theorem xExtra_use {s : State} {args : Array Value} (h : ∀ w ∈ xExtra, va_Nw w s) : ∀ w ∈ xExtra, w.before args s = true := by
  intro w hw
  have h0 := h w hw
  rcases List.mem_append.mp hw with hw | hw
  · obtain ⟨q, -, rfl⟩ := List.mem_map.mp hw
    exact va_Nw.use rfl h0
  · obtain ⟨q, -, rfl⟩ := List.mem_map.mp hw
    exact va_Nw.use rfl h0
abbrev xWd : Type := va_G × (Nat → ClassId) × (Nat → Nat) × Nat × Nat
abbrev wD (W9 : xWd) := W9.1
abbrev wY (W9 : xWd) := W9.2.1
abbrev wSa (W9 : xWd) := W9.2.2.1
abbrev wE (W9 : xWd) := W9.2.2.2.1
abbrev wMi (W9 : xWd) := W9.2.2.2.2
def xAmb (W9 : xWd) (A : Nat → Prop) (U : State) (H : Heap) : Prop :=
  va_K (wD W9) vwCl [(wY W9 0, .int), (wY W9 1, .boolean), (wY W9 2, .object "java/lang/Object"), (wY W9 3, .long)] U ∧ (∀ q ∈ xStrs, vk_R RX7 q.1 q.2 (wSa W9 q.1) U) ∧
  vx_Zq Bundle.tN "UNASSIGNED_STACK" Bundle.steD A U H ∧ vx_Zq Bundle.tN "SUPPRESSED_SENTINEL" Bundle.listD A U H ∧
  (va_Nw (.methodLinkNest RX7 34 yX6_init RX7) U ∧ va_Nw (.methodLinkNest RX6 9 yX3_init RX7) U ∧ ∀ w ∈ xExtra, va_Nw w U) ∧
  va_Z RJx4a65c "DEFAULTCAPACITY_EMPTY_ELEMENTDATA" "[Ljava/lang/Object;" (.ref (wE W9)) A U H ∧ va_T (.object "java/lang/Object") (wE W9) 0 (fun _ => .null) A U H ∧
  va_AO "java/lang/Object" U ∧ va_Dc U ∧ va_Mi "[Ljava/lang/Object;" (wMi W9) U
theorem xAmb.warm {W9 : xWd} {A : Nat → Prop} {s U : State} {H : Heap} (hW : s.WarmedH U.vm) (h : xAmb W9 A s H) : xAmb W9 A U H := by
  obtain ⟨h1, h2, h3, h4, ⟨h5, h6, h12⟩, h7, h8, h9, h10, h11⟩ := h
  exact ⟨h1.moved hW.alike, fun q hq => (h2 q hq).warm hW, h3.moved hW.alike, h4.moved hW.alike, ⟨h5.warmM hW, h6.warmM hW, xExtra_warm hW h12⟩, h7.moved hW.alike, h8.moved hW.alike, h9.moved hW.alike, h10.moved hW.alike, h11.moved hW.alike⟩
theorem xAmb.same {W9 : xWd} {A : Nat → Prop} {u U : State} {H : Heap} (hv : U.vm = u.vm) (h : xAmb W9 A u H) : xAmb W9 A U H := by
  have ha : u.vm.Alike U.vm := by rw [hv]; exact Vm.Alike.refl _
  obtain ⟨h1, h2, h3, h4, ⟨h5, h6, h12⟩, h7, h8, h9, h10, h11⟩ := h
  exact ⟨h1.moved ha, fun q hq => (h2 q hq).same hv, h3.moved ha, h4.moved ha, ⟨va_tabs rfl hv.symm h5, va_tabs rfl hv.symm h6, xExtra_same hv h12⟩, h7.moved ha, h8.moved ha, h9.moved ha, h10.moved ha, h11.moved ha⟩
theorem xAmb.kept {W9 : xWd} {A : Nat → Prop} {U : State} {H H1 : Heap} (h : xAmb W9 A U H) (hq : ∀ a : Nat, a < H.size → ¬ A a → H1[a]? = H[a]?) : xAmb W9 A U H1 := by
  obtain ⟨h1, h2, h3, h4, h5, h7, h8, h9⟩ := h
  exact ⟨h1, h2, h3.kept hq, h4.kept hq, h5, h7.kept hq, h8.kept hq, h9⟩
theorem xAmb.narrow {W9 : xWd} {A B : Nat → Prop} {U : State} {H : Heap} (h : xAmb W9 A U H) (hAB : ∀ q, B q → A q) : xAmb W9 B U H := by
  obtain ⟨h1, h2, h3, h4, h5, h7, h8, h9⟩ := h
  exact ⟨h1, h2, h3.narrow hAB, h4.narrow hAB, h5, h7.narrow hAB, h8.narrow hAB, h9⟩
def xReg {σ : Type} (I : xRI σ) (Y : Nat → ClassId) (S : σ) (sz : Nat) : Nat → Prop := fun q => (∃ e, xCell I S Y q = some e) ∨ sz ≤ q
def xPc {σ : Type} (I : xRI σ) (W9 : xWd) (av : List Value) (S : σ) (sz : Nat) : Array Value → State → Prop :=
  va_Pc av (fun U => U.heap.size = sz ∧ xRep I (wD W9) vwCl (wY W9) S U.heap ∧ xAmb W9 (xReg I (wY W9) S sz) U U.heap)
/-- a contract: whatever the callee's weakest precondition promises, comes -/
def xSem (l : Launch) (W9 : xWd) {σ : Type} (I : xRI σ) (y : MethodName) (ws : List Jvm.Cond) (F L : Nat) (sp : xSp σ) : Prop :=
  ∀ (av : List Value) (S : σ) (sz : Nat) (KF : xRes → σ → Prop), sp.2 av S KF →
    vx_Met l y ws ({ frames := F, cells := (sp.1 av S).1, slots := (sp.1 av S).2, locals := L }) (xPc I W9 av S sz) (xQc I (wD W9) vwCl (wY W9) (xReg I (wY W9) S sz) KF) (xXC I (wD W9) vwCl (wY W9) (xReg I (wY W9) S sz) KF) (sp.1 av S).1 (sp.1 av S).2 (xReg I (wY W9) S sz)
theorem xPc_blind {σ : Type} {I : xRI σ} {W9 : xWd} {av : List Value} {S : σ} {sz : Nat} : FrameBlind (xPc I W9 av S sz) := fun a U g mk h =>
  ⟨h.1, h.2.1, h.2.2.1, xAmb.same (u := U) (U := U.calling g mk a) (H := U.heap) rfl h.2.2.2⟩
/-- the facts of a body that its calls need -/
def xCtx {σ : Type} (W9 : xWd) (E : xEnv σ) (df : Nat → List Value) (A : Nat → Prop) (p : Program) (R : Room) (s : State) (m : MethodId) (args : Array Value) (meth : Method) (c : Code) (nL : Nat) (own : String) (ws : List Jvm.Cond) : Prop :=
  p.tables.exec = Jvm.exec ∧ c.maxLocals = nL ∧ s.vm.findClass own = some m.cls ∧ (∀ w ∈ ws, w.before args s = true) ∧ xLaw (eI E) df ∧ xAmb W9 A s s.heap ∧ (∀ q, s.heap.size ≤ q → A q) ∧ meth.locks = false ∧ (∀ x ∈ c.exceptionTable.toList, False)
section XC
variable {σ : Type} {E : xEnv σ} {W9 : xWd} {A : Nat → Prop} {df : Nat → List Value}
variable {p : Program} {l : Launch} {e : Env} {R : Room} {s : State} {m : MethodId} {args : Array Value} {below : List Frame} {meth : Method} {c : Code} {free : Addr → Prop} {nL : Nat} {own : String} {ws : List Jvm.Cond}
/-- what came back of a call, put to use -/
theorem xRecv_ex {I : xRI σ} {S : σ} {ci : Nat} {as : List Value} (hn : ci ≠ 99) (h : xRecv I S ci as) : ∃ b As, as = .ref b :: As ∧ xIsa I S ci b := by
  cases as with
  | nil => cases h
  | cons v as => cases v <;> first | exact ⟨_, _, rfl, Or.resolve_left h hn⟩ | cases h
theorem xcr_go {sp : xSp σ} {aa : Array Value} {pc : Nat} {H : Heap} {locs : List Loc} {ls : Array Slot} {lv : xLv} {av rest st0 : List Value} {S : σ} {cs ss mc ms : Nat} {KF : xRes → σ → Prop}
    (hlv : xLok ls nL lv) (hO : xOwn (eI E) (wY W9) S A) (hA : ∀ q, s.heap.size ≤ q → A q) (hS : va_S A s.heap H locs)
    (hr : vx_Run p l e R s m args below meth c H locs cs ss mc ms (F0 m pc ls st0) rest (xQc (eI E) (wD W9) vwCl (wY W9) (xReg (eI E) (wY W9) S H.size) KF aa) (xXC (eI E) (wD W9) vwCl (wY W9) (xReg (eI E) (wY W9) S H.size) KF) (xReg (eI E) (wY W9) S H.size))
    (kk : ∀ (v : Option Value) (S' : σ), KF (.inl v) S' → xWG E (wD W9) vwCl (wY W9) A p l e R s m args below meth c nL (pc + 3) lv (v.toList ++ rest) S' (cs + mc) (ss + ms))
    (kx : ∀ (ex : String) (S' : σ), KF (.inr ex) S' → xXG E (wD W9) vwCl (wY W9) A p l e R s m args below meth c nL pc lv S' (cs + mc) (ss + ms) ex) :
    W p l e R s m args below meth c H locs cs ss (vx_MQ below (xQc (eI E) (wD W9) vwCl (wY W9) A (eF E)) (xXC (eI E) (wD W9) vwCl (wY W9) A (eF E)) args s (eMc E) (eMs E) A) (F0 m pc ls st0) := by
  have hsub : ∀ q, xReg (eI E) (wY W9) S H.size q → A q := fun q h => by
    rcases h with ⟨x, h⟩ | h
    · exact hO q x h
    · exact hA q (Nat.le_trans hS.1 h)
  intro T hT X
  rcases hr T hT X with ⟨v, st₀, t, T', L, h0, X', hL, e1, e2, ⟨⟨v', S', hv, hK, hR', hO'⟩, hF⟩, st⟩ | ⟨q, st₀, t, T', L, ex, ce, h0, X', hL, e1, e2, ⟨⟨S', hK, hR', hO'⟩, hF⟩, hce, hcv, hcl, st⟩
  · cases hv
    obtain ⟨k1, k2, k3⟩ := vx_keep h0 e1 hS (fun q _ h => hsub q h) hsub hL hF
    obtain ⟨t2, a1, b1⟩ := kk v S' hK T'.heap (locs ++ L) ls hlv (by rw [e1]; exact hR') (fun a x h => hsub a (hO' a x h)) k3 T' rfl X'
    exact ⟨t2, st t2 a1, b1⟩
  · obtain ⟨k1, k2, k3⟩ := vx_keep h0 e1 hS (fun q _ h => hsub q h) hsub hL hF
    obtain ⟨t2, a1, b1⟩ := kx ex S' hK T'.heap (locs ++ L) ls rest q ce hlv (by rw [e1]; exact hR') (fun a x h => hsub a (hO' a x h)) k3 (by rw [e1]; exact hce) hcv hcl T' rfl X'
    exact ⟨t2, st.trans a1, b1⟩
theorem xpre {W9 : xWd} {I : xRI σ} {A : Nat → Prop} {S : σ} {H : Heap} {locs : List Loc} {av : List Value} (hA : ∀ q, s.heap.size ≤ q → A q) (hAmb : xAmb W9 A s s.heap) (hR : xRep I (wD W9) vwCl (wY W9) S H) (hO : xOwn I (wY W9) S A) (hS : va_S A s.heap H locs) :
    ∀ U : State, U.heap = H → s.WarmedH U.vm → xPc I W9 av S H.size av.toArray U := by
  intro U hU hW
  refine ⟨rfl, by rw [hU], by rw [hU]; exact hR, ?_⟩
  rw [hU]
  refine ((hAmb.kept (fun a h1 h2 => hS.2.1 a h1 h2)).warm hW).narrow (fun q h => ?_)
  rcases h with ⟨x, h⟩ | h
  · exact hO q x h
  · exact hA q (Nat.le_trans hS.1 h)
theorem xCR_V {y : MethodName} {ws2 ws' : List Jvm.Cond} {F L k ci n maxL : Nat} {C : String} {T : u_T} {N : Nat} {bytes : ByteArray} {ret : Option FieldType} {sp : xSp σ} (X : xCtx W9 E df A p R s m args meth c nL own ws) (hM : xSem l W9 (eI E) y ws2 F L sp) (hg : GoodIn ws (wsV own k C y ws2)) (hw : ws2 = Jvm.Cond.code y bytes maxL ret :: ws') (hci : vwCl[ci]? = some (C, T, N))
    (hy : y.cls = C ∧ y.cls ≠ "java/lang/invoke/MethodHandle" ∧ y.cls ≠ "java/lang/invoke/VarHandle" ∧ (parseMethodDescriptor y.desc).map (fun d => d.parameters.length) = some n) (hRm : F + 1 ≤ R.frames ∧ 8 + (maxL + 11) + L ≤ R.locals) :
    xCR E (wD W9) vwCl (wY W9) A p l e R s m args below meth c nL (.invokevirtual k) (n + 1) ci sp := by
  obtain ⟨hx, hml, hown, hts, hlaw, hAmb, hA, hlocks, hext⟩ := X
  intro pc len H locs ls lv av rest S cs ss KF hd hxl hlen hlv hR hO hS hrc hcat b1 b2 hv kk kx
  cases hxl
  obtain ⟨b, As, rfl, hisa⟩ := xRecv_ex (fun q => by subst q; simp [vwCl] at hci) (hrc ⟨k, rfl⟩)
  · obtain ⟨fs, hcell⟩ := (hlaw S (wY W9)).1 _ _ hisa
    have hM' := hM (.ref b :: As) S H.size KF hv
    have hrun := vx_runV (l := l) (e := e) (below := below) (meth := meth) (H := H) (locs := locs) (cells := cs) (slots := ss) (As := As) (rest := rest) (b := b) (g := F0 m pc ls ((Value.ref b :: As).reverse ++ rest)) ⟨hx, rfl, hml, hown, hts⟩ hM' (cwV n hts hg hw rfl rfl hy hRm)
      ⟨xPc_blind, va_recv hAmb.1 (xP1 (hR b _ hcell)) hci (q0 := 0) rfl, fun U hU hW => xpre hA hAmb hR hO hS U hU hW⟩ rfl (by simpa using hlen) hlv.1 (by simp) (lv_room hcat) hd ⟨b1, b2⟩
    exact xcr_go (sp := sp) (av := .ref b :: As) hlv hO hA hS hrun kk kx
theorem xCR_S {y : MethodName} {ws2 ws' : List Jvm.Cond} {F L k ci n maxL : Nat} {bytes : ByteArray} {ret : Option FieldType} {sp : xSp σ} (X : xCtx W9 E df A p R s m args meth c nL own ws) (hM : xSem l W9 (eI E) y ws2 F L sp) (hg : GoodIn ws (va_wsS own k y ws2)) (hw : ws2 = Jvm.Cond.code y bytes maxL ret :: ws')
    (hy : y.cls ≠ "java/lang/invoke/MethodHandle" ∧ y.cls ≠ "java/lang/invoke/VarHandle" ∧ (parseMethodDescriptor y.desc).map (fun d => d.parameters.length) = some n) (hRm : F + 1 ≤ R.frames ∧ 8 + (maxL + 11) + L ≤ R.locals) :
    xCR E (wD W9) vwCl (wY W9) A p l e R s m args below meth c nL (.invokestatic k) n ci sp := by
  obtain ⟨hx, hml, hown, hts, hlaw, hAmb, hA, hlocks, hext⟩ := X
  intro pc len H locs ls lv av rest S cs ss KF hd hxl hlen hlv hR hO hS hrc hcat b1 b2 hv kk kx
  cases hxl
  have hM' := hM av S H.size KF hv
  have hrun := vx_runS (l := l) (e := e) (below := below) (meth := meth) (H := H) (locs := locs) (cells := cs) (slots := ss) (As := av) (rest := rest) (g := F0 m pc ls (av.reverse ++ rest)) ⟨hx, rfl, hml, hown, hts⟩ hM' (va_cwS n hts hg hw rfl rfl hy hRm)
    ⟨xPc_blind, fun U hU hW => xpre hA hAmb hR hO hS U hU hW⟩ rfl hlen hlv.1 rfl (lv_room hcat) hd ⟨b1, b2⟩
  exact xcr_go (sp := sp) (av := av) hlv hO hA hS hrun kk kx
theorem xCR_I {y : MethodName} {ws2 ws' : List Jvm.Cond} {F L k ci n maxL : Nat} {bytes : ByteArray} {sp : xSp σ} (X : xCtx W9 E df A p R s m args meth c nL own ws) (hM : xSem l W9 (eI E) y ws2 F L sp) (hg : GoodIn ws ws2) (hw : ws2 = Jvm.Cond.code y bytes maxL none :: ws') (hini : Jvm.Cond.initialized y.cls ∈ ws) (hl : Jvm.Cond.methodLink own k y ∈ ws) (hin : Jvm.Cond.instanceMethod y ∈ ws) (hy1 : y.name = "<init>")
    (hrf : ∀ av S KF, sp.2 av S KF → ∃ b As, av = Value.ref b :: As)
    (hy : y.cls ≠ "java/lang/invoke/MethodHandle" ∧ y.cls ≠ "java/lang/invoke/VarHandle" ∧ (parseMethodDescriptor y.desc).map (fun d => d.parameters.length) = some n) (hRm : F + 1 ≤ R.frames ∧ 8 + (maxL + 11) + L ≤ R.locals) :
    xCR E (wD W9) vwCl (wY W9) A p l e R s m args below meth c nL (.invokespecial k) (n + 1) ci sp := by
  obtain ⟨hx, hml, hown, hts, hlaw, hAmb, hA, hlocks, hext⟩ := X
  intro pc len H locs ls lv av rest S cs ss KF hd hxl hlen hlv hR hO hS hrc hcat b1 b2 hv kk kx
  cases hxl
  obtain ⟨b, As, rfl⟩ := hrf av S KF hv
  have hM' := hM (.ref b :: As) S H.size KF hv
  have hrun := vx_runI (l := l) (e := e) (below := below) (meth := meth) (H := H) (locs := locs) (cells := cs) (slots := ss) (As := As) (rest := rest) (b := b) (g := F0 m pc ls ((Value.ref b :: As).reverse ++ rest)) ⟨hx, rfl, hml, hown, hts⟩ hM' (cwI n hts hg hw rfl rfl (hts _ hini) (hts _ hl) (hts _ hin) hy1 hy hRm)
    ⟨xPc_blind, fun U hU hW => xpre hA hAmb hR hO hS U hU hW⟩ rfl (by simpa using hlen) hlv.1 (by simp) (lv_room hcat) hd ⟨b1, b2⟩
  exact xcr_go (sp := sp) (av := .ref b :: As) hlv hO hA hS hrun kk kx
theorem xCR_IN {y : MethodName} {ws2 ws' : List Jvm.Cond} {F L k ci n maxL : Nat} {bytes : ByteArray} {host : String} {sp : xSp σ} (X : xCtx W9 E df A p R s m args meth c nL own ws) (hM : xSem l W9 (eI E) y ws2 F L sp) (hg : GoodIn ws ws2) (hw : ws2 = Jvm.Cond.code y bytes maxL none :: ws') (hini : Jvm.Cond.initialized y.cls ∈ ws) (hl : va_Nw (.methodLinkNest own k y host) s) (hin : Jvm.Cond.instanceMethod y ∈ ws) (hy1 : y.name = "<init>")
    (hrf : ∀ av S KF, sp.2 av S KF → ∃ b As, av = Value.ref b :: As)
    (hy : y.cls ≠ "java/lang/invoke/MethodHandle" ∧ y.cls ≠ "java/lang/invoke/VarHandle" ∧ (parseMethodDescriptor y.desc).map (fun d => d.parameters.length) = some n) (hRm : F + 1 ≤ R.frames ∧ 8 + (maxL + 11) + L ≤ R.locals) :
    xCR E (wD W9) vwCl (wY W9) A p l e R s m args below meth c nL (.invokespecial k) (n + 1) ci sp := by
  obtain ⟨hx, hml, hown, hts, hlaw, hAmb, hA, hlocks, hext⟩ := X
  intro pc len H locs ls lv av rest S cs ss KF hd hxl hlen hlv hR hO hS hrc hcat b1 b2 hv kk kx
  cases hxl
  obtain ⟨b, As, rfl⟩ := hrf av S KF hv
  have hM' := hM (.ref b :: As) S H.size KF hv
  have hrun := vx_runIN (l := l) (e := e) (below := below) (meth := meth) (H := H) (locs := locs) (cells := cs) (slots := ss) (As := As) (rest := rest) (b := b) (g := F0 m pc ls ((Value.ref b :: As).reverse ++ rest)) ⟨hx, rfl, hml, hown, hts⟩ hM' ⟨va_cnB n hts hg hw rfl rfl hl (hts _ hini) hy hRm, hy1, hts _ hin⟩
    ⟨xPc_blind, fun U hU hW => xpre hA hAmb hR hO hS U hU hW⟩ rfl (by simpa using hlen) hlv.1 (by simp) (lv_room hcat) hd ⟨b1, b2⟩
  exact xcr_go (sp := sp) (av := .ref b :: As) hlv hO hA hS hrun kk kx
/-- Object's own constructor -/
def spObj (σ : Type) : xSp σ := (fun _ _ => (0, 0), fun av S K => (∃ a, av = [.ref a]) ∧ K (.inl none) S)
theorem xCR_obj {k ci : Nat} (X : xCtx W9 E df A p R s m args meth c nL own ws) (hl : Jvm.Cond.methodLink own k objectInit ∈ ws) (hin : Jvm.Cond.instanceMethod objectInit ∈ ws) (hcd : Jvm.Cond.code objectInit ⟨#[0xb1]⟩ 1 none ∈ ws) (hRm : 1 ≤ R.frames ∧ 20 ≤ R.locals) :
    xCR E (wD W9) vwCl (wY W9) A p l e R s m args below meth c nL (.invokespecial k) 1 ci (spObj σ) := by
  obtain ⟨hx, hml, hown, hts, hlaw, hAmb, hA, hlocks, hext⟩ := X
  intro pc len H locs ls lv av rest S cs ss KF hd hxl hlen hlv hR hO hS hrc hcat b1 b2 hv kk kx
  cases hxl
  obtain ⟨⟨a, rfl⟩, hv⟩ := hv
  refine W.objInit hx rfl hown (hts _ hl) (hts _ hin) (hts _ hcd) rfl (by rw [hml]; exact hlv.1) rfl hd hRm.1 ?_ ?_
  · have h := lv_room (m := m) (pc := pc) (ls := ls) (rest := []) (st := rest) hcat
    exact Nat.le_trans (Nat.add_le_add_right h 12) hRm.2
  · exact kk none S hv H locs ls hlv hR hO hS
end XC
def xCallsOK (l : Launch) (W9 : xWd) {σ : Type} (I : xRI σ) (call : Nat → Option (xSp σ)) (calls : List (Instr × Nat × Nat × Nat)) (own : String) (ws : List Jvm.Cond) (F L nL : Nat) : Prop :=
  ∀ (E : xEnv σ) (A : Nat → Prop) (p : Program) (e : Env) (R : Room) (s : State) (m : MethodId) (args : Array Value) (below : List Frame) (meth : Method) (c : Code), eI E = I → R.frames = F → R.locals = L → xCtx W9 E cDf A p R s m args meth c nL own ws →
    ∀ q ∈ calls, ∃ sp, call q.2.1 = some sp ∧ xCR E (wD W9) vwCl (wY W9) A p l e R s m args below meth c nL q.1 q.2.2.1 q.2.2.2 sp
def xThrOK (l : Launch) (W9 : xWd) (thrf : Nat → String) (thr : List (Nat × Nat)) (own : String) (cc : ByteArray) (ws : List Jvm.Cond) (F L nL : Nat) : Prop :=
  ∀ (A : Nat → Prop) (p : Program) (e : Env) (R : Room) (s : State) (m : MethodId) (args : Array Value) (below : List Frame) (meth : Method) (c : Code), R.frames = F → R.locals = L → c.code = cc → p.tables.exec = Jvm.exec → c.maxLocals = nL → s.vm.findClass own = some m.cls → (∀ w ∈ ws, w.before args s = true) → xAmb W9 A s s.heap → meth.locks = false → (∀ x ∈ c.exceptionTable.toList, False) →
    ∀ q ∈ thr, xTR A p l e R s m args below meth c nL q.1 (thrf q.2)
/-- what a goal at a place is closed under -/
def xClosed {σ : Type} (I : xRI σ) (call : Nat → Option (xSp σ)) (thrf : Nat → String) (mc ms : Nat) (KF : xRes → σ → Prop) (rows : List (Nat × xHint)) (G : xGo σ) : Prop :=
  (∀ pc mb lv st S cs ss, G pc (xmask mb lv) st S cs ss → G pc lv st S cs ss) ∧
  (∀ (J : Nat → Option (List Bool × (xLv → List Value → σ → Nat → Nat → Prop))) (n pc : Nat) (lv : xLv) (st : List Value) (S : σ) (cs ss : Nat), (∀ pc mb P, J pc = some (mb, P) → ∀ lv st S cs ss, P lv st S cs ss → G pc lv st S cs ss) →
    xst (I, call, fun _ _ => none, thrf, mc, ms, KF, xFind rows, J) (xvR (I, call, fun _ _ => none, thrf, mc, ms, KF, xFind rows, J) n) pc lv st S cs ss → G pc lv st S cs ss)
def xEntry (n : Nat) (av : List Value) : xLv := av.map some ++ List.replicate (n - av.length) none
theorem xargs_mem : ∀ (av : List Value) (i : Nat), (∀ v ∈ av, v.category = 1) → ∀ (j : Nat) (v : Value), av[j]? = some v → (i + j, v) ∈ lv_args i av
  | [], i, _, j, v, h => by simp at h
  | a :: av, i, hc, j, v, h => by
    have ha := hc a List.mem_cons_self
    unfold lv_args
    rw [if_neg (by omega)]
    cases j with
    | zero =>
      simp at h
      subst h
      exact List.mem_cons_self
    | succ j =>
      refine List.mem_cons_of_mem _ ?_
      have h1 := xargs_mem av (i + 1) (fun v hv => hc v (List.mem_cons_of_mem _ hv)) j v (by simpa using h)
      rw [show i + (j + 1) = i + 1 + j by omega]
      exact h1
theorem xsl_len : ∀ (av : List Value), (∀ v ∈ av, v.category = 1) → (lg_sl av).length = av.length
  | [], _ => rfl
  | a :: av, hc => by
    have ha := hc a List.mem_cons_self
    have ih := xsl_len av (fun v hv => hc v (List.mem_cons_of_mem _ hv))
    unfold lg_sl at ih ⊢
    rw [List.flatMap_cons, List.length_append, ih, if_neg (by omega)]
    simp
    omega
theorem xentry_ok {av : List Value} {n : Nat} (hc : ∀ v ∈ av, v.category = 1) (hn : av.length ≤ n) : xLok ((lg_sl av ++ List.replicate (n - (lg_sl av).length) Slot.unset).toArray) n (xEntry n av) := by
  have h := lv_entry av (n := n) (by rw [xsl_len av hc]; exact hn)
  refine ⟨h.1, h.2.1, fun i v hi => ?_⟩
  unfold xEntry at hi
  by_cases hl : i < av.length
  · rw [List.getElem?_append_left (by rw [List.length_map]; exact hl), List.getElem?_map] at hi
    cases e : av[i]? with
    | none => rw [e] at hi; cases hi
    | some w =>
      rw [e] at hi
      simp at hi
      subst hi
      have hm := xargs_mem av 0 hc i w e
      rw [Nat.zero_add] at hm
      exact ⟨h.2.2 _ hm, hc w (List.mem_of_getElem? e)⟩
  · rw [List.getElem?_append_right (by rw [List.length_map]; omega), List.getElem?_replicate] at hi
    split at hi <;> cases hi
theorem xcl_ok : ∀ (ci : Nat) (C : String) (T : u_T) (N : Nat), vwCl[ci]? = some (C, T, N) → ∃ ty0 : Nat → FieldType, (∀ k, k < N → parseFieldDescriptor (T k).2.2.1 = some (ty0 k)) ∧ (∀ a, a < N → ∀ b, b < N → a ≠ b → (T a).2.1 ≠ (T b).2.1) ∧ (∀ j, j < N → defaultValue (ty0 j) = vp_V (cDf ci) j) := by
  intro ci C T N h
  match ci, h with
  | 0, h =>
    cases h
    exact ⟨tyJx4a65c, tyJx4a65c_ok, nmJx4a65c, by decide +kernel⟩
  | 1, h =>
    cases h
    exact ⟨tyX0, tyX0_ok, nmX0, by decide +kernel⟩
  | 2, h =>
    cases h
    exact ⟨tyX1, tyX1_ok, nmX1, by decide +kernel⟩
  | 3, h =>
    cases h
    exact ⟨tyX2, tyX2_ok, nmX2, by decide +kernel⟩
  | 4, h =>
    cases h
    exact ⟨tyX3, tyX3_ok, nmX3, by decide +kernel⟩
  | 5, h =>
    cases h
    exact ⟨tyX4, tyX4_ok, nmX4, by decide +kernel⟩
  | 6, h =>
    cases h
    exact ⟨tyX5, tyX5_ok, nmX5, by decide +kernel⟩
  | 7, h =>
    cases h
    exact ⟨tyX6, tyX6_ok, nmX6, by decide +kernel⟩
  | 8, h =>
    cases h
    exact ⟨tyX7, tyX7_ok, nmX7, by decide +kernel⟩
  | 9, h =>
    cases h
    exact ⟨tyX8, tyX8_ok, nmX8, by decide +kernel⟩
  | k + 10, h => simp [vwCl] at h
theorem xSem_of {l : Launch} {W9 : xWd} {σ : Type} {I : xRI σ} {y : MethodName} {ws ws' : List Jvm.Cond} {F L maxL : Nat} {sp : xSp σ} {bytes : ByteArray} {ret : Option FieldType} {rows : List (Nat × xHint)} {uc : List Nat} {calls : List (Instr × Nat × Nat × Nat)} {thr : List (Nat × Nat)} {call : Nat → Option (xSp σ)} {thrf : Nat → String}
    (hlaw : xLaw I cDf) (hy : plainName y.cls = true) (hw : ws = Jvm.Cond.code y bytes maxL ret :: ws')
    (hrows : rows.all (xRow y.cls bytes ws vwCl uc calls thr maxL (y.name == "<init>") ret) = true) (huse : xUse ws vwCl uc = true)
    (hcalls : xCallsOK l W9 I call calls y.cls ws F L maxL) (hthr : xThrOK l W9 thrf thr y.cls bytes ws F L maxL)
    (hav : ∀ av S KF, sp.2 av S KF → (∀ v ∈ av, v.category = 1) ∧ av.length ≤ maxL)
    (hbody : ∀ av S KF, sp.2 av S KF → ∀ G : xGo σ, xClosed I call thrf (sp.1 av S).1 (sp.1 av S).2 KF rows G → G 0 (xEntry maxL av) [] S 0 0) : xSem l W9 I y ws F L sp := by
  intro av S sz KF hsp
  obtain ⟨hc1, hc2⟩ := hav av S KF hsp
  refine vx_ofW (cc := bytes) (maxL := maxL) (ret := ret) hy hw ?_
  intro p e s m args below meth c s₁ B hml hext hv
  obtain ⟨rfl, hsz, hR, hAmb⟩ := hv
  subst hsz
  have hts := atoms_spec (ws := ws) B.pre
  have hown : s.vm.findClass y.cls = some m.cls := findClass_of_methodNamed B.named
  have hnm : meth.name = y.name := (name_of_methodNamed B.named B.method).1
  have hA : ∀ q : Nat, s.heap.size ≤ q → xReg I (wY W9) S s.heap.size q := fun q h => Or.inr h
  have hO : xOwn I (wY W9) S (xReg I (wY W9) S s.heap.size) := fun a x h => Or.inl ⟨x, h⟩
  have X : xCtx W9 (I, call, fun _ _ => none, thrf, (sp.1 av S).1, (sp.1 av S).2, KF, xFind rows, fun _ => none) cDf (xReg I (wY W9) S s.heap.size) p (headSpec ws { frames := F, cells := (sp.1 av S).1, slots := (sp.1 av S).2, locals := L }).room s m av.toArray meth c maxL y.cls ws :=
    ⟨B.exec, hml, hown, hts, hlaw, hAmb, hA, B.notSynchronized, hext⟩
  have hG := hbody av S KF hsp (xWG (I, call, fun _ _ => none, thrf, (sp.1 av S).1, (sp.1 av S).2, KF, xFind rows, fun _ => none) (wD W9) vwCl (wY W9) (xReg I (wY W9) S s.heap.size) p l e (headSpec ws { frames := F, cells := (sp.1 av S).1, slots := (sp.1 av S).2, locals := L }).room s m av.toArray below meth c maxL) ⟨fun pc mb lv st S cs ss h => xWG_mask h, fun J n pc lv st S' cs ss hJ hst => ?_⟩
  · rw [lg_entry_eq]
    exact hG s.heap [] _ (xentry_ok hc1 hc2) hR hO va_S.rf
  · refine xst_ok (E := (I, call, fun _ _ => none, thrf, (sp.1 av S).1, (sp.1 av S).2, KF, xFind rows, J)) (df := cDf) (own := y.cls) (ws := ws) (rows := rows) (uc := uc) (calls := calls) (thr := thr) ⟨B.exec, hown, B.notSynchronized, hts, hlaw, xcl_ok, hAmb.1, hA, rfl, rfl, ?_, huse, fun _ => rfl, ?_, ?_, ?_⟩ ?_ n pc lv st S' cs ss hst
    · rw [B.bytes, hnm, B.returns]
      exact hrows
    · exact hcalls (I, call, fun _ _ => none, thrf, (sp.1 av S).1, (sp.1 av S).2, KF, xFind rows, J) _ p e _ s m av.toArray below meth c rfl rfl rfl ⟨B.exec, hml, hown, hts, hlaw, hAmb, hA, B.notSynchronized, hext⟩
    · exact hthr _ p e _ s m av.toArray below meth c rfl rfl B.bytes B.exec hml hown hts hAmb B.notSynchronized hext
    · exact fun pc ex => ⟨fun _ x hx => (hext x hx).elim, fun t ht => by cases ht⟩
    · intro pc mb P hJP lv st S cs ss h lv0 hl
      subst hl
      exact xWG_mask (hJ pc mb P hJP _ st S cs ss h)
theorem xThrOK_nil {l : Launch} {W9 : xWd} {thrf : Nat → String} {own : String} {cc : ByteArray} {ws : List Jvm.Cond} {F L nL : Nat} : xThrOK l W9 thrf [] own cc ws F L nL := by
  intro _ _ _ _ _ _ _ _ _ _ _ _ _ _ _ _ _ _ _ _ q hq
  cases hq
theorem xCallsOK_nil {l : Launch} {W9 : xWd} {σ : Type} {I : xRI σ} {call : Nat → Option (xSp σ)} {own : String} {ws : List Jvm.Cond} {F L nL : Nat} : xCallsOK l W9 I call [] own ws F L nL := by
  intro _ _ _ _ _ _ _ _ _ _ _ _ _ _ _ q hq
  cases hq
/-- 'throw new E("text")' in a method of the class itself -/
theorem xTR_SW {l : Launch} (hl : l.stackTraces = false) {W9 : xWd} {A : Nat → Prop} {p : Program} {e : Env} {R : Room} {s : State} {m : MethodId} {args : Array Value} {below : List Frame} {meth : Method} {c : Code} {nL pc ik is ic : Nat} {cls text : String} {cc : ByteArray} {ws : List Jvm.Cond}
    (hx : p.tables.exec = Jvm.exec) (hb : c.code = cc) (hml : c.maxLocals = nL) (hown : s.vm.findClass RX7 = some m.cls) (hts : ∀ w ∈ ws, w.before args s = true) (hAmb : xAmb W9 A s s.heap) (hlocks : meth.locks = false) (hext : ∀ x ∈ c.exceptionTable.toList, False)
    (hcls : Bundle.fit cls = true) (hk : Jvm.Cond.classLink RX7 ik cls ∈ ws) (hini : Jvm.Cond.initialized cls ∈ ws) (hstr : (is, text) ∈ xStrs)
    (hat : ∀ w ∈ (vx_atS RX7 ic cls ["java/lang/RuntimeException", "java/lang/Exception"]).filter goodWord, w ∈ ws) (hng : ((vx_atS RX7 ic cls ["java/lang/RuntimeException", "java/lang/Exception"]).filter (fun w => !goodWord w)).all (fun w => decide (w ∈ xExtra)) = true) (hgood : (Jvm.Cond.classLink RX7 ik cls :: Jvm.Cond.initialized cls :: vx_atS RX7 ic cls ["java/lang/RuntimeException", "java/lang/Exception"]).all vx_ot = true)
    (d0 : decode cc pc = .ok (.new ik, 3)) (d3 : decode cc (pc + 3) = .ok (.dup, 1)) (d4 : decode cc (pc + 4) = .ok (.ldc_w is, 3)) (d7 : decode cc (pc + 7) = .ok (.invokespecial ic, 3)) (d10 : decode cc (pc + 10) = .ok (.athrow, 1)) (hRm : 6 ≤ R.frames ∧ 90 ≤ R.locals) :
    xTR A p l e R s m args below meth c nL pc cls := by
  intro Qc XC mc ms H locs ls rest cs ss hsz hS hcat b1 b2 b3 b4 hX
  exact vx_throwSW (A := A) (names := ["java/lang/RuntimeException", "java/lang/Exception"]) hx hb hl hown hcls (by decide +kernel) (hts _ hk) (hts _ hini) (hAmb.2.1 _ hstr) (vx_hat (fun w hw => hts _ (hat w hw)) (fun w hw => by simpa using List.all_eq_true.mp hng w hw) (xExtra_use hAmb.2.2.2.2.1.2.2)) (fun w hw => List.all_eq_true.mp hgood w hw) hAmb.2.2.1 hAmb.2.2.2.1 hS (by rw [hsz, hml]) d0 d3 d4 d7 d10 (fun x hx => (hext x hx).elim)
    (by show 2 + 3 < R.frames; omega) (by show _ + (13 * (2 + 1) + 43) ≤ R.locals; omega) b1 b2 hlocks hX hS.2.2 b3 b4
theorem xTR_S {l : Launch} (hl : l.stackTraces = false) {W9 : xWd} {A : Nat → Prop} {p : Program} {e : Env} {R : Room} {s : State} {m : MethodId} {args : Array Value} {below : List Frame} {meth : Method} {c : Code} {nL pc ik is ic : Nat} {cls text : String} {cc : ByteArray} {ws : List Jvm.Cond}
    (hx : p.tables.exec = Jvm.exec) (hb : c.code = cc) (hml : c.maxLocals = nL) (hown : s.vm.findClass RX7 = some m.cls) (hts : ∀ w ∈ ws, w.before args s = true) (hAmb : xAmb W9 A s s.heap) (hlocks : meth.locks = false) (hext : ∀ x ∈ c.exceptionTable.toList, False)
    (hcls : Bundle.fit cls = true) (hk : Jvm.Cond.classLink RX7 ik cls ∈ ws) (hini : Jvm.Cond.initialized cls ∈ ws) (hstr : (is, text) ∈ xStrs)
    (hat : ∀ w ∈ (vx_atS RX7 ic cls ["java/lang/RuntimeException", "java/lang/Exception"]).filter goodWord, w ∈ ws) (hng : ((vx_atS RX7 ic cls ["java/lang/RuntimeException", "java/lang/Exception"]).filter (fun w => !goodWord w)).all (fun w => decide (w ∈ xExtra)) = true) (hgood : (Jvm.Cond.classLink RX7 ik cls :: Jvm.Cond.initialized cls :: vx_atS RX7 ic cls ["java/lang/RuntimeException", "java/lang/Exception"]).all vx_ot = true)
    (d0 : decode cc pc = .ok (.new ik, 3)) (d3 : decode cc (pc + 3) = .ok (.dup, 1)) (d4 : decode cc (pc + 4) = .ok (.ldc is, 2)) (d6 : decode cc (pc + 6) = .ok (.invokespecial ic, 3)) (d9 : decode cc (pc + 9) = .ok (.athrow, 1)) (hRm : 6 ≤ R.frames ∧ 90 ≤ R.locals) :
    xTR A p l e R s m args below meth c nL pc cls := by
  intro Qc XC mc ms H locs ls rest cs ss hsz hS hcat b1 b2 b3 b4 hX
  exact vx_throwS (A := A) (names := ["java/lang/RuntimeException", "java/lang/Exception"]) hx hb hl hown hcls (by decide +kernel) (hts _ hk) (hts _ hini) (hAmb.2.1 _ hstr) (vx_hat (fun w hw => hts _ (hat w hw)) (fun w hw => by simpa using List.all_eq_true.mp hng w hw) (xExtra_use hAmb.2.2.2.2.1.2.2)) (fun w hw => List.all_eq_true.mp hgood w hw) hAmb.2.2.1 hAmb.2.2.2.1 hS (by rw [hsz, hml]) d0 d3 d4 d6 d9 (fun x hx => (hext x hx).elim)
    (by show 2 + 3 < R.frames; omega) (by show _ + (13 * (2 + 1) + 43) ≤ R.locals; omega) b1 b2 hlocks hX hS.2.2 b3 b4
theorem xng_1 : ((vx_atS RX7 175 "java/lang/IllegalStateException" ["java/lang/RuntimeException", "java/lang/Exception"]).filter (fun w => !goodWord w)).all (fun w => decide (w ∈ xExtra)) = true := by decide +kernel
theorem xgood_1 : (Jvm.Cond.classLink RX7 171 "java/lang/IllegalStateException" :: Jvm.Cond.initialized "java/lang/IllegalStateException" :: vx_atS RX7 175 "java/lang/IllegalStateException" ["java/lang/RuntimeException", "java/lang/Exception"]).all vx_ot = true := by decide +kernel
