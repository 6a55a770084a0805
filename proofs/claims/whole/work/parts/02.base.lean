/-! The abstract machine: a step function over Instr, whose continuations are propositions; it is sound for W. -/
abbrev xLv : Type := List (Option Value)
abbrev xRes : Type := Option Value ⊕ String
/-- a callee's behaviour: cost, and weakest precondition over its arguments and the state -/
abbrev xSp (σ : Type) : Type := (List Value → σ → Nat × Nat) × (List Value → σ → (xRes → σ → Prop) → Prop)
/-- how states are represented: cells; then what may be asked and done -/
abbrev xRI (σ : Type) : Type :=
  (σ → (Nat → ClassId) → Nat → Option va_E) × (σ → Nat → Nat → Prop) × (σ → Nat → Nat → Nat → (Value → Prop) → Prop) × (σ → Nat → Nat → Nat → Value → (σ → Prop) → Prop) ×
  (σ → Nat → Nat → Nat → Int32 → (Value → Prop) → Prop) × (σ → Nat → Nat → Nat → Int32 → Value → (σ → Prop) → Prop) × (σ → Nat → Nat → Nat → (Nat → Prop) → Prop) ×
  (σ → Nat → (Nat → σ → Prop) → Prop) × (σ → Nat → Nat → (Nat → σ → Prop) → Prop)
abbrev xCell {σ : Type} (I : xRI σ) := I.1
abbrev xIsa {σ : Type} (I : xRI σ) := I.2.1
abbrev xGet {σ : Type} (I : xRI σ) := I.2.2.1
abbrev xPut {σ : Type} (I : xRI σ) := I.2.2.2.1
abbrev xAld {σ : Type} (I : xRI σ) := I.2.2.2.2.1
abbrev xAst {σ : Type} (I : xRI σ) := I.2.2.2.2.2.1
abbrev xAlen {σ : Type} (I : xRI σ) := I.2.2.2.2.2.2.1
abbrev xNew {σ : Type} (I : xRI σ) := I.2.2.2.2.2.2.2.1
abbrev xNewa {σ : Type} (I : xRI σ) := I.2.2.2.2.2.2.2.2
/-- array kinds: 0 int, 1 boolean, 2 Object, 3 long -/
def xTy (z : Nat) : FieldType := match z with
  | 0 => .int
  | 1 => .boolean
  | 2 => .object "java/lang/Object"
  | _ => .long
def vRef (v : Value) : Bool := match v with
  | .null => true
  | .ref _ => true
  | _ => false
theorem vRef_null : vRef .null = true := rfl
theorem vRef_ref (a : Nat) : vRef (.ref a) = true := rfl
theorem vRef_rf (r : Option Nat) : vRef (va_rf r) = true := by cases r <;> rfl
theorem vRef_ex {v : Value} (h : vRef v = true) : ∃ r : Option Nat, v = va_rf r := by
  cases v <;> first | exact ⟨none, rfl⟩ | exact ⟨some _, rfl⟩ | cases h
theorem vRef_cat {v : Value} (h : vRef v = true) : v.category = 1 := by
  obtain ⟨r, rfl⟩ := vRef_ex h
  cases r <;> rfl
/-- may v be stored where the type is ty -/
def vOk (ty : FieldType) (v : Value) : Prop := match ty, v with
  | .int, .int _ => True
  | .boolean, .int x => x = 0 ∨ x = 1
  | .object _, v => vRef v = true
  | .array _, v => vRef v = true
  | _, _ => False
theorem vOk_fit {ty : FieldType} {v : Value} (h : vOk ty v) : narrow ty v = v ∧ fits ty v = true := by
  cases ty <;> cases v <;> simp only [vOk, vRef] at h <;> first | exact ⟨rfl, rfl⟩ | (rcases h with rfl | rfl <;> exact ⟨rfl, rfl⟩) | (cases h)
def xld (lv : xLv) (i : Nat) : Option Value := match lv[i]? with
  | some (some v) => some v
  | _ => none
def xmask (mb : List Bool) (lv : xLv) : xLv := List.zipWith (fun b v => if b then v else none) mb lv
def xS1 (st : List Value) (k : Value → List Value → Prop) : Prop := match st with
  | v :: st => k v st
  | _ => False
def xSI (st : List Value) (k : Int32 → List Value → Prop) : Prop := match st with
  | .int x :: st => k x st
  | _ => False
def xSR (st : List Value) (k : Nat → List Value → Prop) : Prop := match st with
  | .ref a :: st => k a st
  | _ => False
def xLI (lv : xLv) (i : Nat) (k : Int32 → Prop) : Prop := match xld lv i with
  | some (.int x) => k x
  | _ => False
def xLR (lv : xLv) (i : Nat) (k : Value → Prop) : Prop := match xld lv i with
  | some v => vRef v = true ∧ k v
  | _ => False
theorem xS1_mk {v : Value} {st : List Value} {k : Value → List Value → Prop} : xS1 (v :: st) k = k v st := rfl
theorem xSI_mk {x : Int32} {st : List Value} {k : Int32 → List Value → Prop} : xSI (.int x :: st) k = k x st := rfl
theorem xSR_mk {a : Nat} {st : List Value} {k : Nat → List Value → Prop} : xSR (.ref a :: st) k = k a st := rfl
theorem xS1_ex {st : List Value} {k : Value → List Value → Prop} (h : xS1 st k) : ∃ v st', st = v :: st' ∧ k v st' := by
  cases st with
  | nil => cases h
  | cons v st => exact ⟨v, st, rfl, h⟩
theorem xSI_ex {st : List Value} {k : Int32 → List Value → Prop} (h : xSI st k) : ∃ x st', st = .int x :: st' ∧ k x st' := by
  cases st with
  | nil => cases h
  | cons v st => cases v <;> first | exact ⟨_, st, rfl, h⟩ | cases h
theorem xSR_ex {st : List Value} {k : Nat → List Value → Prop} (h : xSR st k) : ∃ a st', st = .ref a :: st' ∧ k a st' := by
  cases st with
  | nil => cases h
  | cons v st => cases v <;> first | exact ⟨_, st, rfl, h⟩ | cases h
theorem xLI_ex {lv : xLv} {i : Nat} {k : Int32 → Prop} (h : xLI lv i k) : ∃ x, lv[i]? = some (some (.int x)) ∧ k x := by
  unfold xLI xld at h
  cases e : lv[i]? with
  | none => rw [e] at h; cases h
  | some o =>
    rw [e] at h
    cases o with
    | none => cases h
    | some v => cases v <;> first | exact ⟨_, rfl, h⟩ | cases h
theorem xLR_ex {lv : xLv} {i : Nat} {k : Value → Prop} (h : xLR lv i k) : ∃ v, lv[i]? = some (some v) ∧ vRef v = true ∧ k v := by
  unfold xLR xld at h
  cases e : lv[i]? with
  | none => rw [e] at h; cases h
  | some o =>
    rw [e] at h
    cases o with
    | none => cases h
    | some v => exact ⟨_, rfl, h⟩
theorem xLI_mk {lv : xLv} {i : Nat} {k : Int32 → Prop} {x : Int32} (e : lv[i]? = some (some (.int x))) : xLI lv i k = k x := by
  unfold xLI xld; rw [e]
theorem xLR_mk {lv : xLv} {i : Nat} {k : Value → Prop} {v : Value} (e : lv[i]? = some (some v)) : xLR lv i k = (vRef v = true ∧ k v) := by
  unfold xLR xld; rw [e]
/-- may v be stored: 0 int, 1 boolean, else a reference -/
def xOk (z : Nat) (v : Value) : Prop := match z, v with
  | 0, .int _ => True
  | 1, .int x => x = 0 ∨ x = 1
  | 0, _ => False
  | 1, _ => False
  | _, v => vRef v = true
def xTs (x : Int32) (n : Int) : List Nat → (Nat → Prop) → Prop
  | [], _ => True
  | t :: r, k => (x.toInt = n → k t) ∧ xTs x (n + 1) r k
/-- the machine's surroundings: representation, callees, handlers, room (cells, slots), the end, the table, the cuts -/
abbrev xHint : Type := Instr × Nat × Nat × Nat × List Nat
abbrev xGo (σ : Type) : Type := Nat → xLv → List Value → σ → Nat → Nat → Prop
abbrev xEnv (σ : Type) : Type := xRI σ × (Nat → Option (xSp σ)) × (Nat → String → Option Nat) × (Nat → String) × Nat × Nat × (xRes → σ → Prop) × (Nat → Option xHint) × (Nat → Option (List Bool × (xLv → List Value → σ → Nat → Nat → Prop)))
abbrev eI {σ : Type} (E : xEnv σ) := E.1
abbrev eCall {σ : Type} (E : xEnv σ) := E.2.1
abbrev eHd {σ : Type} (E : xEnv σ) := E.2.2.1
abbrev eThr {σ : Type} (E : xEnv σ) := E.2.2.2.1
abbrev eMc {σ : Type} (E : xEnv σ) := E.2.2.2.2.1
abbrev eMs {σ : Type} (E : xEnv σ) := E.2.2.2.2.2.1
abbrev eF {σ : Type} (E : xEnv σ) := E.2.2.2.2.2.2.1
abbrev eTab {σ : Type} (E : xEnv σ) := E.2.2.2.2.2.2.2.1
abbrev eCut {σ : Type} (E : xEnv σ) := E.2.2.2.2.2.2.2.2
def xX {σ : Type} (E : xEnv σ) (go : xGo σ) (pc : Nat) (lv : xLv) (S : σ) (cs ss : Nat) (ex : String) : Prop := match eHd E pc ex with
  | some t => ∀ q : Nat, go t lv [.ref q] S cs ss
  | none => eF E (.inr ex) S
def xRecv {σ : Type} (I : xRI σ) (S : σ) (ci : Nat) (as : List Value) : Prop := match as with
  | .ref b :: _ => ci = 99 ∨ xIsa I S ci b
  | _ => False
def xCall {σ : Type} (E : xEnv σ) (go : xGo σ) (pc len : Nat) (lv : xLv) (st : List Value) (S : σ) (cs ss : Nat) (n na : Nat) : Prop :=
  (List.take na st).length = na ∧ ((List.drop na st).map fun v => v.category).sum ≤ 8 ∧ match eCall E n with
  | some sp => cs + (sp.1 (List.take na st).reverse S).1 ≤ eMc E ∧ ss + (sp.1 (List.take na st).reverse S).2 ≤ eMs E ∧
      sp.2 (List.take na st).reverse S (fun r S' => match r with
        | .inl v => go (pc + len) lv (v.toList ++ List.drop na st) S' (cs + (sp.1 (List.take na st).reverse S).1) (ss + (sp.1 (List.take na st).reverse S).2)
        | .inr ex => xX E go pc lv S' (cs + (sp.1 (List.take na st).reverse S).1) (ss + (sp.1 (List.take na st).reverse S).2) ex)
  | none => False
def xvm {σ : Type} (E : xEnv σ) (go : xGo σ) (pc : Nat) (i : Instr) (h0 h1 h2 : Nat) (hl : List Nat) (lv : xLv) (st : List Value) (S : σ) (cs ss : Nat) : Prop := match i with
  | .iconst n => go (pc + 1) lv (.int (Int32.ofInt n) :: st) S cs ss
  | .bipush n => go (pc + 2) lv (.int (Int8.ofInt n).toInt32 :: st) S cs ss
  | .sipush n => go (pc + 3) lv (.int (Int16.ofInt n).toInt32 :: st) S cs ss
  | .ldc _ => match h1 with
    | 0 => go (pc + 2) lv (.int (nI h0) :: st) S cs ss
    | _ => xCall E go pc 2 lv st S cs ss h0 0
  | .ldc_w _ => go (pc + 3) lv (.int (nI h0) :: st) S cs ss
  | .getstatic _ => xCall E go pc 3 lv st S cs ss h0 0
  | .anewarray _ => xCall E go pc 3 lv st S cs ss h0 1
  | .aastore => xCall E go pc 1 lv st S cs ss h0 3
  | .aconst_null => go (pc + 1) lv (.null :: st) S cs ss
  | .iload_n _ => xLI lv h0 (fun x => go (pc + 1) lv (.int x :: st) S cs ss)
  | .iload _ => xLI lv h0 (fun x => go (pc + 2) lv (.int x :: st) S cs ss)
  | .aload_n _ => xLR lv h0 (fun v => go (pc + 1) lv (v :: st) S cs ss)
  | .aload _ => xLR lv h0 (fun v => go (pc + 2) lv (v :: st) S cs ss)
  | .istore_n _ => xSI st (fun x st => go (pc + 1) (lv.set h0 (some (.int x))) st S cs ss)
  | .istore _ => xSI st (fun x st => go (pc + 2) (lv.set h0 (some (.int x))) st S cs ss)
  | .astore_n _ => xS1 st (fun v st => vRef v = true ∧ go (pc + 1) (lv.set h0 (some v)) st S cs ss)
  | .astore _ => xS1 st (fun v st => vRef v = true ∧ go (pc + 2) (lv.set h0 (some v)) st S cs ss)
  | .iinc _ n => xLI lv h0 (fun x => go (pc + 3) (lv.set h0 (some (.int (x + Int32.ofInt n)))) st S cs ss)
  | .iadd => xSI st (fun y st => xSI st (fun x st => go (pc + 1) lv (.int (x + y) :: st) S cs ss))
  | .isub => xSI st (fun y st => xSI st (fun x st => go (pc + 1) lv (.int (x - y) :: st) S cs ss))
  | .imul => xSI st (fun y st => xSI st (fun x st => go (pc + 1) lv (.int (x * y) :: st) S cs ss))
  | .iand => xSI st (fun y st => xSI st (fun x st => go (pc + 1) lv (.int (x &&& y) :: st) S cs ss))
  | .ior => xSI st (fun y st => xSI st (fun x st => go (pc + 1) lv (.int (x ||| y) :: st) S cs ss))
  | .ixor => xSI st (fun y st => xSI st (fun x st => go (pc + 1) lv (.int (x ^^^ y) :: st) S cs ss))
  | .ishl => xSI st (fun y st => xSI st (fun x st => go (pc + 1) lv (.int (x <<< (y &&& 31)) :: st) S cs ss))
  | .ishr => xSI st (fun y st => xSI st (fun x st => go (pc + 1) lv (.int (x >>> (y &&& 31)) :: st) S cs ss))
  | .iushr => xSI st (fun y st => xSI st (fun x st => go (pc + 1) lv (.int ((x.toUInt32 >>> (y.toUInt32 &&& Int32.toUInt32 31)).toInt32) :: st) S cs ss))
  | .idiv => xSI st (fun y st => xSI st (fun x st => ¬ y = 0 ∧ go (pc + 1) lv (.int (x / y) :: st) S cs ss))
  | .irem => xSI st (fun y st => xSI st (fun x st => ¬ y = 0 ∧ go (pc + 1) lv (.int (x - x / y * y) :: st) S cs ss))
  | .ineg => xSI st (fun x st => go (pc + 1) lv (.int (-x) :: st) S cs ss)
  | .dup => xS1 st (fun v st => v.category = 1 ∧ go (pc + 1) lv (v :: v :: st) S cs ss)
  | .pop => xS1 st (fun v st => v.category = 1 ∧ go (pc + 1) lv st S cs ss)
  | .dup_x1 => xS1 st (fun a st => xS1 st (fun b st => (a.category = 1 ∧ b.category = 1) ∧ go (pc + 1) lv (a :: b :: a :: st) S cs ss))
  | .dup_x2 => xS1 st (fun a st => xS1 st (fun b st => xS1 st (fun d st => (a.category = 1 ∧ b.category = 1 ∧ d.category = 1) ∧ go (pc + 1) lv (a :: b :: d :: a :: st) S cs ss)))
  | .dup2 => xS1 st (fun a st => xS1 st (fun b st => (a.category = 1 ∧ b.category = 1) ∧ go (pc + 1) lv (a :: b :: a :: b :: st) S cs ss))
  | .ifCond .eq _ => xSI st (fun x st => (x = 0 → go h0 lv st S cs ss) ∧ (¬ x = 0 → go (pc + 3) lv st S cs ss))
  | .ifCond .ne _ => xSI st (fun x st => (¬ x = 0 → go h0 lv st S cs ss) ∧ (x = 0 → go (pc + 3) lv st S cs ss))
  | .ifCond .lt _ => xSI st (fun x st => (x < 0 → go h0 lv st S cs ss) ∧ (¬ x < 0 → go (pc + 3) lv st S cs ss))
  | .ifCond .ge _ => xSI st (fun x st => (0 ≤ x → go h0 lv st S cs ss) ∧ (¬ 0 ≤ x → go (pc + 3) lv st S cs ss))
  | .ifCond .gt _ => xSI st (fun x st => (0 < x → go h0 lv st S cs ss) ∧ (¬ 0 < x → go (pc + 3) lv st S cs ss))
  | .ifCond .le _ => xSI st (fun x st => (x ≤ 0 → go h0 lv st S cs ss) ∧ (¬ x ≤ 0 → go (pc + 3) lv st S cs ss))
  | .if_icmp .eq _ => xSI st (fun y st => xSI st (fun x st => (x = y → go h0 lv st S cs ss) ∧ (¬ x = y → go (pc + 3) lv st S cs ss)))
  | .if_icmp .ne _ => xSI st (fun y st => xSI st (fun x st => (¬ x = y → go h0 lv st S cs ss) ∧ (x = y → go (pc + 3) lv st S cs ss)))
  | .if_icmp .lt _ => xSI st (fun y st => xSI st (fun x st => (x < y → go h0 lv st S cs ss) ∧ (¬ x < y → go (pc + 3) lv st S cs ss)))
  | .if_icmp .ge _ => xSI st (fun y st => xSI st (fun x st => (y ≤ x → go h0 lv st S cs ss) ∧ (¬ y ≤ x → go (pc + 3) lv st S cs ss)))
  | .if_icmp .gt _ => xSI st (fun y st => xSI st (fun x st => (y < x → go h0 lv st S cs ss) ∧ (¬ y < x → go (pc + 3) lv st S cs ss)))
  | .if_icmp .le _ => xSI st (fun y st => xSI st (fun x st => (x ≤ y → go h0 lv st S cs ss) ∧ (¬ x ≤ y → go (pc + 3) lv st S cs ss)))
  | .if_acmp .eq _ => xS1 st (fun w st => xS1 st (fun v st => (vRef v = true ∧ vRef w = true) ∧ (v = w → go h0 lv st S cs ss) ∧ (¬ v = w → go (pc + 3) lv st S cs ss)))
  | .if_acmp .ne _ => xS1 st (fun w st => xS1 st (fun v st => (vRef v = true ∧ vRef w = true) ∧ (¬ v = w → go h0 lv st S cs ss) ∧ (v = w → go (pc + 3) lv st S cs ss)))
  | .ifnull _ => xS1 st (fun v st => vRef v = true ∧ (v = .null → go h0 lv st S cs ss) ∧ (¬ v = .null → go (pc + 3) lv st S cs ss))
  | .ifnonnull _ => xS1 st (fun v st => vRef v = true ∧ (¬ v = .null → go h0 lv st S cs ss) ∧ (v = .null → go (pc + 3) lv st S cs ss))
  | .goto _ => go h0 lv st S cs ss
  | .tableswitch _ lo hi _ => xSI st (fun x st => (x.toInt < lo ∨ hi < x.toInt → go h0 lv st S cs ss) ∧ xTs x lo hl (fun t => go t lv st S cs ss))
  | .getfield _ => xSR st (fun a st => xGet (eI E) S h0 h1 a (fun v => go (pc + 3) lv (v :: st) S cs ss))
  | .putfield _ => xS1 st (fun v st => xSR st (fun a st => xOk h2 v ∧ xPut (eI E) S h0 h1 a v (fun S' => go (pc + 3) lv st S' cs ss)))
  | .iaload => match h2 with
    | 0 => xSI st (fun i st => xSR st (fun a st => xAld (eI E) S h0 0 a i (fun v => go (pc + 1) lv (v :: st) S cs ss)))
    | _ => xCall E go pc 1 lv st S cs ss h0 2
  | .baload => xSI st (fun i st => xSR st (fun a st => xAld (eI E) S h0 1 a i (fun v => go (pc + 1) lv (v :: st) S cs ss)))
  | .aaload => xSI st (fun i st => xSR st (fun a st => xAld (eI E) S h0 2 a i (fun v => go (pc + 1) lv (v :: st) S cs ss)))
  | .iastore => xSI st (fun x st => xSI st (fun i st => xSR st (fun a st => xAst (eI E) S h0 0 a i (.int x) (fun S' => go (pc + 1) lv st S' cs ss))))
  | .bastore => xSI st (fun x st => xSI st (fun i st => xSR st (fun a st => (x = 0 ∨ x = 1) ∧ xAst (eI E) S h0 1 a i (.int x) (fun S' => go (pc + 1) lv st S' cs ss))))
  | .arraylength => match h2 with
    | 0 => xSR st (fun a st => xAlen (eI E) S h0 h1 a (fun n => go (pc + 1) lv (.int (Int32.ofNat n) :: st) S cs ss))
    | _ => xCall E go pc 1 lv st S cs ss h0 1
  | .lconst _ => xCall E go pc 1 lv st S cs ss h0 0
  | .i2l => xCall E go pc 1 lv st S cs ss h0 1
  | .laload => xCall E go pc 1 lv st S cs ss h0 2
  | .lastore => xCall E go pc 1 lv st S cs ss h0 3
  | .lcmp => xCall E go pc 1 lv st S cs ss h0 2
  | .checkcast _ => xSR st (fun a st => xIsa (eI E) S h0 a ∧ go (pc + 3) lv (.ref a :: st) S cs ss)
  | .new _ => match h0 with
    | 0 => cs + 1 ≤ eMc E ∧ ss + h2 ≤ eMs E ∧ xNew (eI E) S h1 (fun q S' => go (pc + 3) lv (.ref q :: st) S' (cs + 1) (ss + h2))
    | _ => (st.map fun v => v.category).sum ≤ 8 ∧ cs + 1 ≤ eMc E ∧ ss + 6 ≤ eMs E ∧ eF E (.inr (eThr E h1)) S
  | .newarray _ => match h2 with
    | 0 => xSI st (fun n st => (¬ n < 0 ∧ n.toNatClampNeg ≤ 65536) ∧ cs + 1 ≤ eMc E ∧ ss + n.toNatClampNeg ≤ eMs E ∧ xNewa (eI E) S h0 n.toNatClampNeg (fun q S' => go (pc + 2) lv (.ref q :: st) S' (cs + 1) (ss + n.toNatClampNeg)))
    | _ => xCall E go pc 2 lv st S cs ss h0 1
  | .invokevirtual _ => xRecv (eI E) S h2 (List.take h1 st).reverse ∧ xCall E go pc 3 lv st S cs ss h0 h1
  | .invokestatic _ => xCall E go pc 3 lv st S cs ss h0 h1
  | .invokespecial _ => xCall E go pc 3 lv st S cs ss h0 h1
  | .ireturn => xSI st (fun x st => st = [] ∧ (h0 = 1 → x = 0 ∨ x = 1) ∧ cs ≤ eMc E ∧ ss ≤ eMs E ∧ eF E (.inl (some (.int x))) S)
  | .areturn => xS1 st (fun v st => st = [] ∧ vRef v = true ∧ cs ≤ eMc E ∧ ss ≤ eMs E ∧ eF E (.inl (some v)) S)
  | .return_ => st = [] ∧ cs ≤ eMc E ∧ ss ≤ eMs E ∧ eF E (.inl none) S
  | _ => False
def xst {σ : Type} (E : xEnv σ) (go : xGo σ) : xGo σ := fun pc lv st S cs ss => match eTab E pc with
  | some (i, h0, h1, h2, hl) => xvm E go pc i h0 h1 h2 hl lv st S cs ss
  | none => False
def xvR {σ : Type} (E : xEnv σ) : Nat → xGo σ
  | 0 => fun _ _ _ _ _ _ => False
  | n + 1 => fun pc lv st S cs ss => match eCut E pc with
    | some (mb, P) => P (xmask mb lv) st S cs ss
    | none => xst E (xvR E n) pc lv st S cs ss
def xRep {σ : Type} (I : xRI σ) (D : va_G) (cl : List vw_C) (Y : Nat → ClassId) (S : σ) (H : Heap) : Prop := ∀ a e, xCell I S Y a = some e → va_at D cl (a, e) H
def xOwn {σ : Type} (I : xRI σ) (Y : Nat → ClassId) (S : σ) (A : Nat → Prop) : Prop := ∀ a e, xCell I S Y a = some e → A a
/-- what a representation owes -/
def xLaw {σ : Type} (I : xRI σ) (df : Nat → List Value) : Prop := ∀ (S : σ) (Y : Nat → ClassId),
  (∀ ci a, xIsa I S ci a → ∃ fs, xCell I S Y a = some (.inr (ci, fs))) ∧
  (∀ ci k a K, xGet I S ci k a K → ∃ fs v, xCell I S Y a = some (.inr (ci, fs)) ∧ fs[k]? = some v ∧ K v) ∧
  (∀ ci k a v K, xPut I S ci k a v K → ∃ fs S', xCell I S Y a = some (.inr (ci, fs)) ∧ k < fs.length ∧ K S' ∧ xCell I S' Y a = some (.inr (ci, fs.set k v)) ∧ ∀ b, b ≠ a → xCell I S' Y b = xCell I S Y b) ∧
  (∀ h z a i K, xAld I S h z a i K → ∃ n, vp_in i n ∧ (z ≤ 1 → ∃ f, xCell I S Y a = some (.inl (Y z, n, .inl f)) ∧ K (.int (f i.toNatClampNeg))) ∧ (z = 2 → ∃ f, xCell I S Y a = some (.inl (Y z, n, .inr (.inr (.inr (.inr f))))) ∧ K (va_rf (f i.toNatClampNeg)))) ∧
  (∀ h z a i x K, z ≤ 1 → xAst I S h z a i (.int x) K → ∃ n f S', vp_in i n ∧ xCell I S Y a = some (.inl (Y z, n, .inl f)) ∧ K S' ∧ xCell I S' Y a = some (.inl (Y z, n, .inl (upd f i.toNatClampNeg x))) ∧ ∀ b, b ≠ a → xCell I S' Y b = xCell I S Y b) ∧
  (∀ h z a K, xAlen I S h z a K → ∃ x : vp_A, xCell I S Y a = some (.inl (Y z, x)) ∧ K x.1) ∧
  (∀ ci K, xNew I S ci K → ∀ q, xCell I S Y q = none → ∃ S', K q S' ∧ xCell I S' Y q = some (.inr (ci, df ci)) ∧ ∀ b, b ≠ q → xCell I S' Y b = xCell I S Y b) ∧
  (∀ z n K, z ≤ 1 → xNewa I S z n K → ∀ q, xCell I S Y q = none → ∃ S', K q S' ∧ xCell I S' Y q = some (.inl (Y z, n, .inl (fun _ => 0))) ∧ ∀ b, b ≠ q → xCell I S' Y b = xCell I S Y b)
def xQc {σ : Type} (I : xRI σ) (D : va_G) (cl : List vw_C) (Y : Nat → ClassId) (A : Nat → Prop) (F : xRes → σ → Prop) : Array Value → State → Outcome → State → Prop := fun _ st o t =>
  (∃ (v : Option Value) (S' : σ), o = .returned v ∧ F (.inl v) S' ∧ xRep I D cl Y S' t.heap ∧ xOwn I Y S' A) ∧ va_F A st t
def xXC {σ : Type} (I : xRI σ) (D : va_G) (cl : List vw_C) (Y : Nat → ClassId) (A : Nat → Prop) (F : xRes → σ → Prop) : String → State → State → Prop := fun ex st t =>
  (∃ S' : σ, F (.inr ex) S' ∧ xRep I D cl Y S' t.heap ∧ xOwn I Y S' A) ∧ va_F A st t
/-- the length of an instruction -/
def xlen (i : Instr) : Option Nat := match i with
  | .iconst _ | .aconst_null | .iload_n _ | .aload_n _ | .istore_n _ | .astore_n _ | .iadd | .isub | .imul | .iand | .ior | .ixor | .ishl | .ishr | .iushr | .idiv | .irem | .ineg | .dup | .pop | .dup_x1 | .dup_x2 | .dup2 | .iaload | .baload | .aaload | .iastore | .bastore | .aastore | .arraylength | .ireturn | .areturn | .return_ | .lconst _ | .i2l | .laload | .lastore | .lcmp => some 1
  | .bipush _ | .ldc _ | .iload _ | .aload _ | .istore _ | .astore _ | .newarray _ => some 2
  | .sipush _ | .iinc _ _ | .ifCond _ _ | .if_icmp _ _ | .if_acmp _ _ | .ifnull _ | .ifnonnull _ | .goto _ | .getfield _ | .putfield _ | .checkcast _ | .new _ | .invokevirtual _ | .invokestatic _ | .invokespecial _ | .getstatic _ | .anewarray _ | .ldc_w _ => some 3
  | _ => none
/-- what a program decides of a row of the table -/
def xIns (own : String) (ws : List Jvm.Cond) (cl : List vw_C) (uc : List Nat) (calls : List (Instr × Nat × Nat × Nat)) (thr : List (Nat × Nat)) (nL : Nat) (isInit : Bool) (ret : Option FieldType) (pc : Nat) (i : Instr) (h0 h1 h2 : Nat) (hl : List Nat) : Bool := match i with
  | .iload_n k => decide (k.val = h0) && decide (h0 < nL)
  | .aload_n k => decide (k.val = h0) && decide (h0 < nL)
  | .istore_n k => decide (k.val = h0) && decide (h0 < nL)
  | .astore_n k => decide (k.val = h0) && decide (h0 < nL)
  | .iload k => decide (k = h0) && decide (h0 < nL)
  | .aload k => decide (k = h0) && decide (h0 < nL)
  | .istore k => decide (k = h0) && decide (h0 < nL)
  | .astore k => decide (k = h0) && decide (h0 < nL)
  | .iinc k _ => decide (k = h0) && decide (h0 < nL)
  | .ldc k => (match h1 with
    | 0 => decide (Jvm.Cond.constant own k (nI h0) ∈ ws)
    | _ => calls.any (fun q => decide (q = (i, h0, 0, 0))))
  | .ldc_w k => decide (Jvm.Cond.constant own k (nI h0) ∈ ws)
  | .getstatic _ => calls.any (fun q => decide (q = (i, h0, 0, 0)))
  | .anewarray _ => calls.any (fun q => decide (q = (i, h0, 1, 0)))
  | .aastore => calls.any (fun q => decide (q = (i, h0, 3, 0)))
  | .ifCond _ o => decide ((pc : Int) + o = (h0 : Int))
  | .if_icmp _ o => decide ((pc : Int) + o = (h0 : Int))
  | .if_acmp _ o => decide ((pc : Int) + o = (h0 : Int))
  | .ifnull o => decide ((pc : Int) + o = (h0 : Int))
  | .ifnonnull o => decide ((pc : Int) + o = (h0 : Int))
  | .goto o => decide ((pc : Int) + o = (h0 : Int))
  | .tableswitch d lo hi offs => decide ((pc : Int) + d = (h0 : Int)) && decide (hl.length = offs.size) && decide (hi + 1 = lo + (offs.size : Int)) && decide ((List.range offs.size).all (fun j => decide ((offs[j]?).map (fun o => (pc : Int) + o) = (hl[j]?).map Int.ofNat)))
  | .getfield k => decide (h0 ∈ uc) && (match cl[h0]? with
    | some (C, T, N) => decide (h1 < N) && (decide (Jvm.Cond.fieldLink own k (T h1).1 (T h1).2.1 (T h1).2.2.1 ∈ ws) || (decide (Jvm.Cond.fieldLink own k C (T h1).2.1 (T h1).2.2.1 ∈ ws) && decide (Jvm.Cond.sameField C (T h1).1 (T h1).2.1 (T h1).2.2.1 ∈ ws)))
    | none => false)
  | .putfield k => decide (h0 ∈ uc) && (match cl[h0]? with
    | some (C, T, N) => decide (h1 < N) && (decide (Jvm.Cond.fieldLink own k (T h1).1 (T h1).2.1 (T h1).2.2.1 ∈ ws) || (decide (Jvm.Cond.fieldLink own k C (T h1).2.1 (T h1).2.2.1 ∈ ws) && decide (Jvm.Cond.sameField C (T h1).1 (T h1).2.1 (T h1).2.2.1 ∈ ws))) && (!(T h1).2.2.2 || (isInit && decide ((T h1).1 = own))) &&
      (match parseFieldDescriptor (T h1).2.2.1 with
        | some .int => decide (h2 = 0)
        | some .boolean => decide (h2 = 1)
        | some (.object _) => decide (h2 = 2)
        | some (.array _) => decide (h2 = 2)
        | _ => false)
    | none => false)
  | .arraylength => (match h2 with
    | 0 => decide (h1 ≤ 2)
    | _ => calls.any (fun q => decide (q = (i, h0, 1, 0))))
  | .iaload => (match h2 with
    | 0 => true
    | _ => calls.any (fun q => decide (q = (i, h0, 2, 0))))
  | .lconst _ => calls.any (fun q => decide (q = (i, h0, 0, 0)))
  | .i2l => calls.any (fun q => decide (q = (i, h0, 1, 0)))
  | .laload => calls.any (fun q => decide (q = (i, h0, 2, 0)))
  | .lastore => calls.any (fun q => decide (q = (i, h0, 3, 0)))
  | .lcmp => calls.any (fun q => decide (q = (i, h0, 2, 0)))
  | .checkcast k => (match cl[h0]? with
    | some (C, _, _) => decide (Jvm.Cond.classLink own k C ∈ ws)
    | none => false)
  | .new k => (match h0 with
    | 0 => decide (h1 ∈ uc) && (match cl[h1]? with
      | some (C, _, N) => decide (Jvm.Cond.classLink own k C ∈ ws) && decide (Jvm.Cond.instantiable C N ∈ ws) && decide (Jvm.Cond.initialized C ∈ ws) && decide (N = h2)
      | none => false)
    | _ => decide ((pc, h1) ∈ thr))
  | .newarray t => (match h2 with
    | 0 => decide (h0 ≤ 1) && decide (newarray.typeOf t = xTy h0) && decide (Jvm.Cond.arrayClass (xTy h0) ∈ ws)
    | _ => calls.any (fun q => decide (q = (i, h0, 1, 0))))
  | .invokevirtual _ => calls.any (fun q => decide (q = (i, h0, h1, h2)))
  | .invokestatic _ => calls.any (fun q => decide (q = (i, h0, h1, h2)))
  | .invokespecial _ => calls.any (fun q => decide (q = (i, h0, h1, h2)))
  | .ireturn => decide ((h0 = 0 ∧ ret = some .int) ∨ (h0 = 1 ∧ ret = some .boolean))
  | .areturn => (match ret with
    | some (.object _) => true
    | some (.array _) => true
    | _ => false)
  | .return_ => decide (ret = none)
  | _ => true
def xRow (own : String) (cc : ByteArray) (ws : List Jvm.Cond) (cl : List vw_C) (uc : List Nat) (calls : List (Instr × Nat × Nat × Nat)) (thr : List (Nat × Nat)) (nL : Nat) (isInit : Bool) (ret : Option FieldType) (r : Nat × xHint) : Bool :=
  (match decode cc r.1 with
    | .ok (i', len) => decide (i' = r.2.1) && (match xlen i' with
      | some k => decide (k = len)
      | none => true)
    | _ => false) && xIns own ws cl uc calls thr nL isInit ret r.1 r.2.1 r.2.2.1 r.2.2.2.1 r.2.2.2.2.1 r.2.2.2.2.2
/-- the words of the fields of the kinds that a method uses -/
def xUse (ws : List Jvm.Cond) (cl : List vw_C) (uc : List Nat) : Bool := uc.all (fun ci => match cl[ci]? with
  | some (C, T, N) => (u_ws C T N).all (fun w => decide (w ∈ ws))
  | none => false)
def xFind (l : List (Nat × xHint)) (pc : Nat) : Option xHint := (l.find? (fun r => r.1 == pc)).map (·.2)
theorem xFind_mem {l : List (Nat × xHint)} {pc : Nat} {h : xHint} (e : xFind l pc = some h) : (pc, h) ∈ l := by
  unfold xFind at e
  cases f : l.find? (fun r => r.1 == pc) with
  | none => rw [f] at e; cases e
  | some r =>
    rw [f] at e
    cases e
    have h1 := List.mem_of_find?_eq_some f
    have h3 : r.1 = pc := by
      have h2 := List.find?_some f
      simpa using h2
    rw [← h3]
    exact h1
theorem xvp_bool {x : Int32} (h : x = 0 ∨ x = 1) : vp_nar .boolean x = x := by
  rcases h with rfl | rfl <;> rfl
theorem xOk_fit {z : Nat} {ty : FieldType} {v : Value} (h : xOk z v) (hz : (z = 0 ∧ ty = .int) ∨ (z = 1 ∧ ty = .boolean) ∨ (z = 2 ∧ ((∃ n, ty = .object n) ∨ ∃ t, ty = .array t))) : narrow ty v = v ∧ fits ty v = true := by
  rcases hz with ⟨rfl, rfl⟩ | ⟨rfl, rfl⟩ | ⟨rfl, hz⟩
  · cases v <;> first | exact ⟨rfl, rfl⟩ | cases h
  · cases v <;> first | (rcases h with rfl | rfl <;> exact ⟨rfl, rfl⟩) | cases h
  · have h : vRef v = true := by cases v <;> exact h
    rcases hz with ⟨n, rfl⟩ | ⟨t, rfl⟩ <;> cases v <;> first | exact ⟨rfl, rfl⟩ | cases h
/-- locals as the list has them -/
def xLok (ls : Array Slot) (nL : Nat) (lv : xLv) : Prop := ls.size = nL ∧ lv_wf ls ∧ ∀ (i : Nat) (v : Value), lv[i]? = some (some v) → ls[i]? = some (.val v) ∧ v.category = 1
theorem xLok_mask {ls : Array Slot} {nL : Nat} {lv : xLv} (mb : List Bool) (h : xLok ls nL lv) : xLok ls nL (xmask mb lv) := by
  refine ⟨h.1, h.2.1, fun i v hi => ?_⟩
  unfold xmask at hi
  rw [List.getElem?_zipWith] at hi
  cases e1 : mb[i]? with
  | none => rw [e1] at hi; simp at hi
  | some b =>
    cases e2 : lv[i]? with
    | none => rw [e1, e2] at hi; simp at hi
    | some o =>
      rw [e1, e2] at hi
      cases b with
      | false => simp at hi
      | true =>
        simp at hi
        exact h.2.2 i v (by rw [e2, hi])
def xPairs (lv : xLv) : List (Nat × Value) := lv.zipIdx.filterMap (fun q => q.1.map (fun w => (q.2, w)))
theorem xPairs_mem {lv : xLv} {j : Nat} {w : Value} : (j, w) ∈ xPairs lv ↔ lv[j]? = some (some w) := by
  unfold xPairs
  rw [List.mem_filterMap]
  constructor
  · rintro ⟨⟨o, k⟩, h1, h2⟩
    cases o with
    | none => cases h2
    | some x =>
      cases h2
      exact List.mem_zipIdx_iff_getElem?.mp h1
  · intro h
    exact ⟨(some w, j), List.mem_zipIdx_iff_getElem?.mpr h, rfl⟩
theorem xLok_pairs {ls : Array Slot} {nL : Nat} {lv : xLv} (h : xLok ls nL lv) : lv_has ls nL (xPairs lv) :=
  ⟨h.1, h.2.1, fun q hq => (h.2.2 q.1 q.2 (xPairs_mem.mp hq)).1⟩
theorem xLok_after {ls ls' : Array Slot} {nL : Nat} {lv : xLv} (h : xLok ls nL lv) {i : Nat} {v : Value} (hc : v.category = 1)
    (h' : lv_has ls' nL ((i, v) :: (xPairs lv).filter (fun q => !(q.1 == i) && !(q.1 + 1 == i && q.2.category == 2)))) : xLok ls' nL (lv.set i (some v)) := by
  refine ⟨h'.1, h'.2.1, fun j w hj => ?_⟩
  rw [List.getElem?_set] at hj
  by_cases hij : i = j
  · subst hij
    rw [if_pos rfl] at hj
    split at hj
    · cases hj
      exact ⟨h'.2.2 (i, v) List.mem_cons_self, hc⟩
    · cases hj
  · rw [if_neg hij] at hj
    have hw := h.2.2 j w hj
    refine ⟨h'.2.2 (j, w) (List.mem_cons_of_mem _ (List.mem_filter.mpr ⟨xPairs_mem.mpr hj, ?_⟩)), hw.2⟩
    simp [hw.2, Ne.symm hij]
theorem xPairs_at {lv : xLv} {j : Nat} {w : Value} (h : lv[j]? = some (some w)) : ∃ k : Nat, (xPairs lv)[k]? = some (j, w) := List.getElem?_of_mem (xPairs_mem.mpr h)
theorem xP1 {D : va_G} {cl : List vw_C} {q : Nat × va_E} {H : Heap} (h : va_at D cl q H) : va_P D cl [q] H := fun k q' hk => by
  cases k with
  | zero => cases hk; exact h
  | succ k => simp at hk
theorem xRep_set {σ : Type} {I : xRI σ} {D : va_G} {cl : List vw_C} {Y : Nat → ClassId} {S S' : σ} {H H1 : Heap} {a : Nat} {x : va_E} (h : xRep I D cl Y S H) (e1 : xCell I S' Y a = some x) (e2 : ∀ b, b ≠ a → xCell I S' Y b = xCell I S Y b) (h1 : va_at D cl (a, x) H1) (oq : ∀ q : Nat, q ≠ a → H1[q]? = H[q]?) : xRep I D cl Y S' H1 := by
  intro b y hb
  by_cases hba : b = a
  · subst hba
    rw [e1] at hb
    cases hb
    exact h1
  · rw [e2 b hba] at hb
    exact (h b y hb).kept (oq b hba)
theorem xOwn_set {σ : Type} {I : xRI σ} {Y : Nat → ClassId} {S S' : σ} {A : Nat → Prop} {a : Nat} (h : xOwn I Y S A) (ha : A a) (e2 : ∀ b, b ≠ a → xCell I S' Y b = xCell I S Y b) : xOwn I Y S' A := by
  intro b y hb
  by_cases hba : b = a
  · subst hba
    exact ha
  · rw [e2 b hba] at hb
    exact h b y hb
section XW
variable {p : Program} {l : Launch} {e : Env} {R : Room} {s : State} {m : MethodId} {args : Array Value} {below : List Frame} {meth : Method} {c : Code} {H : Heap} {locs : List Loc} {cells slots : Nat} {Q : State → Prop}
variable {cc : ByteArray} {pc : Nat} {ls : Array Slot} {rest : List Value} {D : va_G} {cl : List vw_C} {A : Nat → Prop} {a : Nat} {tys : List (ClassId × FieldType)} {H0 : Heap}
theorem xw_put (hexec : p.tables.exec = Jvm.exec) (hb : c.code = cc) {own ref C : String} {T : u_T} {N ci index : Nat} {Ts : List Jvm.Cond} (hts : ∀ w ∈ Ts, w.before args s = true) (hin : ∀ w ∈ u_ws C T N, w ∈ Ts) (ty0 : Nat → FieldType) (hty : ∀ k, k < N → parseFieldDescriptor (T k).2.2.1 = some (ty0 k)) (hnm : ∀ a, a < N → ∀ b, b < N → a ≠ b → (T a).2.1 ≠ (T b).2.1) (hown : s.vm.findClass own = some m.cls) (hK : va_K D cl tys s) {fs : List Value} (hA1 : va_at D cl (a, .inr (ci, fs)) H) (hS0 : va_S A H0 H locs) (hAa : A a) (hc : cl[ci]? = some (C, T, N)) (k : Nat) (hk : k < N) (hlink : (Jvm.Cond.fieldLink own index ref (T k).2.1 (T k).2.2.1).before args s = true) (hsame : ∀ x, s.fieldFound? (T k).1 (T k).2.1 (T k).2.2.1 = some x → s.fieldFound? ref (T k).2.1 (T k).2.2.1 = some x) (hfin : (T k).2.2.2 = false ∨ (meth.name = "<init>" ∧ (T k).1 = own)) {ty : FieldType} {v : Value} (hd : parseFieldDescriptor (T k).2.2.1 = some ty) (hn : narrow ty v = v) (hfit : fits ty v = true) (hl : k < fs.length)
    (hdg : decode cc pc = .ok (.putfield index, 3)) (kk : ∀ (H1 : Heap) (locs1 : List Loc), va_at D cl (a, .inr (ci, fs.set k v)) H1 → H1.size = H.size → (∀ q : Nat, q ≠ a → H1[q]? = H[q]?) → va_S A H0 H1 locs1 → W p l e R s m args below meth c H1 locs1 cells slots Q (F0 m (pc + 3) ls rest)) : W p l e R s m args below meth c H locs cells slots Q (F0 m pc ls (v :: .ref a :: rest)) := by
  have hap := va_apart (own := own) hts hin ty0 hty hnm hK hc
  obtain ⟨r, h1, cell, q1, q2, q3, q4⟩ := hA1
  have hr : r = (C, T, N) := Option.some.inj (h1.symm.trans hc)
  subst hr
  obtain ⟨hS, hfc, kC, hkC, hkind⟩ := hK.1 ci _ hc
  obtain ⟨cf, kf, fi, f, hi, hsl⟩ := hS k hk
  have hlay := hts _ (hin _ (u_in_lay hk))
  unfold u_lay at hlay
  have hst := (u_facts hfc hkC (u_lays hts hin hk) hi).1
  by_cases hf : (T k).2.2.2 = true
  · obtain ⟨hin2, hdecl⟩ : meth.name = "<init>" ∧ (T k).1 = own := by
      rcases hfin with q | q
      · rw [hf] at q; cases q
      · exact q
    rw [if_pos hf] at hlay
    have hcf : m.cls = cf := by
      obtain ⟨_, _, c', _, _, _, -, -, hf', -, -, -, hown2, -⟩ := Cond.laysFinal_spec hlay
      have e1 : c' = cf := by have := hi.symm.trans hf'; simp at this; exact this.1.symm
      rw [hdecl] at hown2
      rw [← e1]; exact Option.some.inj (hown.symm.trans hown2)
    have h6 := u_fits hfc hkC hkind (Or.inr hlay) hi hd hn hfit
    refine W.putFinK hexec hb hown hlink (hsame _ hi) hst hcf hin2 (by rw [q2]; exact h6) q1 q3 (by rw [hsl]; exact k2_hasslot (q4 k hk)) rfl rfl hdg fun H' e1 e2 e3 => ?_
    rw [hsl] at e1 ⊢
    exact kk H' _ ⟨_, hc, t_OB.to (V := updV (vp_V fs) k v) ⟨_, e1, q2, q3, t_set q4 hap hk v⟩ (fun j _ => vp_updV_set hl v j)⟩ e2 e3 (hS0.put e2 e3 hAa)
  · rw [if_neg hf] at hlay
    have h6 := u_store hfc hkC hkind hlay hi hd hn hfit
    refine W.putK hexec hb (f := f) ⟨hown, hlink, ⟨_, _, _, hsame _ hi⟩, hst⟩ (by rw [q2]; exact h6) q1 q3 (by rw [hsl]; exact k2_hasslot (q4 k hk)) rfl rfl hdg fun H' e1 e2 e3 => ?_
    rw [hsl] at e1 ⊢
    exact kk H' _ ⟨_, hc, t_OB.to (V := updV (vp_V fs) k v) ⟨_, e1, q2, q3, t_set q4 hap hk v⟩ (fun j _ => vp_updV_set hl v j)⟩ e2 e3 (hS0.put e2 e3 hAa)
theorem xw_iast (hexec : p.tables.exec = Jvm.exec) (hb : c.code = cc) (hK : va_K D cl tys s) (t0 : Nat) {cA : ClassId} {n : Nat} {f : Nat → Int32} (hA1 : va_at D cl (a, .inl (cA, n, .inl f)) H) (hS : va_S A H0 H locs) (hAa : A a) (ht : tys[t0]? = some (cA, .int)) {i : Int32} {x : Int32} (hin : vp_in i n) (hdg : decode cc pc = .ok (.iastore, 1))
    (kk : ∀ (H1 : Heap) (locs1 : List Loc), va_at D cl (a, .inl (cA, n, .inl (upd f i.toNatClampNeg x))) H1 → (∀ q : Nat, q ≠ a → H1[q]? = H[q]?) → va_S A H0 H1 locs1 → W p l e R s m args below meth c H1 locs1 cells slots Q (F0 m (pc + 1) ls rest)) : W p l e R s m args below meth c H locs cells slots Q (F0 m pc ls (.int x :: .int i :: .ref a :: rest)) := by
  refine W.iast hexec hb hA1 ((hK.2 t0 _ ht).1 n (fun j => .int (f j))) (fun q => by cases q) (by show ¬ (i < 0 ∨ (arrV _ _ _).slots.size ≤ _); rw [arrV_size]; exact hin) rfl rfl hdg fun H1 e z oq => ?_
  refine kk H1 _ ?_ oq (hS.put z oq hAa)
  show H1[a]? = some (vp_cell _ _)
  rw [e]
  rw [vp_cell_i, vp_cell_i, arrV_store]
  congr 2
  funext q
  by_cases hq : q = i.toNatClampNeg
  · subst hq
    simp [updV, upd]
  · simp [updV, upd, hq]
theorem xw_zast (hexec : p.tables.exec = Jvm.exec) (hb : c.code = cc) (hK : va_K D cl tys s) (t0 : Nat) {cA : ClassId} {n : Nat} {f : Nat → Int32} (hA1 : va_at D cl (a, .inl (cA, n, .inl f)) H) (hS : va_S A H0 H locs) (hAa : A a) (ht : tys[t0]? = some (cA, .boolean)) {i : Int32} {x : Int32} (hin : vp_in i n) (hdg : decode cc pc = .ok (.bastore, 1))
    (kk : ∀ (H1 : Heap) (locs1 : List Loc), va_at D cl (a, .inl (cA, n, .inl (upd f i.toNatClampNeg (vp_nar .boolean x)))) H1 → (∀ q : Nat, q ≠ a → H1[q]? = H[q]?) → va_S A H0 H1 locs1 → W p l e R s m args below meth c H1 locs1 cells slots Q (F0 m (pc + 1) ls rest)) : W p l e R s m args below meth c H locs cells slots Q (F0 m pc ls (.int x :: .int i :: .ref a :: rest)) := by
  refine W.zast hexec hb hA1 ((hK.2 t0 _ ht).1 n (fun j => .int (f j))) (fun q => by cases q) (by show ¬ (i < 0 ∨ (arrV _ _ _).slots.size ≤ _); rw [arrV_size]; exact hin) rfl rfl hdg fun H1 e z oq => ?_
  refine kk H1 _ ?_ oq (hS.put z oq hAa)
  show H1[a]? = some (vp_cell _ _)
  rw [e]
  rw [vp_cell_i, vp_cell_i, arrV_store]
  congr 2
  funext q
  by_cases hq : q = i.toNatClampNeg
  · subst hq
    simp [updV, upd, vp_nar]
    try rfl
  · simp [updV, upd, hq]
theorem xw_new {c0 : Code} (hexec : p.tables.exec = Jvm.exec) (hb : c0.code = cc) {own C : String} {T : u_T} {N ci index : Nat} {Ts : List Jvm.Cond} (hts : ∀ w ∈ Ts, w.before args s = true) (hin : ∀ w ∈ u_ws C T N, w ∈ Ts) (ty : Nat → FieldType) (hty : ∀ k, k < N → parseFieldDescriptor (T k).2.2.1 = some (ty k)) (hown : s.vm.findClass own = some m.cls) (hcl : (Jvm.Cond.classLink own index C).before args s = true) (hinst : (Jvm.Cond.instantiable C N).before args s = true) (hini : (Jvm.Cond.initialized C).before args s = true)
    (hK : va_K D cl tys s) (hS : va_S A H0 H locs) (hc : cl[ci]? = some (C, T, N)) {fs : List Value} (hfs : ∀ j, j < N → defaultValue (ty j) = vp_V fs j) (hcells : cells + 1 ≤ R.cells) (hslots : slots + N ≤ R.slots) (hdg : decode cc pc = .ok (.new index, 3))
    (kk : ∀ (H1 : Heap), va_at D cl (H.size, .inr (ci, fs)) H1 → (∀ q : Nat, q < H.size → H1[q]? = H[q]?) → va_S A H0 H1 locs →
      W p l e R s m args below meth c0 H1 locs (cells + 1) (slots + N) Q (F0 m (pc + 3) ls (.ref H.size :: rest))) : W p l e R s m args below meth c0 H locs cells slots Q (F0 m pc ls rest) := by
  have hKn := hK.1 ci _ hc
  refine W.newcK hexec hb hown hcl hinst hini rfl hdg hcells hslots hKn.2.1 rfl fun H1 kC hkC e1 z1 o1 => ?_
  exact kk H1 ⟨_, hc, (u_born ty hts hin hKn hkC e1 hty).to hfs⟩ (fun q hq => o1 q hq) ⟨Nat.le_trans hS.1 (by omega), fun x h1 h2 => (o1 x (Nat.lt_of_lt_of_le h1 hS.1)).trans (hS.2.1 x h1 h2), hS.2.2⟩
theorem xw_newa (hexec : p.tables.exec = Jvm.exec) (hb : c.code = cc) {atype : ArrayType} (harr : (Jvm.Cond.arrayClass (newarray.typeOf atype)).before args s = true) {ty : FieldType} (hty : newarray.typeOf atype = ty) {cA : ClassId} (hnm : s.vm.findClass ("[" ++ ty.toString) = some cA) (hS : va_S A H0 H locs)
    {n : Int32} {N' : Nat} (hn : ¬ n < 0) (hN : n.toNatClampNeg = N') (hbytes : N' * componentBytes ty ≤ 536870912) (hcells : cells + 1 ≤ R.cells) (hslots : slots + N' ≤ R.slots) (hdg : decode cc pc = .ok (.newarray atype, 2))
    (kk : ∀ (H1 : Heap), H1[H.size]? = some (arrV cA N' (fun _ => defaultValue ty)) → (∀ q : Nat, q < H.size → H1[q]? = H[q]?) → va_S A H0 H1 locs →
      W p l e R s m args below meth c H1 locs (cells + 1) (slots + N') Q (F0 m (pc + 2) ls (.ref H.size :: rest))) : W p l e R s m args below meth c H locs cells slots Q (F0 m pc ls (.int n :: rest)) := by
  subst hty
  refine va_newaK hexec hb harr rfl hdg rfl hn hN hbytes hcells hslots rfl fun H1 cA2 e1 z1 o1 hAr hNm => ?_
  have e2 : cA2 = cA := Option.some.inj (hNm.symm.trans hnm)
  subst e2
  exact kk H1 e1 (fun q hq => o1 q hq) ⟨Nat.le_trans hS.1 (by omega), fun x h1 h2 => (o1 x (Nat.lt_of_lt_of_le h1 hS.1)).trans (hS.2.1 x h1 h2), hS.2.2⟩
end XW
section XS
variable {σ : Type} {E : xEnv σ} {D : va_G} {cl : List vw_C} {Y : Nat → ClassId} {A : Nat → Prop} {df : Nat → List Value}
variable {p : Program} {l : Launch} {e : Env} {R : Room} {s : State} {m : MethodId} {args : Array Value} {below : List Frame} {meth : Method} {c : Code} {free : Addr → Prop} {nL : Nat} {own : String} {cc : ByteArray} {ws : List Jvm.Cond}
/-- the goal at a place of the body -/
def xWG (E : xEnv σ) (D : va_G) (cl : List vw_C) (Y : Nat → ClassId) (A : Nat → Prop) (p : Program) (l : Launch) (e : Env) (R : Room) (s : State) (m : MethodId) (args : Array Value) (below : List Frame) (meth : Method) (c : Code) (nL : Nat) : xGo σ := fun pc lv st S cs ss =>
  ∀ (H : Heap) (locs : List Loc) (ls : Array Slot), xLok ls nL lv → xRep (eI E) D cl Y S H → xOwn (eI E) Y S A → va_S A s.heap H locs →
    W p l e R s m args below meth c H locs cs ss (vx_MQ below (xQc (eI E) D cl Y A (eF E)) (xXC (eI E) D cl Y A (eF E)) args s (eMc E) (eMs E) A) (F0 m pc ls st)
/-- a thrown exception leaves, or is caught -/
def xXG (E : xEnv σ) (D : va_G) (cl : List vw_C) (Y : Nat → ClassId) (A : Nat → Prop) (p : Program) (l : Launch) (e : Env) (R : Room) (s : State) (m : MethodId) (args : Array Value) (below : List Frame) (meth : Method) (c : Code) (nL : Nat) (pc : Nat) (lv : xLv) (S : σ) (cs ss : Nat) (ex : String) : Prop :=
  ∀ (H : Heap) (locs : List Loc) (ls : Array Slot) (rest : List Value) (q : Nat) (ce : Cell), xLok ls nL lv → xRep (eI E) D cl Y S H → xOwn (eI E) Y S A → va_S A s.heap H locs → H[q]? = some ce → ce.vm = .none → s.vm.findClass ex = some ce.cls →
    vx_W p l e R s m args below meth c H locs cs ss (vx_MQ below (xQc (eI E) D cl Y A (eF E)) (xXC (eI E) D cl Y A (eF E)) args s (eMc E) (eMs E) A) (F0 m pc ls rest) q
/-- what a call of the method's list gives -/
def xCR (E : xEnv σ) (D : va_G) (cl : List vw_C) (Y : Nat → ClassId) (A : Nat → Prop) (p : Program) (l : Launch) (e : Env) (R : Room) (s : State) (m : MethodId) (args : Array Value) (below : List Frame) (meth : Method) (c : Code) (nL : Nat) (i : Instr) (na ci : Nat) (sp : xSp σ) : Prop :=
  ∀ (pc len : Nat) (H : Heap) (locs : List Loc) (ls : Array Slot) (lv : xLv) (av rest : List Value) (S : σ) (cs ss : Nat) (KF : xRes → σ → Prop), decode c.code pc = .ok (i, len) → xlen i = some len → av.length = na → xLok ls nL lv → xRep (eI E) D cl Y S H → xOwn (eI E) Y S A → va_S A s.heap H locs →
    ((∃ k, i = .invokevirtual k) → xRecv (eI E) S ci av) → (rest.map fun v => v.category).sum ≤ 8 → cs + (sp.1 av S).1 ≤ R.cells → ss + (sp.1 av S).2 ≤ R.slots → sp.2 av S KF →
    (∀ (v : Option Value) (S' : σ), KF (.inl v) S' → xWG E D cl Y A p l e R s m args below meth c nL (pc + len) lv (v.toList ++ rest) S' (cs + (sp.1 av S).1) (ss + (sp.1 av S).2)) →
    (∀ (ex : String) (S' : σ), KF (.inr ex) S' → xXG E D cl Y A p l e R s m args below meth c nL pc lv S' (cs + (sp.1 av S).1) (ss + (sp.1 av S).2) ex) →
    W p l e R s m args below meth c H locs cs ss (vx_MQ below (xQc (eI E) D cl Y A (eF E)) (xXC (eI E) D cl Y A (eF E)) args s (eMc E) (eMs E) A) (F0 m pc ls (av.reverse ++ rest))
/-- what a throw of the method's list gives -/
def xTR (A : Nat → Prop) (p : Program) (l : Launch) (e : Env) (R : Room) (s : State) (m : MethodId) (args : Array Value) (below : List Frame) (meth : Method) (c : Code) (nL : Nat) (pc : Nat) (ex : String) : Prop :=
  ∀ (Qc : Array Value → State → Outcome → State → Prop) (XC : String → State → State → Prop) (mc ms : Nat) (H : Heap) (locs : List Loc) (ls : Array Slot) (rest : List Value) (cs ss : Nat), ls.size = nL → va_S A s.heap H locs → (rest.map fun v => v.category).sum ≤ 8 → cs + 1 ≤ R.cells → ss + 6 ≤ R.slots → cs + 1 ≤ mc → ss + 6 ≤ ms →
    (∀ t : State, s.vm.Alike t.vm → H.size ≤ t.heap.size → (∀ q : Nat, q < H.size → t.heap[q]? = H[q]?) → XC ex s t) →
    W p l e R s m args below meth c H locs cs ss (vx_MQ below Qc XC args s mc ms A) (F0 m pc ls rest)
/-- all that is known of a body -/
def xBody (E : xEnv σ) (D : va_G) (cl : List vw_C) (Y : Nat → ClassId) (A : Nat → Prop) (df : Nat → List Value) (p : Program) (l : Launch) (e : Env) (R : Room) (s : State) (m : MethodId) (args : Array Value) (below : List Frame) (meth : Method) (c : Code) (nL : Nat) (own : String) (ws : List Jvm.Cond) (rows : List (Nat × xHint)) (uc : List Nat) (calls : List (Instr × Nat × Nat × Nat)) (thr : List (Nat × Nat)) : Prop :=
  p.tables.exec = Jvm.exec ∧ s.vm.findClass own = some m.cls ∧ meth.locks = false ∧ (∀ w ∈ ws, w.before args s = true) ∧ xLaw (eI E) df ∧
  (∀ (ci : Nat) (C : String) (T : u_T) (N : Nat), cl[ci]? = some (C, T, N) → ∃ ty0 : Nat → FieldType, (∀ k, k < N → parseFieldDescriptor (T k).2.2.1 = some (ty0 k)) ∧ (∀ a, a < N → ∀ b, b < N → a ≠ b → (T a).2.1 ≠ (T b).2.1) ∧ (∀ j, j < N → defaultValue (ty0 j) = vp_V (df ci) j)) ∧
  va_K D cl [(Y 0, .int), (Y 1, .boolean), (Y 2, .object "java/lang/Object"), (Y 3, .long)] s ∧ (∀ q, s.heap.size ≤ q → A q) ∧ R.cells = eMc E ∧ R.slots = eMs E ∧
  (rows.all (xRow own c.code ws cl uc calls thr nL (meth.name == "<init>") meth.sig.returnType) = true) ∧ xUse ws cl uc = true ∧ (∀ pc, eTab E pc = xFind rows pc) ∧
  (∀ q ∈ calls, ∃ sp, eCall E q.2.1 = some sp ∧ xCR E D cl Y A p l e R s m args below meth c nL q.1 q.2.2.1 q.2.2.2 sp) ∧
  (∀ q ∈ thr, xTR A p l e R s m args below meth c nL q.1 (eThr E q.2)) ∧
  (∀ (pc : Nat) (ex : String), (eHd E pc ex = none → ∀ x ∈ c.exceptionTable.toList, covers x pc = false) ∧ ∀ t, eHd E pc ex = some t → ∀ (H : Heap) (locs : List Loc) (cs ss : Nat) (Q : State → Prop) (ls : Array Slot) (rest : List Value) (q : Nat) (ce : Cell), H[q]? = some ce → ce.vm = .none → s.vm.findClass ex = some ce.cls → W p l e R s m args below meth c H locs cs ss Q (F0 m t ls [.ref q]) → vx_W p l e R s m args below meth c H locs cs ss Q (F0 m pc ls rest) q)
theorem xrf_inj {a b : Option Nat} (h : va_rf a = va_rf b) : a = b := by
  cases a <;> cases b <;> first | rfl | (cases h; rfl) | cases h
theorem xTs_at {x : Int32} {k : Nat → Prop} : ∀ {hl : List Nat} {lo : Int} {j t : Nat}, xTs x lo hl k → hl[j]? = some t → x.toInt = lo + (j : Int) → k t
  | [], lo, j, t, _, h2, _ => by simp at h2
  | b :: r, lo, j, t, h, h2, h3 => by
    cases j with
    | zero =>
      simp at h2
      subst h2
      exact h.1 (by omega)
    | succ j =>
      exact xTs_at (hl := r) (lo := lo + 1) (j := j) h.2 (by simpa using h2) (by omega)
theorem xX_ok {go : xGo σ} (hgo : ∀ pc lv st S cs ss, go pc lv st S cs ss → xWG E D cl Y A p l e R s m args below meth c nL pc lv st S cs ss) (hlocks : meth.locks = false)
    (hhd : ∀ (pc : Nat) (ex : String), (eHd E pc ex = none → ∀ x ∈ c.exceptionTable.toList, covers x pc = false) ∧ ∀ t, eHd E pc ex = some t → ∀ (H : Heap) (locs : List Loc) (cs ss : Nat) (Q : State → Prop) (ls : Array Slot) (rest : List Value) (q : Nat) (ce : Cell), H[q]? = some ce → ce.vm = .none → s.vm.findClass ex = some ce.cls → W p l e R s m args below meth c H locs cs ss Q (F0 m t ls [.ref q]) → vx_W p l e R s m args below meth c H locs cs ss Q (F0 m pc ls rest) q)
    {pc : Nat} {lv : xLv} {S : σ} {cs ss : Nat} {ex : String} (b1 : cs ≤ eMc E) (b2 : ss ≤ eMs E) (h : xX E go pc lv S cs ss ex) : xXG E D cl Y A p l e R s m args below meth c nL pc lv S cs ss ex := by
  intro H locs ls rest q ce hlv hR hO hS hce hcv hcl
  unfold xX at h
  cases hh : eHd E pc ex with
  | some t =>
    rw [hh] at h
    exact (hhd pc ex).2 t hh H locs cs ss _ ls rest q ce hce hcv hcl (hgo _ _ _ _ _ _ (h q) H locs ls hlv hR hO hS)
  | none =>
    rw [hh] at h
    exact vx_out ((hhd pc ex).1 hh) hlocks hce hcv hcl (fun t ht _ => ⟨⟨S, h, by rw [ht]; exact hR, hO⟩, hS.F ht⟩) hS.2.2 b1 b2
theorem xCall_ok {calls : List (Instr × Nat × Nat × Nat)} (hRc : R.cells = eMc E) (hRs : R.slots = eMs E) (hlocks : meth.locks = false) (hcalls : ∀ q ∈ calls, ∃ sp, eCall E q.2.1 = some sp ∧ xCR E D cl Y A p l e R s m args below meth c nL q.1 q.2.2.1 q.2.2.2 sp)
    (hhd : ∀ (pc : Nat) (ex : String), (eHd E pc ex = none → ∀ x ∈ c.exceptionTable.toList, covers x pc = false) ∧ ∀ t, eHd E pc ex = some t → ∀ (H : Heap) (locs : List Loc) (cs ss : Nat) (Q : State → Prop) (ls : Array Slot) (rest : List Value) (q : Nat) (ce : Cell), H[q]? = some ce → ce.vm = .none → s.vm.findClass ex = some ce.cls → W p l e R s m args below meth c H locs cs ss Q (F0 m t ls [.ref q]) → vx_W p l e R s m args below meth c H locs cs ss Q (F0 m pc ls rest) q)
    {go : xGo σ} (hgo : ∀ pc lv st S cs ss, go pc lv st S cs ss → xWG E D cl Y A p l e R s m args below meth c nL pc lv st S cs ss) {i : Instr} {h0 h1 h2 : Nat} (hq : (i, h0, h1, h2) ∈ calls) {pc len : Nat} (hd : decode c.code pc = .ok (i, len)) (hxl : xlen i = some len) {lv : xLv} {st : List Value} {S : σ} {cs ss : Nat}
    (hrc : (∃ k, i = .invokevirtual k) → xRecv (eI E) S h2 (List.take h1 st).reverse) (hv : xCall E go pc len lv st S cs ss h0 h1) : xWG E D cl Y A p l e R s m args below meth c nL pc lv st S cs ss := by
  obtain ⟨hlen, hcat, hv⟩ := hv
  obtain ⟨sp, hsp, hcr⟩ := hcalls _ hq
  dsimp only at hsp hcr
  rw [hsp] at hv
  obtain ⟨b1, b2, hv⟩ := hv
  intro H locs ls hlv hR hO hS
  have h := hcr pc len H locs ls lv (List.take h1 st).reverse (List.drop h1 st) S cs ss _ hd hxl (by rw [List.length_reverse]; exact hlen) hlv hR hO hS hrc hcat (by rw [hRc]; exact b1) (by rw [hRs]; exact b2) hv
    (fun v S' hk => hgo _ _ _ _ _ _ hk) (fun ex S' hk => xX_ok hgo hlocks hhd b1 b2 hk)
  rw [List.reverse_reverse, List.take_append_drop] at h
  exact h
theorem xsome_getD {α : Type} {x : Option α} {y : α} (h : x = some y) : x = some y := h
set_option maxHeartbeats 4000000 in
set_option maxRecDepth 20000 in
theorem xvm_ok {rows : List (Nat × xHint)} {uc : List Nat} {calls : List (Instr × Nat × Nat × Nat)} {thr : List (Nat × Nat)} (B : xBody E D cl Y A df p l e R s m args below meth c nL own ws rows uc calls thr) {go : xGo σ}
    (hgo : ∀ pc lv st S cs ss, go pc lv st S cs ss → xWG E D cl Y A p l e R s m args below meth c nL pc lv st S cs ss) (pc : Nat) (i : Instr) (h0 h1 h2 : Nat) (hl : List Nat) (lv : xLv) (st : List Value) (S : σ) (cs ss : Nat)
    (hr : xFind rows pc = some (i, h0, h1, h2, hl)) (hv : xvm E go pc i h0 h1 h2 hl lv st S cs ss) : xWG E D cl Y A p l e R s m args below meth c nL pc lv st S cs ss := by
  obtain ⟨hx, hown, hlocks, hts, hlaw, hcl, hK, hA, hRc, hRs, hrows, huse, htab, hcalls, hthr, hhd⟩ := B
  have hrow := List.all_eq_true.mp hrows _ (xFind_mem hr)
  unfold xRow at hrow
  rw [Bool.and_eq_true] at hrow
  obtain ⟨hd0, hi⟩ := hrow
  have hdec : ∀ k, xlen i = some k → decode c.code pc = .ok (i, k) := by
    intro k hk
    dsimp only at hd0
    cases hdd : decode c.code pc with
    | error z => rw [hdd] at hd0; cases hd0
    | ok q =>
      obtain ⟨i', len⟩ := q
      rw [hdd] at hd0
      simp only [Bool.and_eq_true, decide_eq_true_eq] at hd0
      obtain ⟨e1, e2⟩ := hd0
      subst e1
      rw [hk] at e2
      simp only [decide_eq_true_eq] at e2
      rw [e2]
  have hdecT : ∃ len, decode c.code pc = .ok (i, len) := by
    dsimp only at hd0
    cases hdd : decode c.code pc with
    | error z => rw [hdd] at hd0; cases hd0
    | ok q =>
      obtain ⟨i', len⟩ := q
      rw [hdd] at hd0
      simp only [Bool.and_eq_true, decide_eq_true_eq] at hd0
      obtain ⟨e1, e2⟩ := hd0
      subst e1
      exact ⟨len, rfl⟩
  have hin : ∀ ci ∈ uc, ∀ (C : String) (T : u_T) (N : Nat), cl[ci]? = some (C, T, N) → ∀ w ∈ u_ws C T N, w ∈ ws := by
    intro ci hci C T N hc w hw
    have h := List.all_eq_true.mp huse ci hci
    rw [hc] at h
    simpa using List.all_eq_true.mp h w hw
  have own' : ∀ a x, xCell (eI E) S Y a = some x → xOwn (eI E) Y S A → A a := fun a x h1 h2 => h2 a x h1
  dsimp only at hi
  cases i
  case iconst n =>
    intro H locs ls hlv hR hO hS
    exact lv_iconst hx rfl (hdec 1 rfl) rfl (hgo _ _ _ _ _ _ hv H locs ls hlv hR hO hS)
  case bipush n =>
    intro H locs ls hlv hR hO hS
    exact lv_bipush hx rfl (hdec 2 rfl) rfl (hgo _ _ _ _ _ _ hv H locs ls hlv hR hO hS)
  case sipush n =>
    intro H locs ls hlv hR hO hS
    exact lv_sipush hx rfl (hdec 3 rfl) rfl (hgo _ _ _ _ _ _ hv H locs ls hlv hR hO hS)
  case ldc k =>
    cases h1 with
    | zero =>
      intro H locs ls hlv hR hO hS
      simp only [xIns, decide_eq_true_eq] at hi
      exact lv_ldc hx rfl hown (hts _ hi) (hdec 2 rfl) (hgo _ _ _ _ _ _ hv H locs ls hlv hR hO hS)
    | succ h1 =>
      simp only [xIns, List.any_eq_true, decide_eq_true_eq] at hi
      obtain ⟨q, hq, rfl⟩ := hi
      exact xCall_ok hRc hRs hlocks hcalls hhd hgo hq (hdec 2 rfl) rfl (fun z => by obtain ⟨k9, z⟩ := z; cases z) hv
  case ldc_w k =>
    intro H locs ls hlv hR hO hS
    simp only [xIns, decide_eq_true_eq] at hi
    exact lv_ldcw hx rfl hown (hts _ hi) (hdec 3 rfl) (hgo _ _ _ _ _ _ hv H locs ls hlv hR hO hS)
  case getstatic k =>
    simp only [xIns, List.any_eq_true, decide_eq_true_eq] at hi
    obtain ⟨q, hq, rfl⟩ := hi
    exact xCall_ok hRc hRs hlocks hcalls hhd hgo hq (hdec 3 rfl) rfl (fun z => by obtain ⟨k9, z⟩ := z; cases z) hv
  case anewarray k =>
    simp only [xIns, List.any_eq_true, decide_eq_true_eq] at hi
    obtain ⟨q, hq, rfl⟩ := hi
    exact xCall_ok hRc hRs hlocks hcalls hhd hgo hq (hdec 3 rfl) rfl (fun z => by obtain ⟨k9, z⟩ := z; cases z) hv
  case aastore =>
    simp only [xIns, List.any_eq_true, decide_eq_true_eq] at hi
    obtain ⟨q, hq, rfl⟩ := hi
    exact xCall_ok hRc hRs hlocks hcalls hhd hgo hq (hdec 1 rfl) rfl (fun z => by obtain ⟨k9, z⟩ := z; cases z) hv
  case aconst_null =>
    intro H locs ls hlv hR hO hS
    exact lv_null hx rfl (hdec 1 rfl) (hgo _ _ _ _ _ _ hv H locs ls hlv hR hO hS)

  case iload_n k =>
    obtain ⟨x, e, hv2⟩ := xLI_ex hv
    clear hv
    intro H locs ls hlv hR hO hS
    simp only [xIns, Bool.and_eq_true, decide_eq_true_eq] at hi
    have hl1 := (hlv.2.2 h0 _ e).1
    obtain ⟨q1, q2⟩ := hi
    
    exact lv_iload_n hx rfl (hdec 1 rfl) q1 hl1 (hgo _ _ _ _ _ _ hv2 H locs ls hlv hR hO hS)
  case iload k =>
    obtain ⟨x, e, hv2⟩ := xLI_ex hv
    clear hv
    intro H locs ls hlv hR hO hS
    simp only [xIns, Bool.and_eq_true, decide_eq_true_eq] at hi
    have hl1 := (hlv.2.2 h0 _ e).1
    obtain ⟨q1, q2⟩ := hi
    subst q1
    exact lv_iload hx rfl (hdec 2 rfl) hl1 (hgo _ _ _ _ _ _ hv2 H locs ls hlv hR hO hS)
  case aload_n k =>
    obtain ⟨v, e, hvr, hv⟩ := xLR_ex hv
    intro H locs ls hlv hR hO hS
    simp only [xIns, Bool.and_eq_true, decide_eq_true_eq] at hi
    have hl1 := (hlv.2.2 h0 _ e).1
    obtain ⟨q1, q2⟩ := hi
    
    obtain ⟨r, rfl⟩ := vRef_ex hvr
    cases r with
    | none => exact lv_aload_nN hx rfl (hdec 1 rfl) q1 hl1 (hgo _ _ _ _ _ _ hv H locs ls hlv hR hO hS)
    | some b => exact lv_aload_n hx rfl (hdec 1 rfl) q1 hl1 (hgo _ _ _ _ _ _ hv H locs ls hlv hR hO hS)
  case aload k =>
    obtain ⟨v, e, hvr, hv⟩ := xLR_ex hv
    intro H locs ls hlv hR hO hS
    simp only [xIns, Bool.and_eq_true, decide_eq_true_eq] at hi
    have hl1 := (hlv.2.2 h0 _ e).1
    obtain ⟨q1, q2⟩ := hi
    subst q1
    obtain ⟨r, rfl⟩ := vRef_ex hvr
    cases r with
    | none => exact lv_aloadN hx rfl (hdec 2 rfl) hl1 (hgo _ _ _ _ _ _ hv H locs ls hlv hR hO hS)
    | some b => exact lv_aload hx rfl (hdec 2 rfl) hl1 (hgo _ _ _ _ _ _ hv H locs ls hlv hR hO hS)
  case istore_n k =>
    obtain ⟨x, st, rfl, hv⟩ := xSI_ex hv
    intro H locs ls hlv hR hO hS
    simp only [xIns, Bool.and_eq_true, decide_eq_true_eq] at hi
    obtain ⟨q1, q2⟩ := hi
    
    exact lv_istore_n hx rfl (hdec 1 rfl) q1 (xLok_pairs hlv) q2 rfl (fun ls' hl' => hgo _ _ _ _ _ _ hv H locs ls' (xLok_after hlv rfl hl') hR hO hS)
  case istore k =>
    obtain ⟨x, st, rfl, hv⟩ := xSI_ex hv
    intro H locs ls hlv hR hO hS
    simp only [xIns, Bool.and_eq_true, decide_eq_true_eq] at hi
    obtain ⟨q1, q2⟩ := hi
    subst q1
    exact lv_istore hx rfl (hdec 2 rfl) (xLok_pairs hlv) q2 rfl (fun ls' hl' => hgo _ _ _ _ _ _ hv H locs ls' (xLok_after hlv rfl hl') hR hO hS)
  case astore_n k =>
    obtain ⟨v, st, rfl, hvr, hv⟩ := xS1_ex hv
    intro H locs ls hlv hR hO hS
    simp only [xIns, Bool.and_eq_true, decide_eq_true_eq] at hi
    obtain ⟨q1, q2⟩ := hi
    
    obtain ⟨r, rfl⟩ := vRef_ex hvr
    cases r with
    | none => exact lv_astore_nN hx rfl (hdec 1 rfl) q1 (xLok_pairs hlv) q2 rfl (fun ls' hl' => hgo _ _ _ _ _ _ hv H locs ls' (xLok_after hlv rfl hl') hR hO hS)
    | some b => exact lv_astore_n hx rfl (hdec 1 rfl) q1 (xLok_pairs hlv) q2 rfl (fun ls' hl' => hgo _ _ _ _ _ _ hv H locs ls' (xLok_after hlv rfl hl') hR hO hS)
  case astore k =>
    obtain ⟨v, st, rfl, hvr, hv⟩ := xS1_ex hv
    intro H locs ls hlv hR hO hS
    simp only [xIns, Bool.and_eq_true, decide_eq_true_eq] at hi
    obtain ⟨q1, q2⟩ := hi
    subst q1
    obtain ⟨r, rfl⟩ := vRef_ex hvr
    cases r with
    | none => exact lv_astoreN hx rfl (hdec 2 rfl) (xLok_pairs hlv) q2 rfl (fun ls' hl' => hgo _ _ _ _ _ _ hv H locs ls' (xLok_after hlv rfl hl') hR hO hS)
    | some b => exact lv_astore hx rfl (hdec 2 rfl) (xLok_pairs hlv) q2 rfl (fun ls' hl' => hgo _ _ _ _ _ _ hv H locs ls' (xLok_after hlv rfl hl') hR hO hS)
  case iinc k n =>
    obtain ⟨x, e, hv⟩ := xLI_ex hv
    intro H locs ls hlv hR hO hS
    simp only [xIns, Bool.and_eq_true, decide_eq_true_eq] at hi
    obtain ⟨q1, q2⟩ := hi
    subst q1
    obtain ⟨j, hj⟩ := xPairs_at e
    exact lv_iinc hx rfl (hdec 3 rfl) (xLok_pairs hlv) hj rfl q2 rfl (fun ls' hl' => hgo _ _ _ _ _ _ hv H locs ls' (xLok_after hlv rfl hl') hR hO hS)
  case iadd =>
    obtain ⟨y, st, rfl, hv⟩ := xSI_ex hv
    obtain ⟨x, st, rfl, hv⟩ := xSI_ex hv
    intro H locs ls hlv hR hO hS
    exact lv_iadd hx rfl (hdec 1 rfl) (hgo _ _ _ _ _ _ hv H locs ls hlv hR hO hS)
  case isub =>
    obtain ⟨y, st, rfl, hv⟩ := xSI_ex hv
    obtain ⟨x, st, rfl, hv⟩ := xSI_ex hv
    intro H locs ls hlv hR hO hS
    exact lv_isub hx rfl (hdec 1 rfl) (hgo _ _ _ _ _ _ hv H locs ls hlv hR hO hS)
  case imul =>
    obtain ⟨y, st, rfl, hv⟩ := xSI_ex hv
    obtain ⟨x, st, rfl, hv⟩ := xSI_ex hv
    intro H locs ls hlv hR hO hS
    exact lv_imul hx rfl (hdec 1 rfl) (hgo _ _ _ _ _ _ hv H locs ls hlv hR hO hS)
  case iand =>
    obtain ⟨y, st, rfl, hv⟩ := xSI_ex hv
    obtain ⟨x, st, rfl, hv⟩ := xSI_ex hv
    intro H locs ls hlv hR hO hS
    exact lv_iand hx rfl (hdec 1 rfl) (hgo _ _ _ _ _ _ hv H locs ls hlv hR hO hS)
  case ior =>
    obtain ⟨y, st, rfl, hv⟩ := xSI_ex hv
    obtain ⟨x, st, rfl, hv⟩ := xSI_ex hv
    intro H locs ls hlv hR hO hS
    exact lv_ior hx rfl (hdec 1 rfl) (hgo _ _ _ _ _ _ hv H locs ls hlv hR hO hS)
  case ixor =>
    obtain ⟨y, st, rfl, hv⟩ := xSI_ex hv
    obtain ⟨x, st, rfl, hv⟩ := xSI_ex hv
    intro H locs ls hlv hR hO hS
    exact lv_ixor hx rfl (hdec 1 rfl) (hgo _ _ _ _ _ _ hv H locs ls hlv hR hO hS)
  case ishl =>
    obtain ⟨y, st, rfl, hv⟩ := xSI_ex hv
    obtain ⟨x, st, rfl, hv⟩ := xSI_ex hv
    intro H locs ls hlv hR hO hS
    exact lv_ishl hx rfl (hdec 1 rfl) (hgo _ _ _ _ _ _ hv H locs ls hlv hR hO hS)
  case ishr =>
    obtain ⟨y, st, rfl, hv⟩ := xSI_ex hv
    obtain ⟨x, st, rfl, hv⟩ := xSI_ex hv
    intro H locs ls hlv hR hO hS
    exact lv_ishr hx rfl (hdec 1 rfl) (hgo _ _ _ _ _ _ hv H locs ls hlv hR hO hS)
  case iushr =>
    obtain ⟨y, st, rfl, hv⟩ := xSI_ex hv
    obtain ⟨x, st, rfl, hv⟩ := xSI_ex hv
    intro H locs ls hlv hR hO hS
    exact lv_iushr hx rfl (hdec 1 rfl) rfl (hgo _ _ _ _ _ _ hv H locs ls hlv hR hO hS)
  case idiv =>
    obtain ⟨y, st, rfl, hv⟩ := xSI_ex hv
    obtain ⟨x, st, rfl, hne, hv⟩ := xSI_ex hv
    intro H locs ls hlv hR hO hS
    exact lv_idiv hx rfl (hdec 1 rfl) hne (hgo _ _ _ _ _ _ hv H locs ls hlv hR hO hS)
  case irem =>
    obtain ⟨y, st, rfl, hv⟩ := xSI_ex hv
    obtain ⟨x, st, rfl, hne, hv⟩ := xSI_ex hv
    intro H locs ls hlv hR hO hS
    exact lv_irem hx rfl (hdec 1 rfl) hne (hgo _ _ _ _ _ _ hv H locs ls hlv hR hO hS)
  case ineg =>
    obtain ⟨x, st, rfl, hv⟩ := xSI_ex hv
    intro H locs ls hlv hR hO hS
    exact lv_ineg hx rfl (hdec 1 rfl) (hgo _ _ _ _ _ _ hv H locs ls hlv hR hO hS)
  case dup =>
    obtain ⟨x, st, rfl, hc, hv⟩ := xS1_ex hv
    intro H locs ls hlv hR hO hS
    exact lv_dup hx rfl (hdec 1 rfl) hc (hgo _ _ _ _ _ _ hv H locs ls hlv hR hO hS)
  case pop =>
    obtain ⟨x, st, rfl, hc, hv⟩ := xS1_ex hv
    intro H locs ls hlv hR hO hS
    exact lv_pop hx rfl (hdec 1 rfl) hc (hgo _ _ _ _ _ _ hv H locs ls hlv hR hO hS)
  case dup_x1 =>
    obtain ⟨x, st, rfl, hv⟩ := xS1_ex hv
    obtain ⟨y, st, rfl, hc, hv⟩ := xS1_ex hv
    intro H locs ls hlv hR hO hS
    exact lv_dup_x1 hx rfl (hdec 1 rfl) hc.1 hc.2 (hgo _ _ _ _ _ _ hv H locs ls hlv hR hO hS)
  case dup2 =>
    obtain ⟨x, st, rfl, hv⟩ := xS1_ex hv
    obtain ⟨y, st, rfl, hc, hv⟩ := xS1_ex hv
    intro H locs ls hlv hR hO hS
    exact lv_dup2_11 hx rfl (hdec 1 rfl) hc.1 hc.2 (hgo _ _ _ _ _ _ hv H locs ls hlv hR hO hS)
  case dup_x2 =>
    obtain ⟨x, st, rfl, hv⟩ := xS1_ex hv
    obtain ⟨y, st, rfl, hv⟩ := xS1_ex hv
    obtain ⟨z, st, rfl, hc, hv⟩ := xS1_ex hv
    intro H locs ls hlv hR hO hS
    exact lv_dup_x2 hx rfl (hdec 1 rfl) hc.1 hc.2.1 hc.2.2 (hgo _ _ _ _ _ _ hv H locs ls hlv hR hO hS)
  case ifCond q o =>
    simp only [xIns, decide_eq_true_eq] at hi
    cases q
    case eq =>
      obtain ⟨x, st, rfl, hv⟩ := xSI_ex hv
      intro H locs ls hlv hR hO hS
      exact lv_if_eq hx rfl (hdec 3 rfl) hi (fun q => hgo _ _ _ _ _ _ (hv.1 q) H locs ls hlv hR hO hS) (fun q => hgo _ _ _ _ _ _ (hv.2 q) H locs ls hlv hR hO hS)
    case ne =>
      obtain ⟨x, st, rfl, hv⟩ := xSI_ex hv
      intro H locs ls hlv hR hO hS
      exact lv_if_ne hx rfl (hdec 3 rfl) hi (fun q => hgo _ _ _ _ _ _ (hv.1 q) H locs ls hlv hR hO hS) (fun q => hgo _ _ _ _ _ _ (hv.2 q) H locs ls hlv hR hO hS)
    case lt =>
      obtain ⟨x, st, rfl, hv⟩ := xSI_ex hv
      intro H locs ls hlv hR hO hS
      exact lv_if_lt hx rfl (hdec 3 rfl) hi (fun q => hgo _ _ _ _ _ _ (hv.1 q) H locs ls hlv hR hO hS) (fun q => hgo _ _ _ _ _ _ (hv.2 q) H locs ls hlv hR hO hS)
    case ge =>
      obtain ⟨x, st, rfl, hv⟩ := xSI_ex hv
      intro H locs ls hlv hR hO hS
      exact lv_if_ge hx rfl (hdec 3 rfl) hi (fun q => hgo _ _ _ _ _ _ (hv.1 q) H locs ls hlv hR hO hS) (fun q => hgo _ _ _ _ _ _ (hv.2 q) H locs ls hlv hR hO hS)
    case gt =>
      obtain ⟨x, st, rfl, hv⟩ := xSI_ex hv
      intro H locs ls hlv hR hO hS
      exact lv_if_gt hx rfl (hdec 3 rfl) hi (fun q => hgo _ _ _ _ _ _ (hv.1 q) H locs ls hlv hR hO hS) (fun q => hgo _ _ _ _ _ _ (hv.2 q) H locs ls hlv hR hO hS)
    case le =>
      obtain ⟨x, st, rfl, hv⟩ := xSI_ex hv
      intro H locs ls hlv hR hO hS
      exact lv_if_le hx rfl (hdec 3 rfl) hi (fun q => hgo _ _ _ _ _ _ (hv.1 q) H locs ls hlv hR hO hS) (fun q => hgo _ _ _ _ _ _ (hv.2 q) H locs ls hlv hR hO hS)
  case if_icmp q o =>
    simp only [xIns, decide_eq_true_eq] at hi
    cases q
    case eq =>
      obtain ⟨y, st, rfl, hv⟩ := xSI_ex hv
      obtain ⟨x, st, rfl, hv⟩ := xSI_ex hv
      intro H locs ls hlv hR hO hS
      exact lv_icmp_eq hx rfl (hdec 3 rfl) hi (fun q => hgo _ _ _ _ _ _ (hv.1 q) H locs ls hlv hR hO hS) (fun q => hgo _ _ _ _ _ _ (hv.2 q) H locs ls hlv hR hO hS)
    case ne =>
      obtain ⟨y, st, rfl, hv⟩ := xSI_ex hv
      obtain ⟨x, st, rfl, hv⟩ := xSI_ex hv
      intro H locs ls hlv hR hO hS
      exact lv_icmp_ne hx rfl (hdec 3 rfl) hi (fun q => hgo _ _ _ _ _ _ (hv.1 q) H locs ls hlv hR hO hS) (fun q => hgo _ _ _ _ _ _ (hv.2 q) H locs ls hlv hR hO hS)
    case lt =>
      obtain ⟨y, st, rfl, hv⟩ := xSI_ex hv
      obtain ⟨x, st, rfl, hv⟩ := xSI_ex hv
      intro H locs ls hlv hR hO hS
      exact lv_icmp_lt hx rfl (hdec 3 rfl) hi (fun q => hgo _ _ _ _ _ _ (hv.1 q) H locs ls hlv hR hO hS) (fun q => hgo _ _ _ _ _ _ (hv.2 q) H locs ls hlv hR hO hS)
    case ge =>
      obtain ⟨y, st, rfl, hv⟩ := xSI_ex hv
      obtain ⟨x, st, rfl, hv⟩ := xSI_ex hv
      intro H locs ls hlv hR hO hS
      exact lv_icmp_ge hx rfl (hdec 3 rfl) hi (fun q => hgo _ _ _ _ _ _ (hv.1 q) H locs ls hlv hR hO hS) (fun q => hgo _ _ _ _ _ _ (hv.2 q) H locs ls hlv hR hO hS)
    case gt =>
      obtain ⟨y, st, rfl, hv⟩ := xSI_ex hv
      obtain ⟨x, st, rfl, hv⟩ := xSI_ex hv
      intro H locs ls hlv hR hO hS
      exact lv_icmp_gt hx rfl (hdec 3 rfl) hi (fun q => hgo _ _ _ _ _ _ (hv.1 q) H locs ls hlv hR hO hS) (fun q => hgo _ _ _ _ _ _ (hv.2 q) H locs ls hlv hR hO hS)
    case le =>
      obtain ⟨y, st, rfl, hv⟩ := xSI_ex hv
      obtain ⟨x, st, rfl, hv⟩ := xSI_ex hv
      intro H locs ls hlv hR hO hS
      exact lv_icmp_le hx rfl (hdec 3 rfl) hi (fun q => hgo _ _ _ _ _ _ (hv.1 q) H locs ls hlv hR hO hS) (fun q => hgo _ _ _ _ _ _ (hv.2 q) H locs ls hlv hR hO hS)
  case if_acmp q o =>
    simp only [xIns, decide_eq_true_eq] at hi
    cases q
    case eq =>
      obtain ⟨y, st, rfl, hv⟩ := xS1_ex hv
      obtain ⟨x, st, rfl, ⟨hr1, hr2⟩, hv⟩ := xS1_ex hv
      obtain ⟨rx, rfl⟩ := vRef_ex hr1
      obtain ⟨ry, rfl⟩ := vRef_ex hr2
      intro H locs ls hlv hR hO hS
      exact lv_acmp_eq hx rfl (hdec 3 rfl) hi (fun q => hgo _ _ _ _ _ _ (hv.1 (by rw [q])) H locs ls hlv hR hO hS) (fun q => hgo _ _ _ _ _ _ (hv.2 (fun z => q (xrf_inj z))) H locs ls hlv hR hO hS)
    case ne =>
      obtain ⟨y, st, rfl, hv⟩ := xS1_ex hv
      obtain ⟨x, st, rfl, ⟨hr1, hr2⟩, hv⟩ := xS1_ex hv
      obtain ⟨rx, rfl⟩ := vRef_ex hr1
      obtain ⟨ry, rfl⟩ := vRef_ex hr2
      intro H locs ls hlv hR hO hS
      exact lv_acmp_ne hx rfl (hdec 3 rfl) hi (fun q => hgo _ _ _ _ _ _ (hv.1 (fun z => q (xrf_inj z))) H locs ls hlv hR hO hS) (fun q => hgo _ _ _ _ _ _ (hv.2 (by rw [q])) H locs ls hlv hR hO hS)
  case ifnull o =>
    simp only [xIns, decide_eq_true_eq] at hi
    obtain ⟨x, st, rfl, hr1, hv⟩ := xS1_ex hv
    obtain ⟨rx, rfl⟩ := vRef_ex hr1
    intro H locs ls hlv hR hO hS
    cases rx with
    | none => exact lv_ifnullN hx rfl (hdec 3 rfl) hi (hgo _ _ _ _ _ _ (hv.1 rfl) H locs ls hlv hR hO hS)
    | some b => exact lv_ifnull hx rfl (hdec 3 rfl) (hgo _ _ _ _ _ _ (hv.2 (fun z => by cases z)) H locs ls hlv hR hO hS)
  case ifnonnull o =>
    simp only [xIns, decide_eq_true_eq] at hi
    obtain ⟨x, st, rfl, hr1, hv⟩ := xS1_ex hv
    obtain ⟨rx, rfl⟩ := vRef_ex hr1
    intro H locs ls hlv hR hO hS
    cases rx with
    | none => exact lv_ifnonnullN hx rfl (hdec 3 rfl) (hgo _ _ _ _ _ _ (hv.2 rfl) H locs ls hlv hR hO hS)
    | some b => exact lv_ifnonnull hx rfl (hdec 3 rfl) hi (hgo _ _ _ _ _ _ (hv.1 (fun z => by cases z)) H locs ls hlv hR hO hS)
  case goto o =>
    simp only [xIns, decide_eq_true_eq] at hi
    intro H locs ls hlv hR hO hS
    exact lv_goto hx rfl (hdec 3 rfl) hi (hgo _ _ _ _ _ _ hv H locs ls hlv hR hO hS)
  case tableswitch d lo hi9 offs =>
    simp only [xIns, Bool.and_eq_true, decide_eq_true_eq] at hi
    obtain ⟨⟨⟨t1, t2⟩, t3⟩, t4⟩ := hi
    obtain ⟨x, st, rfl, hv⟩ := xSI_ex hv
    intro H locs ls hlv hR hO hS
    obtain ⟨len, hdt⟩ := hdecT
    by_cases hlo : x.toInt < lo ∨ hi9 < x.toInt
    · exact lv_tableOut hx rfl hdt hlo t1 (hgo _ _ _ _ _ _ (hv.1 hlo) H locs ls hlv hR hO hS)
    · have hj : (x.toInt - lo).toNat < offs.size := by omega
      have hjl : (x.toInt - lo).toNat < hl.length := by omega
      have hof : offs[(x.toInt - lo).toNat]? = some offs[(x.toInt - lo).toNat] := Array.getElem?_eq_getElem hj
      have hlf : hl[(x.toInt - lo).toNat]? = some hl[(x.toInt - lo).toNat] := List.getElem?_eq_getElem hjl
      have h4 := List.all_eq_true.mp t4 _ (List.mem_range.mpr hj)
      simp only [decide_eq_true_eq] at h4
      rw [hof, hlf] at h4
      simp only [Option.map_some, Option.some.injEq] at h4
      have hv9 := xTs_at hv.2 hlf (by omega)
      exact lv_tableIn hx rfl hdt (fun z => hlo (Or.inl z)) (fun z => hlo (Or.inr z)) hof h4 (hgo _ _ _ _ _ _ hv9 H locs ls hlv hR hO hS)
  case getfield k =>
    obtain ⟨a, st, rfl, hv⟩ := xSR_ex hv
    intro H locs ls hlv hR hO hS
    obtain ⟨fs, v, hc1, hf, hv⟩ := (hlaw S Y).2.1 _ _ _ _ hv
    simp only [xIns, Bool.and_eq_true, decide_eq_true_eq] at hi
    obtain ⟨hu, hi⟩ := hi
    cases hcc : cl[h0]? with
    | none => rw [hcc] at hi; cases hi
    | some q =>
      obtain ⟨C, T, N⟩ := q
      rw [hcc] at hi
      simp only [Bool.and_eq_true, Bool.or_eq_true, decide_eq_true_eq] at hi
      obtain ⟨hk, hw⟩ := hi
      rcases hw with hw | ⟨hw, hw2⟩
      · exact va_get (D := D) (ci := h0) hx rfl hts (hin _ hu _ _ _ hcc) hown hK (xP1 (hR a _ hc1)) 0 rfl hcc h1 hk (hts _ hw) (fun _ h9 => h9) hf (hdec 3 rfl) (hgo _ _ _ _ _ _ hv H locs ls hlv hR hO hS)
      · exact va_get (D := D) (ci := h0) hx rfl hts (hin _ hu _ _ _ hcc) hown hK (xP1 (hR a _ hc1)) 0 rfl hcc h1 hk (hts _ hw) (fun z h9 => u_same (hts _ hw2) z h9) hf (hdec 3 rfl) (hgo _ _ _ _ _ _ hv H locs ls hlv hR hO hS)
  case putfield k =>
    obtain ⟨v, st, rfl, hv⟩ := xS1_ex hv
    obtain ⟨a, st, rfl, hok, hv⟩ := xSR_ex hv
    intro H locs ls hlv hR hO hS
    obtain ⟨fs, S', hc1, hlen, hv, hc2, hc3⟩ := (hlaw S Y).2.2.1 _ _ _ _ _ hv
    simp only [xIns, Bool.and_eq_true, decide_eq_true_eq] at hi
    obtain ⟨hu, hi⟩ := hi
    cases hcc : cl[h0]? with
    | none => rw [hcc] at hi; cases hi
    | some q =>
      obtain ⟨C, T, N⟩ := q
      rw [hcc] at hi
      simp only [Bool.and_eq_true, Bool.or_eq_true, decide_eq_true_eq, Bool.not_eq_true', beq_iff_eq] at hi
      obtain ⟨⟨⟨hk, hw⟩, hfin⟩, hty⟩ := hi
      obtain ⟨ty0, g1, g2, g3⟩ := hcl _ _ _ _ hcc
      have hz : ∃ ty, parseFieldDescriptor (T h1).2.2.1 = some ty ∧ ((h2 = 0 ∧ ty = .int) ∨ (h2 = 1 ∧ ty = .boolean) ∨ (h2 = 2 ∧ ((∃ n, ty = .object n) ∨ ∃ t, ty = .array t))) := by
        cases hp : parseFieldDescriptor (T h1).2.2.1 with
        | none => rw [hp] at hty; cases hty
        | some ty =>
          rw [hp] at hty
          refine ⟨ty, rfl, ?_⟩
          cases ty <;> first | cases hty | (simp only [decide_eq_true_eq] at hty; simp [hty])
      obtain ⟨ty, hp, hz⟩ := hz
      obtain ⟨hn, hfit⟩ := xOk_fit hok hz
      have hlk : ∃ ref, (Jvm.Cond.fieldLink own k ref (T h1).2.1 (T h1).2.2.1).before args s = true ∧ ∀ x, s.fieldFound? (T h1).1 (T h1).2.1 (T h1).2.2.1 = some x → s.fieldFound? ref (T h1).2.1 (T h1).2.2.1 = some x := by
        rcases hw with hw | ⟨hw, hw2⟩
        · exact ⟨_, hts _ hw, fun _ h9 => h9⟩
        · exact ⟨_, hts _ hw, fun z h9 => u_same (hts _ hw2) z h9⟩
      obtain ⟨ref, hlk, hsame⟩ := hlk
      exact xw_put (D := D) (ci := h0) hx rfl hts (hin _ hu _ _ _ hcc) ty0 g1 g2 hown hK (hR a _ hc1) hS (hO a _ hc1) hcc h1 hk hlk hsame hfin hp hn hfit hlen (hdec 3 rfl)
        (fun H1 locs1 k1 k2 k3 k4 => hgo _ _ _ _ _ _ hv H1 locs1 ls hlv (xRep_set hR hc2 hc3 k1 k3) (xOwn_set hO (hO a _ hc1) hc3) k4)
  case iaload =>
    cases h2 with
    | zero =>
      obtain ⟨i9, st, rfl, hv⟩ := xSI_ex hv
      obtain ⟨a, st, rfl, hv⟩ := xSR_ex hv
      intro H locs ls hlv hR hO hS
      obtain ⟨n, hin9, hv1, -⟩ := (hlaw S Y).2.2.2.1 _ _ _ _ _ hv
      obtain ⟨f, hc1, hv⟩ := hv1 (by decide)
      exact va_iald hx rfl hK (xP1 (hR a _ hc1)) 0 0 rfl rfl hin9 (hdec 1 rfl) (hgo _ _ _ _ _ _ hv H locs ls hlv hR hO hS)
    | succ h2 =>
      simp only [xIns, List.any_eq_true, decide_eq_true_eq] at hi
      obtain ⟨q, hq, rfl⟩ := hi
      exact xCall_ok hRc hRs hlocks hcalls hhd hgo hq (hdec 1 rfl) rfl (fun z => by obtain ⟨k9, z⟩ := z; cases z) hv
  case baload =>
    obtain ⟨i9, st, rfl, hv⟩ := xSI_ex hv
    obtain ⟨a, st, rfl, hv⟩ := xSR_ex hv
    intro H locs ls hlv hR hO hS
    obtain ⟨n, hin9, hv1, -⟩ := (hlaw S Y).2.2.2.1 _ _ _ _ _ hv
    obtain ⟨f, hc1, hv⟩ := hv1 (by decide)
    exact va_zald hx rfl hK (xP1 (hR a _ hc1)) 0 1 rfl rfl hin9 (hdec 1 rfl) (hgo _ _ _ _ _ _ hv H locs ls hlv hR hO hS)
  case aaload =>
    obtain ⟨i9, st, rfl, hv⟩ := xSI_ex hv
    obtain ⟨a, st, rfl, hv⟩ := xSR_ex hv
    intro H locs ls hlv hR hO hS
    obtain ⟨n, hin9, -, hv1⟩ := (hlaw S Y).2.2.2.1 _ _ _ _ _ hv
    obtain ⟨f, hc1, hv⟩ := hv1 rfl
    exact va_aldq (C := "java/lang/Object") hx rfl hK (xP1 (hR a _ hc1)) 0 2 rfl rfl hin9 (hdec 1 rfl) (hgo _ _ _ _ _ _ hv H locs ls hlv hR hO hS)
  case iastore =>
    obtain ⟨x, st, rfl, hv⟩ := xSI_ex hv
    obtain ⟨i9, st, rfl, hv⟩ := xSI_ex hv
    obtain ⟨a, st, rfl, hv⟩ := xSR_ex hv
    intro H locs ls hlv hR hO hS
    obtain ⟨n, f, S', hin9, hc1, hv, hc2, hc3⟩ := (hlaw S Y).2.2.2.2.1 _ _ _ _ _ _ (by decide) hv
    exact xw_iast hx rfl hK 0 (hR a _ hc1) hS (hO a _ hc1) rfl hin9 (hdec 1 rfl) (fun H1 locs1 k1 k3 k4 => hgo _ _ _ _ _ _ hv H1 locs1 ls hlv (xRep_set hR hc2 hc3 k1 k3) (xOwn_set hO (hO a _ hc1) hc3) k4)
  case bastore =>
    obtain ⟨x, st, rfl, hv⟩ := xSI_ex hv
    obtain ⟨i9, st, rfl, hv⟩ := xSI_ex hv
    obtain ⟨a, st, rfl, hx01, hv⟩ := xSR_ex hv
    intro H locs ls hlv hR hO hS
    obtain ⟨n, f, S', hin9, hc1, hv, hc2, hc3⟩ := (hlaw S Y).2.2.2.2.1 _ _ _ _ _ _ (by decide) hv
    exact xw_zast hx rfl hK 1 (hR a _ hc1) hS (hO a _ hc1) rfl hin9 (hdec 1 rfl) (fun H1 locs1 k1 k3 k4 => hgo _ _ _ _ _ _ hv H1 locs1 ls hlv (xRep_set hR hc2 hc3 (by rw [xvp_bool hx01] at k1; exact k1) k3) (xOwn_set hO (hO a _ hc1) hc3) k4)
  case arraylength =>
    cases h2 with
    | zero =>
      obtain ⟨a, st, rfl, hv⟩ := xSR_ex hv
      intro H locs ls hlv hR hO hS
      simp only [xIns, decide_eq_true_eq] at hi
      obtain ⟨x, hc1, hv⟩ := (hlaw S Y).2.2.2.2.2.1 _ _ _ _ hv
      have ht : ∃ ty, ([(Y 0, .int), (Y 1, .boolean), (Y 2, .object "java/lang/Object"), (Y 3, .long)] : List (ClassId × FieldType))[h1]? = some (Y h1, ty) := by
        rcases (show h1 = 0 ∨ h1 = 1 ∨ h1 = 2 by omega) with rfl | rfl | rfl <;> exact ⟨_, rfl⟩
      obtain ⟨ty, ht⟩ := ht
      exact va_alen hx rfl hK (xP1 (hR a _ hc1)) 0 h1 rfl ht rfl (hdec 1 rfl) (hgo _ _ _ _ _ _ hv H locs ls hlv hR hO hS)
    | succ h2 =>
      simp only [xIns, List.any_eq_true, decide_eq_true_eq] at hi
      obtain ⟨q, hq, rfl⟩ := hi
      exact xCall_ok hRc hRs hlocks hcalls hhd hgo hq (hdec 1 rfl) rfl (fun z => by obtain ⟨k9, z⟩ := z; cases z) hv
  case lconst k9 =>
    simp only [xIns, List.any_eq_true, decide_eq_true_eq] at hi
    obtain ⟨q, hq, rfl⟩ := hi
    exact xCall_ok hRc hRs hlocks hcalls hhd hgo hq (hdec 1 rfl) rfl (fun z => by obtain ⟨k9, z⟩ := z; cases z) hv
  case i2l =>
    simp only [xIns, List.any_eq_true, decide_eq_true_eq] at hi
    obtain ⟨q, hq, rfl⟩ := hi
    exact xCall_ok hRc hRs hlocks hcalls hhd hgo hq (hdec 1 rfl) rfl (fun z => by obtain ⟨k9, z⟩ := z; cases z) hv
  case laload =>
    simp only [xIns, List.any_eq_true, decide_eq_true_eq] at hi
    obtain ⟨q, hq, rfl⟩ := hi
    exact xCall_ok hRc hRs hlocks hcalls hhd hgo hq (hdec 1 rfl) rfl (fun z => by obtain ⟨k9, z⟩ := z; cases z) hv
  case lastore =>
    simp only [xIns, List.any_eq_true, decide_eq_true_eq] at hi
    obtain ⟨q, hq, rfl⟩ := hi
    exact xCall_ok hRc hRs hlocks hcalls hhd hgo hq (hdec 1 rfl) rfl (fun z => by obtain ⟨k9, z⟩ := z; cases z) hv
  case lcmp =>
    simp only [xIns, List.any_eq_true, decide_eq_true_eq] at hi
    obtain ⟨q, hq, rfl⟩ := hi
    exact xCall_ok hRc hRs hlocks hcalls hhd hgo hq (hdec 1 rfl) rfl (fun z => by obtain ⟨k9, z⟩ := z; cases z) hv
  case checkcast k =>
    obtain ⟨a, st, rfl, hisa, hv⟩ := xSR_ex hv
    intro H locs ls hlv hR hO hS
    obtain ⟨fs, hc1⟩ := (hlaw S Y).1 _ _ hisa
    simp only [xIns] at hi
    cases hcc : cl[h0]? with
    | none => rw [hcc] at hi; cases hi
    | some q =>
      obtain ⟨C, T, N⟩ := q
      rw [hcc] at hi
      simp only [decide_eq_true_eq] at hi
      exact va_castS hx rfl hown (hts _ hi) (hK.1 _ _ hcc).2 (va_recv hK (xP1 (hR a _ hc1)) hcc (q0 := 0) rfl) (hdec 3 rfl) (hgo _ _ _ _ _ _ hv H locs ls hlv hR hO hS)
  case new k =>
    cases h0 with
    | zero =>
      obtain ⟨b1, b2, hv⟩ := hv
      intro H locs ls hlv hR hO hS
      simp only [xIns, Bool.and_eq_true, decide_eq_true_eq] at hi
      obtain ⟨hu, hi⟩ := hi
      cases hcc : cl[h1]? with
      | none => rw [hcc] at hi; cases hi
      | some q =>
        obtain ⟨C, T, N⟩ := q
        rw [hcc] at hi
        simp only [Bool.and_eq_true, decide_eq_true_eq] at hi
        obtain ⟨⟨⟨w1, w2⟩, w3⟩, w4⟩ := hi
        subst w4
        obtain ⟨ty0, g1, g2, g3⟩ := hcl _ _ _ _ hcc
        have hnone : xCell (eI E) S Y H.size = none := by
          cases hz : xCell (eI E) S Y H.size with
          | none => rfl
          | some x => exact absurd (hR _ _ hz).lt (Nat.lt_irrefl _)
        obtain ⟨S', hv, hc2, hc3⟩ := (hlaw S Y).2.2.2.2.2.2.1 _ _ hv _ hnone
        refine xw_new (D := D) (ci := h1) hx rfl hts (hin _ hu _ _ _ hcc) ty0 g1 hown (hts _ w1) (hts _ w2) (hts _ w3) hK hS hcc g3 (by rw [hRc]; exact b1) (by rw [hRs]; exact b2) (hdec 3 rfl) (fun H1 k1 k3 k4 => ?_)
        exact hgo _ _ _ _ _ _ hv H1 locs ls hlv (fun b y hb => by
          by_cases hbq : b = H.size
          · subst hbq; rw [hc2] at hb; cases hb; exact k1
          · rw [hc3 b hbq] at hb; exact (hR b y hb).kept (k3 b (hR b y hb).lt)) (xOwn_set hO (hA _ hS.1) hc3) k4
    | succ h0 =>
      obtain ⟨b0, b1, b2, hv⟩ := hv
      intro H locs ls hlv hR hO hS
      simp only [xIns, decide_eq_true_eq] at hi
      exact hthr _ hi _ _ _ _ H locs ls st cs ss hlv.1 hS b0 (by rw [hRc]; exact b1) (by rw [hRs]; exact b2) b1 b2 (fun t _ hz hk => ⟨⟨S, hv, fun b y hb => (hR b y hb).kept (hk b (hR b y hb).lt), hO⟩, Nat.le_trans hS.1 hz, fun q h1 h2 => (hk q (Nat.lt_of_lt_of_le h1 hS.1)).trans (hS.2.1 q h1 h2)⟩)
  case newarray t =>
    cases h2 with
    | zero =>
      obtain ⟨n, st, rfl, ⟨n1, n2⟩, b1, b2, hv⟩ := xSI_ex hv
      intro H locs ls hlv hR hO hS
      simp only [xIns, Bool.and_eq_true, decide_eq_true_eq] at hi
      obtain ⟨⟨w1, w2⟩, w3⟩ := hi
      have hnone : xCell (eI E) S Y H.size = none := by
        cases hz : xCell (eI E) S Y H.size with
        | none => rfl
        | some x => exact absurd (hR _ _ hz).lt (Nat.lt_irrefl _)
      obtain ⟨S', hv, hc2, hc3⟩ := (hlaw S Y).2.2.2.2.2.2.2 _ _ _ w1 hv _ hnone
      have hnm : s.vm.findClass ("[" ++ (xTy h0).toString) = some (Y h0) := by
        rcases (show h0 = 0 ∨ h0 = 1 by omega) with rfl | rfl
        · exact (hK.2 0 _ rfl).2
        · exact (hK.2 1 _ rfl).2
      refine xw_newa (cA := Y h0) hx rfl (by rw [w2]; exact hts _ w3) w2 hnm hS n1 rfl ?_ (by rw [hRc]; exact b1) (by rw [hRs]; exact b2) (hdec 2 rfl) (fun H1 k1 k3 k4 => ?_)
      · rcases (show h0 = 0 ∨ h0 = 1 by omega) with rfl | rfl
        · show _ * 4 ≤ _; omega
        · show _ * 1 ≤ _; omega
      · exact hgo _ _ _ _ _ _ hv H1 locs ls hlv (fun b y hb => by
            by_cases hbq : b = H.size
            · subst hbq; rw [hc2] at hb; cases hb
              show H1[H.size]? = some (vp_cell _ _)
              rw [k1, vp_cell_i]
              rcases (show h0 = 0 ∨ h0 = 1 by omega) with rfl | rfl <;> rfl
            · rw [hc3 b hbq] at hb; exact (hR b y hb).kept (k3 b (hR b y hb).lt)) (xOwn_set hO (hA _ hS.1) hc3) k4
    | succ h2 =>
      simp only [xIns, List.any_eq_true, decide_eq_true_eq] at hi
      obtain ⟨q, hq, rfl⟩ := hi
      exact xCall_ok hRc hRs hlocks hcalls hhd hgo hq (hdec 2 rfl) rfl (fun z => by obtain ⟨k9, z⟩ := z; cases z) hv
  case invokevirtual k =>
    simp only [xIns, List.any_eq_true, decide_eq_true_eq] at hi
    obtain ⟨q, hq, rfl⟩ := hi
    obtain ⟨hrc, hv⟩ := hv
    exact xCall_ok hRc hRs hlocks hcalls hhd hgo hq (hdec 3 rfl) rfl (fun z => hrc) hv
  case invokestatic k =>
    simp only [xIns, List.any_eq_true, decide_eq_true_eq] at hi
    obtain ⟨q, hq, rfl⟩ := hi
    have hrc : True := trivial
    exact xCall_ok hRc hRs hlocks hcalls hhd hgo hq (hdec 3 rfl) rfl (fun z => by obtain ⟨k9, z⟩ := z; cases z) hv
  case invokespecial k =>
    simp only [xIns, List.any_eq_true, decide_eq_true_eq] at hi
    obtain ⟨q, hq, rfl⟩ := hi
    have hrc : True := trivial
    exact xCall_ok hRc hRs hlocks hcalls hhd hgo hq (hdec 3 rfl) rfl (fun z => by obtain ⟨k9, z⟩ := z; cases z) hv
  case ireturn =>
    obtain ⟨x, st, rfl, rfl, hb, b1, b2, hv⟩ := xSI_ex hv
    intro H locs ls hlv hR hO hS
    simp only [xIns, decide_eq_true_eq] at hi
    refine vx_ret (W.widen b1 b2 ?_)
    rcases hi with ⟨z, hret⟩ | ⟨z, hret⟩
    · exact W.iret hx rfl hret (fun t ht hW => ⟨⟨_, S, rfl, hv, by rw [ht]; exact hR, hO⟩, hS.F ht⟩) hS.2.2 (hdec 1 rfl)
    · exact W.zret hx rfl hret (by rcases hb z with rfl | rfl <;> rfl) (fun t ht hW => ⟨⟨_, S, rfl, hv, by rw [ht]; exact hR, hO⟩, hS.F ht⟩) hS.2.2 (hdec 1 rfl)
  case areturn =>
    obtain ⟨x, st, rfl, rfl, hr1, b1, b2, hv⟩ := xS1_ex hv
    intro H locs ls hlv hR hO hS
    simp only [xIns] at hi
    refine vx_ret (W.widen b1 b2 ?_)
    have hrt : ∃ rt, meth.sig.returnType = some rt ∧ ((∃ n, rt = .object n) ∨ ∃ t, rt = .array t) := by
      cases hp : meth.sig.returnType with
      | none => rw [hp] at hi; cases hi
      | some rt =>
        rw [hp] at hi
        refine ⟨rt, rfl, ?_⟩
        cases rt <;> first | exact Or.inl ⟨_, rfl⟩ | exact Or.inr ⟨_, rfl⟩ | cases hi
    obtain ⟨rt, hret, hrt⟩ := hrt
    obtain ⟨r, rfl⟩ := vRef_ex hr1
    exact W.aret hx rfl hret hrt (va_rf_or r) (fun t ht hW => ⟨⟨_, S, rfl, hv, by rw [ht]; exact hR, hO⟩, hS.F ht⟩) hS.2.2 (hdec 1 rfl)
  case return_ =>
    obtain ⟨rfl, b1, b2, hv⟩ := hv
    intro H locs ls hlv hR hO hS
    simp only [xIns, decide_eq_true_eq] at hi
    refine vx_ret (W.widen b1 b2 ?_)
    exact W.vret hx rfl hi (fun t ht hW => ⟨⟨_, S, rfl, hv, by rw [ht]; exact hR, hO⟩, hS.F ht⟩) hS.2.2 (hdec 1 rfl)
  all_goals exact hv.elim
theorem xvR_ok {rows : List (Nat × xHint)} {uc : List Nat} {calls : List (Instr × Nat × Nat × Nat)} {thr : List (Nat × Nat)} (B : xBody E D cl Y A df p l e R s m args below meth c nL own ws rows uc calls thr)
    (hJ : ∀ pc mb P, eCut E pc = some (mb, P) → ∀ lv st S cs ss, P lv st S cs ss → ∀ lv0, xmask mb lv0 = lv → xWG E D cl Y A p l e R s m args below meth c nL pc lv0 st S cs ss) :
    ∀ n pc lv st S cs ss, xvR E n pc lv st S cs ss → xWG E D cl Y A p l e R s m args below meth c nL pc lv st S cs ss := by
  intro n
  induction n with
  | zero => intro pc lv st S cs ss h; exact h.elim
  | succ n ih =>
    intro pc lv st S cs ss h
    unfold xvR at h
    cases hc : eCut E pc with
    | some q =>
      obtain ⟨mb, P⟩ := q
      rw [hc] at h
      exact hJ pc mb P hc _ st S cs ss h lv rfl
    | none =>
      rw [hc] at h
      unfold xst at h
      cases ht : eTab E pc with
      | none => rw [ht] at h; exact h.elim
      | some q =>
        obtain ⟨i, h0, h1, h2, hl⟩ := q
        rw [ht] at h
        have htab := B.2.2.2.2.2.2.2.2.2.2.2.2.1 pc
        exact xvm_ok B ih pc i h0 h1 h2 hl lv st S cs ss (by rw [← htab]; exact ht) h
/-- one step, and then on: for the head of a loop -/
theorem xst_ok {rows : List (Nat × xHint)} {uc : List Nat} {calls : List (Instr × Nat × Nat × Nat)} {thr : List (Nat × Nat)} (B : xBody E D cl Y A df p l e R s m args below meth c nL own ws rows uc calls thr)
    (hJ : ∀ pc mb P, eCut E pc = some (mb, P) → ∀ lv st S cs ss, P lv st S cs ss → ∀ lv0, xmask mb lv0 = lv → xWG E D cl Y A p l e R s m args below meth c nL pc lv0 st S cs ss) (n pc : Nat) (lv : xLv) (st : List Value) (S : σ) (cs ss : Nat)
    (h : xst E (xvR E n) pc lv st S cs ss) : xWG E D cl Y A p l e R s m args below meth c nL pc lv st S cs ss := by
  unfold xst at h
  cases ht : eTab E pc with
  | none => rw [ht] at h; exact h.elim
  | some q =>
    obtain ⟨i, h0, h1, h2, hl⟩ := q
    rw [ht] at h
    have htab := B.2.2.2.2.2.2.2.2.2.2.2.2.1 pc
    exact xvm_ok B (xvR_ok B hJ n) pc i h0 h1 h2 hl lv st S cs ss (by rw [← htab]; exact ht) h
theorem xWG_mask {pc : Nat} {mb : List Bool} {lv : xLv} {st : List Value} {S : σ} {cs ss : Nat} (h : xWG E D cl Y A p l e R s m args below meth c nL pc (xmask mb lv) st S cs ss) : xWG E D cl Y A p l e R s m args below meth c nL pc lv st S cs ss :=
  fun H locs ls hlv hR hO hS => h H locs ls (xLok_mask mb hlv) hR hO hS
end XS
