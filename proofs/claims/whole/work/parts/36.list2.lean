/-! ArrayList's primitives as calls of the machine: the shared empty array. -/
def sp_emp (W9 : xWd) (σ : Type) : xSp σ := (fun _ _ => (0, 0), fun av S K => av = [] ∧ K (rR (wE W9)) S)
theorem sp_emp_c {W9 : xWd} {σ : Type} {av : List Value} {S : σ} : (sp_emp W9 σ).1 av S = (0, 0) := rfl
theorem sp_emp_w {W9 : xWd} {σ : Type} {S : σ} {K : xRes → σ → Prop} : (sp_emp W9 σ).2 [] S K = K (rR (wE W9)) S := propext ⟨fun h => h.2, fun h => ⟨rfl, h⟩⟩
section XL
variable {σ : Type} {E : xEnv σ} {W9 : xWd} {A : Nat → Prop} {df : Nat → List Value}
variable {p : Program} {l : Launch} {e : Env} {R : Room} {s : State} {m : MethodId} {args : Array Value} {below : List Frame} {meth : Method} {c : Code} {nL : Nat} {own : String} {ws : List Jvm.Cond}
theorem xCR_emp {k ci : Nat} (X : xCtx W9 E df A p R s m args meth c nL own ws) (h1 : Jvm.Cond.fieldLink own k RJx4a65c "DEFAULTCAPACITY_EMPTY_ELEMENTDATA" "[Ljava/lang/Object;" ∈ ws) :
    xCR E (wD W9) vwCl (wY W9) A p l e R s m args below meth c nL (.getstatic k) 0 ci (sp_emp W9 σ) := by
  obtain ⟨hx, hml, hown, hts, hlaw, hAmb, hA, hlocks, hext⟩ := X
  intro pc len H locs ls lv av rest S cs ss KF hd hxl hlen hlv hR hO hS hrc hcat b1 b2 hv kk kx
  cases hxl
  obtain ⟨rfl, hv⟩ := hv
  exact va_gets (rest := rest) hx rfl hAmb.2.2.2.2.2.1 hS hown (hts _ h1) (fun x e => e) hd (kk (some (.ref (wE W9))) S hv H locs ls hlv hR hO hS)
end XL
