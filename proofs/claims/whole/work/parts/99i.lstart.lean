/-! The law's start: the two objects made; then both worlds together. -/
def mJ (k : Nat) : Nat := mArr.findIdx (fun q => q.1 == k)
theorem mJ_ok : ∀ k, k < 59 → mA k = true → mJ k < 48 ∧ mArr[mJ k]? = some (k, mZ k, mL k) := by decide +kernel
theorem cIsR_m : ∀ k, k < 59 → cIsR (900 + k) = mA k := by decide +kernel
def lAd (g : Nat → Nat) (m0 N k : Nat) : Nat := if k = 0 then m0 else if mA k = true then g (mJ k) else N + k
theorem lAd_0 {g : Nat → Nat} {m0 N : Nat} : lAd g m0 N 0 = m0 := rfl
theorem lAd_a {g : Nat → Nat} {m0 N k : Nat} (h : mA k = true) : lAd g m0 N k = g (mJ k) := by
  unfold lAd
  rw [if_neg (fun e => by rw [e, mA_0] at h; cases h), if_pos h]
theorem lAd_n {g : Nat → Nat} {m0 N k : Nat} (h0 : k ≠ 0) (h : ¬ mA k = true) : lAd g m0 N k = N + k := by
  unfold lAd
  rw [if_neg h0, if_neg h]
set_option maxHeartbeats 1000000 in
theorem l_start {W9 : xWd} {A : Nat → Prop} {S1 S3 : cS} {H3 H4 : Heap} {m0 : Nat} (h0 : cDead S1 m0) (hm : mIni (cNewO S1 m0 9) m0 S3) (hR : xRep cI (wD W9) vwCl (wY W9) S3 H3) (hO : xOwn cI (wY W9) S3 A) (hq : ∀ q : Nat, q < H3.size → H4[q]? = H3[q]?)
    (ho : H4[H3.size]? = some (vp_cell (wY W9 3) (1, .inr (.inl (fun j => if j = 0 then (0 : Int64) else 0))))) (hA : A H3.size) :
    ∃ aM : Nat → Nat, aM 0 = m0 ∧ mInj aM ∧ lOut aM H3.size ∧ lApt aM H3.size S1 ∧ xRep (lI aM H3.size) (wD W9) vwCl (wY W9) (S1, mZst, 0) H4 ∧ xOwn (lI aM H3.size) (wY W9) (S1, mZst, 0) A := by
  obtain ⟨m1, m2, g, mg⟩ := hm
  have lv1 : ∀ a, ¬ cDead S1 a → a ≠ m0 := fun a h e => h (by rw [e]; exact h0)
  have lvS : ∀ a, ¬ cDead S1 a → cLive (cNewO S1 m0 9) a := fun a h => by
    have e : cK (cNewO S1 m0 9) a = cK S1 a := by rw [cK_newO, if_neg (lv1 a h)]
    unfold cLive
    rw [e]
    exact Classical.not_not.mp h
  have lvm : cLive (cNewO S1 m0 9) m0 := by
    unfold cLive
    rw [cK_newO, if_pos rfl]
    omega
  have same : ∀ a, ¬ cDead S1 a → cCell S3 (wY W9) a = cCell S1 (wY W9) a := fun a h => by
    obtain ⟨e1, e2, e3, e4, e5, e6⟩ := m2 a (lvS a h)
    have ne := lv1 a h
    exact cCell_same (e1.trans (by rw [cK_newO, if_neg ne])) (fun f => (e5 f).trans (by rw [cFi_newO, if_neg ne])) (fun f => (e6 ne f).trans (by rw [cFr_newO, if_neg ne])) (e2.trans rfl) (fun i => (e3 i).trans rfl) (fun i => (e4 i).trans rfl)
  have gk : ∀ k, k < 59 → mA k = true → cFr S3 m0 (900 + k) = some (g (mJ k)) ∧ cK S3 (g (mJ k)) = 11 + mZ k ∧ cLen S3 (g (mJ k)) = mL k ∧ (∀ x, cRi S3 (g (mJ k)) x = mI0 k x) ∧ ¬ cLive (cNewO S1 m0 9) (g (mJ k)) ∧ (∀ j2, j2 < mJ k → g j2 ≠ g (mJ k)) := fun k h1 h2 => mg (mJ k) (mJ_ok k h1 h2).1 k (mZ k) (mL k) (mJ_ok k h1 h2).2
  have cellg : ∀ k, k < 59 → mA k = true → cCell S3 (wY W9) (g (mJ k)) = some (.inl (wY W9 (mZ k), mL k, .inl (mI0 k))) := fun k h1 h2 => by
    obtain ⟨-, k2, k3, k4, -⟩ := gk k h1 h2
    rw [cCell_i k2 (mZ_le k h1), k3, show cRi S3 (g (mJ k)) = mI0 k from funext k4]
  have cellm : cCell S3 (wY W9) m0 = some (.inr (9, cFs S3 9 m0)) := cCell_o m1 (by omega)
  have ltg : ∀ k, k < 59 → mA k = true → g (mJ k) < H3.size := fun k h1 h2 => (hR _ _ (cellg k h1 h2)).lt
  have ltm : m0 < H3.size := (hR _ _ cellm).lt
  have tri : ∀ k, k = 0 ∨ mA k = true ∨ (k ≠ 0 ∧ ¬ mA k = true) := fun k => by
    by_cases c1 : k = 0
    · exact Or.inl c1
    · by_cases c2 : mA k = true
      · exact Or.inr (Or.inl c2)
      · exact Or.inr (Or.inr ⟨c1, c2⟩)
  have inA : ∀ i j, i < 59 → j < 59 → mA i = true → mA j = true → g (mJ i) = g (mJ j) → i = j := fun i j hi hj ai aj e => by
    rcases Nat.lt_trichotomy (mJ i) (mJ j) with c | c | c
    · exact absurd e ((gk j hj aj).2.2.2.2.2 _ c)
    · have e1 := (mJ_ok i hi ai).2
      rw [c, (mJ_ok j hj aj).2] at e1
      exact (congrArg (fun z => z.1) (Option.some.inj e1)).symm
    · exact absurd e.symm ((gk i hi ai).2.2.2.2.2 _ c)
  have hinj : mInj (lAd g m0 (H3.size + 1)) := fun i j hi hj e => by
    rcases tri i with rfl | ai | ⟨ni, ai⟩
    · rcases tri j with rfl | aj | ⟨nj, aj⟩
      · rfl
      · rw [lAd_0, lAd_a aj] at e
        exact absurd (by rw [← e]; exact lvm) (gk j hj aj).2.2.2.2.1
      · rw [lAd_0, lAd_n nj aj] at e
        omega
    · rcases tri j with rfl | aj | ⟨nj, aj⟩
      · rw [lAd_0, lAd_a ai] at e
        exact absurd (by rw [e]; exact lvm) (gk i hi ai).2.2.2.2.1
      · rw [lAd_a ai, lAd_a aj] at e
        exact inA i j hi hj ai aj e
      · rw [lAd_a ai, lAd_n nj aj] at e
        have := ltg i hi ai
        omega
    · rcases tri j with rfl | aj | ⟨nj, aj⟩
      · rw [lAd_0, lAd_n ni ai] at e
        omega
      · rw [lAd_a aj, lAd_n ni ai] at e
        have := ltg j hj aj
        omega
      · rw [lAd_n ni ai, lAd_n nj aj] at e
        omega
  have hout : lOut (lAd g m0 (H3.size + 1)) H3.size := fun k hk => by
    rcases tri k with rfl | ak | ⟨nk, ak⟩
    · rw [lAd_0]
      omega
    · rw [lAd_a ak]
      have := ltg k hk ak
      omega
    · rw [lAd_n nk ak]
      omega
  have live : ∀ a, ¬ cDead S1 a → ∃ x, cCell S1 (wY W9) a = some x := fun a h => by
    cases e : cCell S1 (wY W9) a with
    | none => exact absurd (cDead_of e) h
    | some x => exact ⟨x, rfl⟩
  have hapt : lApt (lAd g m0 (H3.size + 1)) H3.size S1 := fun a ha => Classical.byContradiction (fun hl => by
    obtain ⟨x, hx⟩ := live a hl
    have hlt : a < H3.size := (hR a x ((same a hl).trans hx)).lt
    refine ha ⟨by omega, lv1 a hl, ?_⟩
    cases f : mFind (lAd g m0 (H3.size + 1)) a with
    | none => rfl
    | some k =>
      obtain ⟨k1, k2, k3⟩ := mFind_spec f
      rw [lAd_a k2] at k3
      exact absurd (by rw [← k3]; exact lvS a hl) (gk k k1 k2).2.2.2.2.1)
  have eFs : cFs S3 9 m0 = mFs (lAd g m0 (H3.size + 1)) mZst := by
    unfold cFs mFs
    refine List.map_congr_left (fun k hk => ?_)
    have hk : k < 59 := List.mem_range.mp hk
    show (if cIsR (900 + k) then va_rf (cFr S3 m0 (900 + k)) else .int (cFi S3 m0 (900 + k))) = (if mA k then .ref (lAd g m0 (H3.size + 1) k) else .int (mZst.1 k))
    rw [cIsR_m k hk]
    by_cases h : mA k = true
    · rw [if_pos h, if_pos h, (gk k hk h).1, lAd_a h]
      rfl
    · rw [if_neg h, if_neg h, (m2 m0 lvm).2.2.2.2.1 (900 + k), cFi_newO, if_pos rfl]
      rfl
  have cells : ∀ a x, lCell (lAd g m0 (H3.size + 1)) H3.size (S1, mZst, 0) (wY W9) a = some x → (a = H3.size ∧ x = .inl (wY W9 3, 1, .inr (.inl (fun j => if j = 0 then (0 : Int64) else 0)))) ∨ (a < H3.size ∧ va_at (wD W9) vwCl (a, x) H3 ∧ A a) := fun a x hx => by
    by_cases c1 : a = H3.size
    · rw [c1, lCell_o] at hx
      exact Or.inl ⟨c1, (Option.some.inj hx).symm⟩
    · refine Or.inr ?_
      have fin : cCell S3 (wY W9) a = some x → a < H3.size ∧ va_at (wD W9) vwCl (a, x) H3 ∧ A a := fun h => ⟨(hR a x h).lt, hR a x h, hO a x h⟩
      refine fin ?_
      cases em : mCell (lAd g m0 (H3.size + 1)) mZst (wY W9) a with
      | some x2 =>
        have e9 : x2 = x := Option.some.inj ((lCell_m (s9 := (S1, mZst, 0)) c1 em).symm.trans hx)
        subst e9
        unfold mCell at em
        by_cases c2 : a = lAd g m0 (H3.size + 1) 0
        · rw [if_pos c2] at em
          rw [← em, c2, ← eFs]
          exact cellm
        · rw [if_neg c2] at em
          cases f : mFind (lAd g m0 (H3.size + 1)) a with
          | none => rw [f] at em; cases em
          | some k =>
            rw [f] at em
            obtain ⟨k1, k2, k3⟩ := mFind_spec f
            rw [← em, k3, lAd_a k2]
            exact cellg k k1 k2
      | none =>
        unfold lCell at hx
        rw [if_neg c1, em] at hx
        exact (same a (cLvg hx)).trans hx
  refine ⟨lAd g m0 (H3.size + 1), rfl, hinj, hout, hapt, fun a x hx => ?_, fun a x hx => ?_⟩
  · rcases cells a x hx with ⟨rfl, rfl⟩ | ⟨h1, h2, -⟩
    · exact ho
    · exact h2.kept (hq a h1)
  · rcases cells a x hx with ⟨rfl, rfl⟩ | ⟨-, -, h3⟩
    · exact hA
    · exact h3
section LN
variable {W9 : xWd} {A : Nat → Prop}
variable {p : Program} {l : Launch} {e : Env} {R : Room} {s : State} {m : MethodId} {args : Array Value} {below : List Frame} {meth : Method} {c : Code} {nL : Nat} {own : String} {ws : List Jvm.Cond}
variable {cc : ByteArray} {pc : Nat} {lv : xLv} {S : cS} {cs ss : Nat} {H : Heap} {locs : List Loc} {ls : Array Slot} {Q : State → Prop}
set_option maxHeartbeats 1000000 in
/-- a new object, run through its constructor, laid in a local -/
theorem l_new {ci N idxN idxI F L mc ms maxL : Nat} {k : Fin 4} {C : String} {T : u_T} {y : MethodName} {ws2 ws' : List Jvm.Cond} {bytes : ByteArray} {sp : xSp cS} {Pst : Nat → cS → Prop}
    (hx : p.tables.exec = Jvm.exec) (hml : c.maxLocals = nL) (hown : s.vm.findClass own = some m.cls) (hts : ∀ w ∈ ws, w.before args s = true) (hAmb : xAmb W9 A s s.heap) (hA : ∀ q : Nat, s.heap.size ≤ q → A q) (hb : c.code = cc)
    (hci : vwCl[ci]? = some (C, T, N)) (hci9 : ci ≤ 9) (hu : ∀ w ∈ u_ws C T N, w ∈ ws) (w1 : Jvm.Cond.classLink own idxN C ∈ ws) (w2 : Jvm.Cond.instantiable C N ∈ ws) (w3 : Jvm.Cond.initialized C ∈ ws)
    (hM : xSem l W9 cI y ws2 F L sp) (hg : GoodIn ws ws2) (hw : ws2 = Jvm.Cond.code y bytes maxL none :: ws') (hini : Jvm.Cond.initialized y.cls ∈ ws) (hl : Jvm.Cond.methodLink own idxI y ∈ ws) (hin : Jvm.Cond.instanceMethod y ∈ ws) (hy1 : y.name = "<init>")
    (hy : y.cls ≠ "java/lang/invoke/MethodHandle" ∧ y.cls ≠ "java/lang/invoke/VarHandle" ∧ (parseMethodDescriptor y.desc).map (fun d => d.parameters.length) = some 0) (hRm : F + 1 ≤ R.frames ∧ 8 + (maxL + 11) + L ≤ R.locals)
    (d0 : decode cc pc = .ok (.new idxN, 3)) (d1 : decode cc (pc + 3) = .ok (.dup, 1)) (d2 : decode cc (pc + 4) = .ok (.invokespecial idxI, 3)) (d3 : decode cc (pc + 7) = .ok (.astore_n k, 1)) (hk : k.val < nL)
    (hlv : xLok ls nL lv) (hR : xRep cI (wD W9) vwCl (wY W9) S H) (hO : xOwn cI (wY W9) S A) (hS : va_S A s.heap H locs)
    (hsp : cDead S H.size → sp.2 [.ref H.size] (cNewO S H.size ci) (fun r S' => r = rV ∧ Pst H.size S')) (hmc : sp.1 [.ref H.size] (cNewO S H.size ci) = (mc, ms)) (b1 : cs + 1 + mc ≤ R.cells) (b2 : ss + N + ms ≤ R.slots)
    (kk : ∀ (q : Nat) (S' : cS) (H' : Heap) (locs' : List Loc) (ls' : Array Slot), cDead S q → Pst q S' → xLok ls' nL (lv.set k.val (some (.ref q))) → xRep cI (wD W9) vwCl (wY W9) S' H' → xOwn cI (wY W9) S' A → va_S A s.heap H' locs' →
      W p l e R s m args below meth c H' locs' (cs + 1 + mc) (ss + N + ms) Q (F0 m (pc + 8) ls' [])) :
    W p l e R s m args below meth c H locs cs ss Q (F0 m pc ls []) := by
  have e0 : cCell S (wY W9) H.size = none := by
    cases hz : cCell S (wY W9) H.size with
    | none => rfl
    | some x => exact absurd (hR _ _ hz).lt (Nat.lt_irrefl _)
  have hdead : cDead S H.size := cDead_of e0
  obtain ⟨ty0, g1, -, g3⟩ := xcl_ok ci C T N hci
  obtain ⟨S1, e1, hc2, hc3⟩ := (cI_law S (wY W9)).2.2.2.2.2.2.1 ci (fun q S' => S' = cNewO S q ci) ⟨hci9, fun q _ => rfl⟩ H.size e0
  subst e1
  refine xw_new (D := wD W9) (ci := ci) hx hb hts hu ty0 g1 hown (hts _ w1) (hts _ w2) (hts _ w3) hAmb.1 hS hci g3 (by omega) (by omega) d0 (fun H1 k1 k3 k4 => ?_)
  have hR1 : xRep cI (wD W9) vwCl (wY W9) (cNewO S H.size ci) H1 := fun b y hb => by
    by_cases hbq : b = H.size
    · subst hbq
      rw [hc2] at hb
      cases hb
      exact k1
    · rw [hc3 b hbq] at hb
      exact (hR b y hb).kept (k3 b (hR b y hb).lt)
  have hO1 : xOwn cI (wY W9) (cNewO S H.size ci) A := xOwn_set hO (hA _ hS.1) hc3
  refine lv_dup hx hb d1 rfl ?_
  have hM' := hM [.ref H.size] (cNewO S H.size ci) H1.size (fun r S' => r = rV ∧ Pst H.size S') (hsp hdead)
  rw [hmc] at hM'
  dsimp only at hM'
  have hrun := vx_runI (l := l) (e := e) (below := below) (meth := meth) (H := H1) (locs := locs) (cells := cs + 1) (slots := ss + N) (As := []) (rest := [.ref H.size]) (b := H.size) (g := F0 m (pc + 4) ls [.ref H.size, .ref H.size]) ⟨hx, hb, hml, hown, hts⟩ hM' (cwI 0 hts hg hw rfl rfl (hts _ hini) (hts _ hl) (hts _ hin) hy1 hy hRm)
    ⟨xPc_blind, fun U hU hW => xpre hA hAmb hR1 hO1 k4 U hU hW⟩ rfl rfl hlv.1 rfl (lv_room (by show 1 + 0 ≤ 8; omega)) d2 ⟨by omega, by omega⟩
  have hsub : ∀ q, xReg cI (wY W9) (cNewO S H.size ci) H1.size q → A q := fun q h => by
    rcases h with ⟨x, h⟩ | h
    · exact hO1 q x h
    · exact hA q (Nat.le_trans k4.1 h)
  intro T0 hT X
  rcases hrun T0 hT X with ⟨v, st₀, t, T', L2, h0, X', hL, e1, e2, ⟨⟨v', S', hv, hK, hR', hO'⟩, hF⟩, st⟩ | ⟨q, st₀, t, T', L2, ex, ce, h0, X', hL, e1, e2, ⟨⟨S', hK, hR', hO'⟩, hF⟩, hce, hcv, hcl, st⟩
  · cases hv
    obtain ⟨hv, hP⟩ := hK
    cases hv
    obtain ⟨-, -, k3'⟩ := vx_keep h0 e1 k4 (fun q _ h => hsub q h) hsub hL hF
    have w : W p l e R s m args below meth c T'.heap (locs ++ L2) (cs + 1 + mc) (ss + N + ms) Q (F0 m (pc + 7) ls [.ref H.size]) := lv_astore_n hx hb d3 rfl (xLok_pairs hlv) hk rfl (fun ls' hl' => kk H.size S' T'.heap (locs ++ L2) ls' hdead hP (xLok_after hlv rfl hl') (by rw [e1]; exact hR') (fun a x h => hsub a (hO' a x h)) k3')
    obtain ⟨t2, a1, b1⟩ := w T' rfl X'
    exact ⟨t2, st t2 a1, b1⟩
  · cases hK.1
end LN
