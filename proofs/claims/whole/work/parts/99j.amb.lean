/-! What the start gives of the tables and the constants: the surroundings that every body needs. -/
theorem amb_us : xUse lw_tbl vwCl [0, 1, 2, 3, 4, 5, 6, 7, 8, 9] = true := xUse_c rfl inJx4a65c (xUse_c rfl inX0 (xUse_c rfl inX1 (xUse_c rfl inX2 (xUse_c rfl inX3 (xUse_c rfl inX4 (xUse_c rfl inX5 (xUse_c rfl inX6 (xUse_c rfl inX7 (xUse_c rfl inX8 xUse_n)))))))))
theorem amb_is : vwCl.all (fun q => decide (Jvm.Cond.instantiable q.1 q.2.2 ∈ lw_tbl)) = true := by decide +kernel
theorem amb_u {ci N : Nat} {C : String} {T : u_T} (hc : vwCl[ci]? = some (C, T, N)) : ∀ w ∈ u_ws C T N, w ∈ lw_tbl := by
  have hci : ci < 10 := (List.getElem?_eq_some_iff.mp hc).1
  have h1 := amb_us
  unfold xUse at h1
  have h2 := List.all_eq_true.mp h1 ci (by simp only [List.mem_cons, List.not_mem_nil, or_false]; omega)
  rw [hc] at h2
  try dsimp only at h2
  intro w hw
  exact of_decide_eq_true (List.all_eq_true.mp h2 w hw)
theorem amb_i {ci N : Nat} {C : String} {T : u_T} (hc : vwCl[ci]? = some (C, T, N)) : Jvm.Cond.instantiable C N ∈ lw_tbl := by
  have h2 := List.all_eq_true.mp amb_is _ (List.mem_of_getElem? hc)
  exact of_decide_eq_true h2
section AM
variable {args : Array Value} {s : State} {A : Nat → Prop}
theorem amb_K (hts : ∀ w ∈ lw_tbl, w.before args s = true) : ∃ (D : va_G) (Y : Nat → ClassId), va_K D vwCl [(Y 0, .int), (Y 1, .boolean), (Y 2, .object "java/lang/Object"), (Y 3, .long)] s := by
  have h : ∀ ci : Nat, ∃ q : ClassId × (Nat → Nat), ∀ C T N, vwCl[ci]? = some (C, T, N) → u_Kn s C T N q.1 q.2 := fun ci => by
    cases e : vwCl[ci]? with
    | none => exact ⟨(0, fun _ => 0), fun C T N h => by cases h⟩
    | some q =>
      obtain ⟨C, T, N⟩ := q
      obtain ⟨cC, iS, h⟩ := u_known hts (amb_u e) (hts _ (amb_i e))
      exact ⟨(cC, iS), fun C2 T2 N2 h2 => by cases h2; exact h⟩
  obtain ⟨c0, k0, m0, a1, a2, a3⟩ := Cond.arrayClass_spec (hts (.arrayClass .int) (by decide +kernel))
  obtain ⟨c1, k1, m1, b1, b2, b3⟩ := Cond.arrayClass_spec (hts (.arrayClass .boolean) (by decide +kernel))
  obtain ⟨c3, k3, m3, d1, d2, d3⟩ := Cond.arrayClass_spec (hts (.arrayClass .long) (by decide +kernel))
  obtain ⟨m2, c2, k2, f1, -, f2, f3, f4⟩ := Cond.arrayOver_spec (hts (.arrayOver (.object "java/lang/Object")) (by decide +kernel))
  refine ⟨(fun ci => (Classical.choose (h ci)).1, fun ci => (Classical.choose (h ci)).2), (fun n => match n with | 0 => c0 | 1 => c1 | 2 => c2 | _ => c3), fun c q hq => Classical.choose_spec (h c) _ _ _ hq, fun k q hk => ?_⟩
  match k, hk with
  | 0, hk => cases hk; exact ⟨fun n z => ⟨fun k h => (by cases h), k0, a2, m0, a3⟩, a1⟩
  | 1, hk => cases hk; exact ⟨fun n z => ⟨fun k h => (by cases h), k1, b2, m1, b3⟩, b1⟩
  | 2, hk => cases hk; exact ⟨fun n z => ⟨fun k h => (by cases h), k2, f2, m2, f3⟩, k2, m2, f2, f3, f1, f4⟩
  | 3, hk => cases hk; exact ⟨fun n z => ⟨fun k h => (by cases h), k3, d2, m3, d3⟩, d1⟩
  | k + 4, hk => simp at hk
theorem amb_s : xStrs.all (fun q => decide (Jvm.Cond.stringRef RX7 q.1 q.2 ∈ lw_tbl)) = true := by decide +kernel
theorem amb_S (hts : ∀ w ∈ lw_tbl, w.before args s = true) : ∃ Sa : Nat → Nat, ∀ q ∈ xStrs, vk_R RX7 q.1 q.2 (Sa q.1) s := by
  obtain ⟨cC, kC, hfc, -⟩ := Cond.instantiable_spec (hts (.instantiable RX7 14) (by decide +kernel))
  refine ⟨fun k => match (Term.string RX7 k).eval args s none [] s with | some (.ref a) => a | _ => 0, fun q hq => ?_⟩
  have hw := hts _ (of_decide_eq_true (List.all_eq_true.mp amb_s q hq))
  obtain ⟨_, _, _, a, _, _, _, _, _, ev⟩ := Cond.stringRef_spec hfc hw
  dsimp only
  rw [ev]
  exact vk_R.of hw ev
theorem amb_x : xExtra.all (fun w => decide (w ∈ lw_tbl) && w.onTables) = true := by decide +kernel
theorem l_amb (hts : ∀ w ∈ lw_tbl, w.before args s = true) (hgv : (Jvm.Cond.and given_1 narrow_1).before args s = true) (hA : ∀ a : Nat, a < s.heap.size → ¬ A a) : ∃ W9 : xWd, xAmb W9 A s s.heap := by
  have hs := flat_of_before _ hgv
  obtain ⟨D, Y, hK⟩ := amb_K hts
  obtain ⟨Sa, hS⟩ := amb_S hts
  obtain ⟨mi, hM⟩ := va_Mi.of (hs (.isRef (.mirror "[Ljava/lang/Object;")) (by decide +kernel))
  obtain ⟨t, ht, hT⟩ := va_Tof (N := 0) (f := fun _ => .null) (tm := .static RJx4a65c "DEFAULTCAPACITY_EMPTY_ELEMENTDATA" "[Ljava/lang/Object;") (ty := .object "java/lang/Object") (by decide) (hs _ (by decide +kernel)) (va_eqt (hs (.eq (.length (.static RJx4a65c "DEFAULTCAPACITY_EMPTY_ELEMENTDATA" "[Ljava/lang/Object;")) (.int 0)) (by decide +kernel))) (fun j h => by omega) hA
  have hZ := va_Zof (hts (.laysStatic RJx4a65c "DEFAULTCAPACITY_EMPTY_ELEMENTDATA" "[Ljava/lang/Object;") (by decide +kernel)) (hts _ (by decide +kernel)) ht hA
  have hq1 := vx_Zqof (hts (.laysStatic Bundle.tN "UNASSIGNED_STACK" Bundle.steD) (by decide +kernel)) (hts _ (by decide +kernel)) (hs (.isRef (.static Bundle.tN "UNASSIGNED_STACK" Bundle.steD)) (by decide +kernel)) hA
  have hq2 := vx_Zqof (hts (.laysStatic Bundle.tN "SUPPRESSED_SENTINEL" Bundle.listD) (by decide +kernel)) (hts _ (by decide +kernel)) (hs (.isRef (.static Bundle.tN "SUPPRESSED_SENTINEL" Bundle.listD)) (by decide +kernel)) hA
  refine ⟨(D, Y, Sa, t, mi), hK, hS, hq1, hq2, ⟨va_Nw.of rfl (hts (.methodLinkNest RX7 34 yX6_init RX7) (by decide +kernel)), va_Nw.of rfl (hts (.methodLinkNest RX6 9 yX3_init RX7) (by decide +kernel)), fun w hw => ?_⟩, hZ, hT, va_AO.of (hts (.arrayOver (.object "java/lang/Object")) (by decide +kernel)), va_Dc.of (hts (.declares ⟨"java/lang/Object", "getClass", "()Ljava/lang/Class;"⟩) (by decide +kernel)), hM⟩
  have h1 := List.all_eq_true.mp amb_x w hw
  rw [Bool.and_eq_true, decide_eq_true_eq] at h1
  exact va_Nw.of h1.2 (hts w h1.1)
theorem l_nc (hgv : (Jvm.Cond.and given_1 narrow_1).before args s = true) : lNc s := by
  have hs := flat_of_before _ hgv
  exact ⟨va_Nc.of (hs (.not (.castable eA eB)) (by decide +kernel)), va_Nc.of (hs (.not (.castable eS eB)) (by decide +kernel)), va_Nc.of (hs (.not (.castable eS eA)) (by decide +kernel))⟩
end AM
