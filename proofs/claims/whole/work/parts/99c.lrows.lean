/-! The law's own body: rows, the script's words, the ends of a case. -/
section LL
variable {E : xEnv lS} {W9 : xWd} {A : Nat → Prop} {aM : Nat → Nat} {oA : Nat}
variable {p : Program} {l : Launch} {e : Env} {R : Room} {s : State} {m : MethodId} {args : Array Value} {below : List Frame} {meth : Method} {c : Code} {nL : Nat} {own : String} {ws : List Jvm.Cond}
variable {cc : ByteArray} {pc : Nat} {lv : xLv} {st : List Value} {S : lS} {cs ss : Nat}
set_option maxHeartbeats 400000 in
theorem wg_is {x : Int32} {k : Nat} (hx : p.tables.exec = Jvm.exec) (hb : c.code = cc) (hd : decode cc pc = .ok (.istore k, 2)) (hk : k < nL) (h : wG E W9 A p l e R s m args below meth c nL (pc + 2) (lv.set k (some (.int x))) st S cs ss) : wG E W9 A p l e R s m args below meth c nL pc lv (.int x :: st) S cs ss := by
  intro H locs ls hlv hR hO hS
  subst hb
  exact lv_istore hx rfl hd (xLok_pairs hlv) hk rfl (fun ls' hl' => h H locs ls' (xLok_after hlv rfl hl') hR hO hS)
set_option maxHeartbeats 400000 in
theorem wg_bi {n : Int} (hx : p.tables.exec = Jvm.exec) (hb : c.code = cc) (hd : decode cc pc = .ok (.bipush n, 2)) (h : wG E W9 A p l e R s m args below meth c nL (pc + 2) lv (.int (Int8.ofInt n).toInt32 :: st) S cs ss) : wG E W9 A p l e R s m args below meth c nL pc lv st S cs ss := by
  intro H locs ls hlv hR hO hS
  subst hb
  exact lv_bipush hx rfl hd rfl (h H locs ls hlv hR hO hS)
set_option maxHeartbeats 400000 in
theorem wg_add {x y : Int32} (hx : p.tables.exec = Jvm.exec) (hb : c.code = cc) (hd : decode cc pc = .ok (.iadd, 1)) (h : wG E W9 A p l e R s m args below meth c nL (pc + 1) lv (.int (x + y) :: st) S cs ss) : wG E W9 A p l e R s m args below meth c nL pc lv (.int y :: .int x :: st) S cs ss := by
  intro H locs ls hlv hR hO hS
  subst hb
  exact lv_iadd hx rfl hd (h H locs ls hlv hR hO hS)
set_option maxHeartbeats 400000 in
theorem wg_sub {x y : Int32} (hx : p.tables.exec = Jvm.exec) (hb : c.code = cc) (hd : decode cc pc = .ok (.isub, 1)) (h : wG E W9 A p l e R s m args below meth c nL (pc + 1) lv (.int (x - y) :: st) S cs ss) : wG E W9 A p l e R s m args below meth c nL pc lv (.int y :: .int x :: st) S cs ss := by
  intro H locs ls hlv hR hO hS
  subst hb
  exact lv_isub hx rfl hd (h H locs ls hlv hR hO hS)
set_option maxHeartbeats 400000 in
theorem wg_and {x y : Int32} (hx : p.tables.exec = Jvm.exec) (hb : c.code = cc) (hd : decode cc pc = .ok (.iand, 1)) (h : wG E W9 A p l e R s m args below meth c nL (pc + 1) lv (.int (x &&& y) :: st) S cs ss) : wG E W9 A p l e R s m args below meth c nL pc lv (.int y :: .int x :: st) S cs ss := by
  intro H locs ls hlv hR hO hS
  subst hb
  exact lv_iand hx rfl hd (h H locs ls hlv hR hO hS)
set_option maxHeartbeats 400000 in
theorem wg_ifne {x : Int32} {n2 : Int} {t : Nat} (hx : p.tables.exec = Jvm.exec) (hb : c.code = cc) (hd : decode cc pc = .ok (.ifCond .ne n2, 3)) (ht : (pc : Int) + n2 = (t : Int)) (h1 : ¬ x = 0 → wG E W9 A p l e R s m args below meth c nL t lv st S cs ss) (h2 : x = 0 → wG E W9 A p l e R s m args below meth c nL (pc + 3) lv st S cs ss) : wG E W9 A p l e R s m args below meth c nL pc lv (.int x :: st) S cs ss := by
  intro H locs ls hlv hR hO hS
  subst hb
  exact lv_if_ne hx rfl hd ht (fun q => h1 q H locs ls hlv hR hO hS) (fun q => h2 q H locs ls hlv hR hO hS)
set_option maxHeartbeats 400000 in
theorem wg_ieq {x y : Int32} {n2 : Int} {t : Nat} (hx : p.tables.exec = Jvm.exec) (hb : c.code = cc) (hd : decode cc pc = .ok (.if_icmp .eq n2, 3)) (ht : (pc : Int) + n2 = (t : Int)) (h1 : x = y → wG E W9 A p l e R s m args below meth c nL t lv st S cs ss) (h2 : ¬ x = y → wG E W9 A p l e R s m args below meth c nL (pc + 3) lv st S cs ss) : wG E W9 A p l e R s m args below meth c nL pc lv (.int y :: .int x :: st) S cs ss := by
  intro H locs ls hlv hR hO hS
  subst hb
  exact lv_icmp_eq hx rfl hd ht (fun q => h1 q H locs ls hlv hR hO hS) (fun q => h2 q H locs ls hlv hR hO hS)
set_option maxHeartbeats 400000 in
theorem wg_igt {x y : Int32} {n2 : Int} {t : Nat} (hx : p.tables.exec = Jvm.exec) (hb : c.code = cc) (hd : decode cc pc = .ok (.if_icmp .gt n2, 3)) (ht : (pc : Int) + n2 = (t : Int)) (h1 : y < x → wG E W9 A p l e R s m args below meth c nL t lv st S cs ss) (h2 : ¬ y < x → wG E W9 A p l e R s m args below meth c nL (pc + 3) lv st S cs ss) : wG E W9 A p l e R s m args below meth c nL pc lv (.int y :: .int x :: st) S cs ss := by
  intro H locs ls hlv hR hO hS
  subst hb
  exact lv_icmp_gt hx rfl hd ht (fun q => h1 q H locs ls hlv hR hO hS) (fun q => h2 q H locs ls hlv hR hO hS)
set_option maxHeartbeats 400000 in
theorem wg_inc {x v : Int32} {k : Nat} {n : Int} (hx : p.tables.exec = Jvm.exec) (hb : c.code = cc) (hd : decode cc pc = .ok (.iinc k n, 3)) (hk : k < nL) (hv : lv[k]? = some (some (.int x))) (he : x + Int32.ofInt n = v) (h : wG E W9 A p l e R s m args below meth c nL (pc + 3) (lv.set k (some (.int v))) st S cs ss) : wG E W9 A p l e R s m args below meth c nL pc lv st S cs ss := by
  intro H locs ls hlv hR hO hS
  subst hb
  obtain ⟨j, hj⟩ := xPairs_at hv
  exact lv_iinc hx rfl hd (xLok_pairs hlv) hj he hk rfl (fun ls' hl' => h H locs ls' (xLok_after hlv rfl hl') hR hO hS)
set_option maxHeartbeats 400000 in
theorem wg_tbO {dflt lo hi : Int} {offs : Array Int} {len t : Nat} {x : Int32} (hx : p.tables.exec = Jvm.exec) (hb : c.code = cc) (hd : decode cc pc = .ok (.tableswitch dflt lo hi offs, len)) (hq : x.toInt < lo ∨ hi < x.toInt) (ht : (pc : Int) + dflt = (t : Int)) (h : wG E W9 A p l e R s m args below meth c nL t lv st S cs ss) : wG E W9 A p l e R s m args below meth c nL pc lv (.int x :: st) S cs ss := by
  intro H locs ls hlv hR hO hS
  subst hb
  exact lv_tableOut hx rfl hd hq ht (h H locs ls hlv hR hO hS)
set_option maxHeartbeats 400000 in
theorem wg_tbI {dflt lo hi off : Int} {offs : Array Int} {len t : Nat} {x : Int32} (hx : p.tables.exec = Jvm.exec) (hb : c.code = cc) (hd : decode cc pc = .ok (.tableswitch dflt lo hi offs, len)) (h1 : ¬ x.toInt < lo) (h2 : ¬ hi < x.toInt) (ho : offs[(x.toInt - lo).toNat]? = some off) (ht : (pc : Int) + off = (t : Int)) (h : wG E W9 A p l e R s m args below meth c nL t lv st S cs ss) : wG E W9 A p l e R s m args below meth c nL pc lv (.int x :: st) S cs ss := by
  intro H locs ls hlv hR hO hS
  subst hb
  exact lv_tableIn hx rfl hd h1 h2 ho ht (h H locs ls hlv hR hO hS)
set_option maxHeartbeats 400000 in
theorem wg_rz {x : Int32} (hx : p.tables.exec = Jvm.exec) (hb : c.code = cc) (hr : meth.sig.returnType = some .boolean) (hl : meth.locks = false) (hd : decode cc pc = .ok (.ireturn, 1)) (h0 : x = 0 ∨ x = 1) (h1 : cs ≤ eMc E) (h2 : ss ≤ eMs E) (h : eF E (rI x) S) : wG E W9 A p l e R s m args below meth c nL pc lv [.int x] S cs ss := by
  intro H locs ls hlv hR hO hS
  subst hb
  refine vx_ret (W.widen h1 h2 (W.zret hx rfl hr (by rcases h0 with rfl | rfl <;> rfl) (fun t ht _ => ⟨⟨some (.int x), S, rfl, h, ?_, hO⟩, hS.F ht⟩) hS.2.2 hd hl))
  rw [ht]
  exact hR
set_option maxHeartbeats 400000 in
/-- a word of the script -/
theorem wl_arg {b L n i : Nat} {xs : Nat → Int32} {z : Int} (X : xCtxL W9 E A p s m args c nL own ws) (hb : c.code = cc) (hX : va_X b L xs s s.heap) (hbl : b < s.heap.size) (hbA : ¬ A b) (h0 : lv[0]? = some (some (.ref b))) (h4 : lv[4]? = some (some (.int (nI i))))
    (d0 : decode cc pc = .ok (.aload_n 0, 1)) (d1 : decode cc (pc + 1) = .ok (.iload 4, 2)) (d2 : decode cc (pc + 3) = .ok (.iconst z, 1)) (d3 : decode cc (pc + 4) = .ok (.iadd, 1)) (d4 : decode cc (pc + 5) = .ok (.iaload, 1)) (hz : Int32.ofInt z = nI n) (hin : i + n < L) (hL : L ≤ 3584) (b1 : cs ≤ R.cells) (b2 : ss ≤ R.slots) (hcat : (st.map fun v => v.category).sum ≤ 8)
    (h : wG E W9 A p l e R s m args below meth c nL (pc + 6) lv (.int (xs (i + n)) :: st) S cs ss) : wG E W9 A p l e R s m args below meth c nL pc lv st S cs ss := by
  refine wg_aln (u := 0) (k := 0) X.1 hb d0 rfl h0 ?_
  refine wg_il (k := 4) X.1 hb d1 h4 ?_
  refine wg_ic (z := z) X.1 hb d2 ?_
  rw [hz]
  refine wg_add X.1 hb d3 ?_
  rw [nI_add]
  refine wg_call (i := .iaload) (len := 1) (av := [.ref b, .int (nI (i + n))]) (rest := st) (KF := fun r S' => r = rI (xs (i + n)) ∧ S' = S) (xCR_scr (ci := 0) X hX hbl hbA) hb d4 rfl rfl rfl (fun ⟨k, q⟩ => by cases q) hcat (by show cs + 0 ≤ _; omega) (by show ss + 0 ≤ _; omega) ⟨_, rfl, vp_in_nI hin (by omega), by rw [nI_clamp (by omega)], rfl⟩ (fun v S' hk => ?_) (fun ex S' hk => by cases hk.1)
  obtain ⟨e1, rfl⟩ := hk
  cases e1
  exact h
set_option maxHeartbeats 400000 in
theorem wl_argB {b L n i : Nat} {xs : Nat → Int32} {z : Int} (X : xCtxL W9 E A p s m args c nL own ws) (hb : c.code = cc) (hX : va_X b L xs s s.heap) (hbl : b < s.heap.size) (hbA : ¬ A b) (h0 : lv[0]? = some (some (.ref b))) (h4 : lv[4]? = some (some (.int (nI i))))
    (d0 : decode cc pc = .ok (.aload_n 0, 1)) (d1 : decode cc (pc + 1) = .ok (.iload 4, 2)) (d2 : decode cc (pc + 3) = .ok (.bipush z, 2)) (d3 : decode cc (pc + 5) = .ok (.iadd, 1)) (d4 : decode cc (pc + 6) = .ok (.iaload, 1)) (hz : (Int8.ofInt z).toInt32 = nI n) (hin : i + n < L) (hL : L ≤ 3584) (b1 : cs ≤ R.cells) (b2 : ss ≤ R.slots) (hcat : (st.map fun v => v.category).sum ≤ 8)
    (h : wG E W9 A p l e R s m args below meth c nL (pc + 7) lv (.int (xs (i + n)) :: st) S cs ss) : wG E W9 A p l e R s m args below meth c nL pc lv st S cs ss := by
  refine wg_aln (u := 0) (k := 0) X.1 hb d0 rfl h0 ?_
  refine wg_il (k := 4) X.1 hb d1 h4 ?_
  refine wg_bi (n := z) X.1 hb d2 ?_
  rw [hz]
  refine wg_add X.1 hb d3 ?_
  rw [nI_add]
  refine wg_call (i := .iaload) (len := 1) (av := [.ref b, .int (nI (i + n))]) (rest := st) (KF := fun r S' => r = rI (xs (i + n)) ∧ S' = S) (xCR_scr (ci := 0) X hX hbl hbA) hb d4 rfl rfl rfl (fun ⟨k, q⟩ => by cases q) hcat (by show cs + 0 ≤ _; omega) (by show ss + 0 ≤ _; omega) ⟨_, rfl, vp_in_nI hin (by omega), by rw [nI_clamp (by omega)], rfl⟩ (fun v S' hk => ?_) (fun ex S' hk => by cases hk.1)
  obtain ⟨e1, rfl⟩ := hk
  cases e1
  exact h
set_option maxHeartbeats 400000 in
/-- a word of the script, as a truth -/
theorem wl_bool {x : Int32} (hx : p.tables.exec = Jvm.exec) (hb : c.code = cc) (d0 : decode cc pc = .ok (.ifCond .eq 7, 3)) (d1 : decode cc (pc + 3) = .ok (.iconst 1, 1)) (d2 : decode cc (pc + 4) = .ok (.goto 4, 3)) (d3 : decode cc (pc + 7) = .ok (.iconst 0, 1)) (h : wG E W9 A p l e R s m args below meth c nL (pc + 8) lv (.int (if x = 0 then 0 else 1) :: st) S cs ss) : wG E W9 A p l e R s m args below meth c nL pc lv (.int x :: st) S cs ss := by
  refine wg_ifeq (t := pc + 7) (n2 := 7) hx hb d0 (by omega) (fun q => ?_) (fun q => ?_)
  · rw [if_pos q] at h
    exact wg_ic (z := 0) hx hb d3 h
  · rw [if_neg q] at h
    refine wg_ic (z := 1) hx hb d1 ?_
    exact wg_goto (z := pc + 8) (n2 := 4) hx hb d2 (by omega) h
theorem wl_b01 {x : Int32} : (if x = 0 then 0 else 1 : Int32) = 0 ∨ (if x = 0 then 0 else 1 : Int32) = 1 := by
  split
  · exact Or.inl rfl
  · exact Or.inr rfl
theorem lcmp_self {x : Int64} : lg_cmp x x = 0 := by
  unfold lg_cmp
  rw [if_neg (fun h => absurd h (Int64.lt_irrefl)), if_pos rfl]
set_option maxHeartbeats 400000 in
/-- the answers, compared -/
theorem wl_cmp {k5 v6 : Int32} (hI : eI E = lI aM oA) (X : xCtxL W9 E A p s m args c nL own ws) (hb : c.code = cc) (h3 : lv[3]? = some (some (.ref oA))) (h5 : lv[5]? = some (some (.int k5))) (h6 : lv[6]? = some (some (.int v6))) (hz : k5 = 0 → S.2.2 = v6.toInt64) (b1 : cs ≤ R.cells) (b2 : ss ≤ R.slots)
    (d0 : decode cc pc = .ok (.iload 5, 2)) (d1 : decode cc (pc + 2) = .ok (.ifCond .ne 15, 3)) (d2 : decode cc (pc + 5) = .ok (.aload_n 3, 1)) (d3 : decode cc (pc + 6) = .ok (.iconst 0, 1)) (d4 : decode cc (pc + 7) = .ok (.laload, 1)) (d5 : decode cc (pc + 8) = .ok (.iload 6, 2)) (d6 : decode cc (pc + 10) = .ok (.i2l, 1)) (d7 : decode cc (pc + 11) = .ok (.lcmp, 1)) (d8 : decode cc (pc + 12) = .ok (.ifCond .eq 5, 3))
    (h : wG E W9 A p l e R s m args below meth c nL (pc + 17) lv [] S cs ss) : wG E W9 A p l e R s m args below meth c nL pc lv [] S cs ss := by
  refine wg_il (k := 5) X.1 hb d0 h5 ?_
  refine wg_ifne (t := pc + 17) (n2 := 15) X.1 hb d1 (by omega) (fun _ => h) (fun q => ?_)
  have hz := hz q
  refine wg_aln (u := 3) (k := 3) X.1 hb d2 rfl h3 ?_
  refine wg_ic (z := 0) X.1 hb d3 ?_
  refine wg_call (i := .laload) (len := 1) (av := [.ref oA, .int 0]) (rest := []) (KF := fun r S' => r = .inl (some (.long S.2.2)) ∧ S' = S) (xCR_lld (ci := 0) hI X) hb d4 rfl rfl rfl (fun ⟨k, q⟩ => by cases q) (by decide) (by show cs + 0 ≤ _; omega) (by show ss + 0 ≤ _; omega) ⟨rfl, rfl, rfl⟩ (fun v S1 hk => ?_) (fun ex S' hk => by cases hk.1)
  obtain ⟨e1, rfl⟩ := hk
  cases e1
  refine wg_il (k := 6) X.1 hb d5 h6 ?_
  refine wg_call (i := .i2l) (len := 1) (av := [.int v6]) (rest := [.long S1.2.2]) (KF := fun r S' => r = .inl (some (.long v6.toInt64)) ∧ S' = S1) (xCR_i2l (ci := 0) X) hb d6 rfl rfl rfl (fun ⟨k, q⟩ => by cases q) (by show 2 + 0 ≤ 8; omega) (by show cs + 0 + 0 ≤ _; omega) (by show ss + 0 + 0 ≤ _; omega) ⟨_, rfl, rfl, rfl⟩ (fun v S2 hk => ?_) (fun ex S' hk => by cases hk.1)
  obtain ⟨e2, rfl⟩ := hk
  cases e2
  refine wg_call (i := .lcmp) (len := 1) (av := [.long S2.2.2, .long v6.toInt64]) (rest := []) (KF := fun r S' => r = rI 0 ∧ S' = S2) (xCR_lcm (ci := 0) X) hb d7 rfl rfl rfl (fun ⟨k, q⟩ => by cases q) (by decide) (by show cs + 0 + 0 + 0 ≤ _; omega) (by show ss + 0 + 0 + 0 ≤ _; omega) ⟨_, _, rfl, by rw [hz, lcmp_self], rfl⟩ (fun v S3 hk => ?_) (fun ex S' hk => by cases hk.1)
  obtain ⟨e3, rfl⟩ := hk
  cases e3
  exact wg_ifeq (t := pc + 17) (n2 := 5) X.1 hb d8 (by omega) (fun _ => h) (fun q => absurd rfl q)
set_option maxHeartbeats 400000 in
/-- radio's answers, compared -/
theorem wl_radc {k5 v6 : Int32} (hI : eI E = lI aM oA) (X : xCtxL W9 E A p s m args c nL own ws) (hb : c.code = cc) (h3 : lv[3]? = some (some (.ref oA))) (h5 : lv[5]? = some (some (.int k5))) (h6 : lv[6]? = some (some (.int v6))) (hz : k5 = 0 → S.2.2 = (if v6 = 0 then 0 else 1)) (b1 : cs ≤ R.cells) (b2 : ss ≤ R.slots)
    (d0 : decode cc pc = .ok (.iload 5, 2)) (d1 : decode cc (pc + 2) = .ok (.ifCond .ne 22, 3)) (d2 : decode cc (pc + 5) = .ok (.aload_n 3, 1)) (d3 : decode cc (pc + 6) = .ok (.iconst 0, 1)) (d4 : decode cc (pc + 7) = .ok (.laload, 1)) (d5 : decode cc (pc + 8) = .ok (.iload 6, 2)) (d6 : decode cc (pc + 10) = .ok (.ifCond .eq 7, 3)) (d7 : decode cc (pc + 13) = .ok (.lconst 1, 1)) (d8 : decode cc (pc + 14) = .ok (.goto 4, 3)) (d9 : decode cc (pc + 17) = .ok (.lconst 0, 1)) (d10 : decode cc (pc + 18) = .ok (.lcmp, 1)) (d11 : decode cc (pc + 19) = .ok (.ifCond .eq 5, 3))
    (h : wG E W9 A p l e R s m args below meth c nL (pc + 24) lv [] S cs ss) : wG E W9 A p l e R s m args below meth c nL pc lv [] S cs ss := by
  refine wg_il (k := 5) X.1 hb d0 h5 ?_
  refine wg_ifne (t := pc + 24) (n2 := 22) X.1 hb d1 (by omega) (fun _ => h) (fun q => ?_)
  have hz := hz q
  refine wg_aln (u := 3) (k := 3) X.1 hb d2 rfl h3 ?_
  refine wg_ic (z := 0) X.1 hb d3 ?_
  refine wg_call (i := .laload) (len := 1) (av := [.ref oA, .int 0]) (rest := []) (KF := fun r S' => r = .inl (some (.long S.2.2)) ∧ S' = S) (xCR_lld (ci := 0) hI X) hb d4 rfl rfl rfl (fun ⟨k, q⟩ => by cases q) (by decide) (by show cs + 0 ≤ _; omega) (by show ss + 0 ≤ _; omega) ⟨rfl, rfl, rfl⟩ (fun v S1 hk => ?_) (fun ex S' hk => by cases hk.1)
  obtain ⟨e1, rfl⟩ := hk
  cases e1
  have fin : ∀ z : Int64, S1.2.2 = z → wG E W9 A p l e R s m args below meth c nL (pc + 18) lv [.long z, .long S1.2.2] S1 cs ss := fun z ez => by
    refine wg_call (i := .lcmp) (len := 1) (av := [.long S1.2.2, .long z]) (rest := []) (KF := fun r S' => r = rI 0 ∧ S' = S1) (xCR_lcm (ci := 0) X) hb d10 rfl rfl rfl (fun ⟨k, q⟩ => by cases q) (by decide) (by show cs + 0 ≤ _; omega) (by show ss + 0 ≤ _; omega) ⟨_, _, rfl, by rw [ez, lcmp_self], rfl⟩ (fun v S3 hk => ?_) (fun ex S' hk => by cases hk.1)
    obtain ⟨e3, rfl⟩ := hk
    cases e3
    exact wg_ifeq (t := pc + 24) (n2 := 5) X.1 hb d11 (by omega) (fun _ => h) (fun q => absurd rfl q)
  refine wg_il (k := 6) X.1 hb d5 h6 ?_
  refine wg_ifeq (t := pc + 17) (n2 := 7) X.1 hb d6 (by omega) (fun q6 => ?_) (fun q6 => ?_)
  · rw [if_pos q6] at hz
    refine wg_call (i := .lconst 0) (len := 1) (av := []) (rest := [.long S1.2.2]) (KF := fun r S' => r = .inl (some (.long 0)) ∧ S' = S1) (xCR_lcn0 (ci := 0) X) hb d9 rfl rfl rfl (fun ⟨k, q⟩ => by cases q) (by show 2 + 0 ≤ 8; omega) (by show cs + 0 + 0 ≤ _; omega) (by show ss + 0 + 0 ≤ _; omega) ⟨rfl, rfl, rfl⟩ (fun v S2 hk => ?_) (fun ex S' hk => by cases hk.1)
    obtain ⟨e2, rfl⟩ := hk
    cases e2
    exact fin 0 hz
  · rw [if_neg q6] at hz
    refine wg_call (i := .lconst 1) (len := 1) (av := []) (rest := [.long S1.2.2]) (KF := fun r S' => r = .inl (some (.long 1)) ∧ S' = S1) (xCR_lcn1 (ci := 0) X) hb d7 rfl rfl rfl (fun ⟨k, q⟩ => by cases q) (by show 2 + 0 ≤ 8; omega) (by show cs + 0 + 0 ≤ _; omega) (by show ss + 0 + 0 ≤ _; omega) ⟨rfl, rfl, rfl⟩ (fun v S2 hk => ?_) (fun ex S' hk => by cases hk.1)
    obtain ⟨e2, rfl⟩ := hk
    cases e2
    exact wg_goto (z := pc + 18) (n2 := 4) X.1 hb d8 (by omega) (fin 1 hz)
set_option maxHeartbeats 400000 in
/-- which exception, compared -/
theorem wl_th {k5 : Int32} (hI : eI E = lI aM oA) (hi : mInj aM) (ho : lOut aM oA) (X : xCtxL W9 E A p s m args c nL RL wsL_law) (hb : c.code = cc) (hRm : 1 ≤ R.frames ∧ 40 ≤ R.locals) (h2 : lv[2]? = some (some (.ref (aM 0)))) (h5 : lv[5]? = some (some (.int k5))) (hk5 : S.2.1.1 0 = k5) (b1 : cs ≤ R.cells) (b2 : ss ≤ R.slots)
    (d0 : decode cc pc = .ok (.aload_n 2, 1)) (d1 : decode cc (pc + 1) = .ok (.invokevirtual 130, 3)) (d2 : decode cc (pc + 4) = .ok (.iload 5, 2)) (d3 : decode cc (pc + 6) = .ok (.if_icmp .eq 5, 3))
    (h : wG E W9 A p l e R s m args below meth c nL (pc + 11) lv [] S cs ss) : wG E W9 A p l e R s m args below meth c nL pc lv [] S cs ss := by
  refine wg_aln (u := 2) (k := 2) X.1 hb d0 rfl h2 ?_
  refine wg_call (i := .invokevirtual 130) (len := 3) (av := [.ref (aM 0)]) (rest := []) (KF := fun r S' => r = rI k5 ∧ S' = S) (xCR_VM (n := 0) (ci := 9) hI ho X (semX8_thrown l W9 aM hi) gL_law_X8_thrown rfl rfl (by decide +kernel) ⟨by omega, by omega⟩) hb d1 rfl rfl rfl (fun _ => Or.inr (by rw [hI]; exact Or.inr ⟨rfl, rfl, ho 0 (by omega)⟩)) (by decide) (by show cs + 0 ≤ _; omega) (by show ss + 0 ≤ _; omega) ⟨rfl, by rw [← hk5], rfl⟩ (fun v S' hk => ?_) (fun ex S' hk => by cases hk.1)
  obtain ⟨e1, rfl⟩ := hk
  cases e1
  refine wg_il (k := 5) X.1 hb d2 h5 ?_
  exact wg_ieq (t := pc + 11) (n2 := 5) X.1 hb d3 (by omega) (fun _ => h) (fun q => absurd rfl q)
end LL
