/-! The law's own body: one call of the script's; the loop over them. -/
section LP
variable {E : xEnv lS} {W9 : xWd} {A : Nat → Prop} {aM : Nat → Nat} {oA : Nat}
variable {p : Program} {l : Launch} {e : Env} {R : Room} {s : State} {m : MethodId} {args : Array Value} {below : List Frame} {meth : Method} {c : Code}
variable {b L i x B : Nat} {xs : Nat → Int32} {u v : Option Value} {S : lS} {cs ss : Nat}
def lOffs : Array Int := #[148, 248, 336, 404, 472, 568, 609, 689, 769, 887, 955, 1035, 1091, 1147, 1227, 1295, 1363, 1431, 1511, 1614, 1682, 1738, 1806, 1890, 1958, 2014, 2082, 2150, 2218, 2274, 2342, 2410, 2478]
set_option maxHeartbeats 4000000 in
set_option maxRecDepth 20000 in
theorem lc_sw (hl : l.stackTraces = false) (Z : lZ E W9 A p R s m args c b L xs aM oA) (hi : i + 7 ≤ L) (hR : RR W9 B x S.1 S.2.1) (hB : B + 15 ≤ 8000) (hd : lApt aM oA S.1) (c1 : cs + 290 ≤ R.cells) (c2 : ss + 9660 ≤ R.slots) (hk : lNx E W9 A p l e R s m args below meth c b x aM oA i B cs ss) : wG E W9 A p l e R s m args below meth c 7 33 (lLv b x (aM 0) oA i u v) [] S cs ss := by
  obtain ⟨⟨hI, hi9, ho⟩, X, hb, hN, ⟨hX, hbl, hbA, hL⟩, r1, r2⟩ := id Z
  refine wg_aln (u := 0) (k := 0) X.1 hb (by first | exact dcL (by decide +kernel) | decide +kernel) rfl rfl ?_
  refine wg_il (k := 4) X.1 hb (by first | exact dcL (by decide +kernel) | decide +kernel) rfl ?_
  refine wg_call (i := .iaload) (len := 1) (av := [.ref b, .int (nI i)]) (rest := []) (KF := fun r S' => r = rI (xs i) ∧ S' = S) (xCR_scr (ci := 0) X hX hbl hbA) hb (by first | exact dcL (by decide +kernel) | decide +kernel) rfl rfl rfl (fun ⟨k, q⟩ => by cases q) (by decide) (by show cs + 0 ≤ _; omega) (by show ss + 0 ≤ _; omega) ⟨_, rfl, vp_in_nI (by omega) (by omega), by rw [nI_clamp (by omega)], rfl⟩ (fun w S' hk1 => ?_) (fun ex S' hk1 => by cases hk1.1)
  obtain ⟨e1, rfl⟩ := hk1
  cases e1
  refine wg_bi (n := 63) X.1 hb (by first | exact dcL (by decide +kernel) | decide +kernel) ?_
  refine wg_and X.1 hb (by first | exact dcL (by decide +kernel) | decide +kernel) ?_
  change wG E W9 A p l e R s m args below meth c 7 40 (lLv b x (aM 0) oA i u v) [.int (xs i &&& 63)] S' cs ss
  obtain ⟨j, hj, ej⟩ := vp_in_of (pk_andIn (xs i) (m := 63) 6 (by decide) (by omega)) (by omega)
  rw [ej]
  have d40 : decode cL_law 40 = .ok (.tableswitch 2534 0 32 lOffs, 148) := by decide +kernel
  by_cases h : j < 33
  · match j, h with
    | 0, _ => exact wg_tbI (off := 148) (t := 188) X.1 hb d40 (by first | exact dcL (by decide +kernel) | decide +kernel) (by first | exact dcL (by decide +kernel) | decide +kernel) (by first | exact dcL (by decide +kernel) | decide +kernel) (by decide) (lc_reach hl Z hi hR hB hd c1 c2 hk)
    | 1, _ => exact wg_tbI (off := 248) (t := 288) X.1 hb d40 (by first | exact dcL (by decide +kernel) | decide +kernel) (by first | exact dcL (by decide +kernel) | decide +kernel) (by first | exact dcL (by decide +kernel) | decide +kernel) (by decide) (lc_lock hl Z hi hR hB hd c1 c2 hk)
    | 2, _ => exact wg_tbI (off := 336) (t := 376) X.1 hb d40 (by first | exact dcL (by decide +kernel) | decide +kernel) (by first | exact dcL (by decide +kernel) | decide +kernel) (by first | exact dcL (by decide +kernel) | decide +kernel) (by decide) (lc_dredge hl Z hi hR hB hd c1 c2 hk)
    | 3, _ => exact wg_tbI (off := 404) (t := 444) X.1 hb d40 (by first | exact dcL (by decide +kernel) | decide +kernel) (by first | exact dcL (by decide +kernel) | decide +kernel) (by first | exact dcL (by decide +kernel) | decide +kernel) (by decide) (lc_stage hl Z hi hR hB hd c1 c2 hk)
    | 4, _ => exact wg_tbI (off := 472) (t := 512) X.1 hb d40 (by first | exact dcL (by decide +kernel) | decide +kernel) (by first | exact dcL (by decide +kernel) | decide +kernel) (by first | exact dcL (by decide +kernel) | decide +kernel) (by decide) (lc_weather hl Z hi hR hB hd c1 c2 hk)
    | 5, _ => exact wg_tbI (off := 568) (t := 608) X.1 hb d40 (by first | exact dcL (by decide +kernel) | decide +kernel) (by first | exact dcL (by decide +kernel) | decide +kernel) (by first | exact dcL (by decide +kernel) | decide +kernel) (by decide) (lc_fog hl Z hi hR hB hd c1 c2 hk)
    | 6, _ => exact wg_tbI (off := 609) (t := 649) X.1 hb d40 (by first | exact dcL (by decide +kernel) | decide +kernel) (by first | exact dcL (by decide +kernel) | decide +kernel) (by first | exact dcL (by decide +kernel) | decide +kernel) (by decide) (lc_bank hl Z hi hR hB hd c1 c2 hk)
    | 7, _ => exact wg_tbI (off := 689) (t := 729) X.1 hb d40 (by first | exact dcL (by decide +kernel) | decide +kernel) (by first | exact dcL (by decide +kernel) | decide +kernel) (by first | exact dcL (by decide +kernel) | decide +kernel) (by decide) (lc_barge hl Z hi hR hB hd c1 c2 hk)
    | 8, _ => exact wg_tbI (off := 769) (t := 809) X.1 hb d40 (by first | exact dcL (by decide +kernel) | decide +kernel) (by first | exact dcL (by decide +kernel) | decide +kernel) (by first | exact dcL (by decide +kernel) | decide +kernel) (by decide) (lc_contract hl Z hi hR hB hd c1 c2 hk)
    | 9, _ => exact wg_tbI (off := 887) (t := 927) X.1 hb d40 (by first | exact dcL (by decide +kernel) | decide +kernel) (by first | exact dcL (by decide +kernel) | decide +kernel) (by first | exact dcL (by decide +kernel) | decide +kernel) (by decide) (lc_divert hl Z hi hR hB hd c1 c2 hk)
    | 10, _ => exact wg_tbI (off := 955) (t := 995) X.1 hb d40 (by first | exact dcL (by decide +kernel) | decide +kernel) (by first | exact dcL (by decide +kernel) | decide +kernel) (by first | exact dcL (by decide +kernel) | decide +kernel) (by decide) (lc_load hl Z hi hR hB hd c1 c2 hk)
    | 11, _ => exact wg_tbI (off := 1035) (t := 1075) X.1 hb d40 (by first | exact dcL (by decide +kernel) | decide +kernel) (by first | exact dcL (by decide +kernel) | decide +kernel) (by first | exact dcL (by decide +kernel) | decide +kernel) (by decide) (lc_unload hl Z hi hR hB hd c1 c2 hk)
    | 12, _ => exact wg_tbI (off := 1091) (t := 1131) X.1 hb d40 (by first | exact dcL (by decide +kernel) | decide +kernel) (by first | exact dcL (by decide +kernel) | decide +kernel) (by first | exact dcL (by decide +kernel) | decide +kernel) (by decide) (lc_clean hl Z hi hR hB hd c1 c2 hk)
    | 13, _ => exact wg_tbI (off := 1147) (t := 1187) X.1 hb d40 (by first | exact dcL (by decide +kernel) | decide +kernel) (by first | exact dcL (by decide +kernel) | decide +kernel) (by first | exact dcL (by decide +kernel) | decide +kernel) (by decide) (lc_boat hl Z hi hR hB hd c1 c2 hk)
    | 14, _ => exact wg_tbI (off := 1227) (t := 1267) X.1 hb d40 (by first | exact dcL (by decide +kernel) | decide +kernel) (by first | exact dcL (by decide +kernel) | decide +kernel) (by first | exact dcL (by decide +kernel) | decide +kernel) (by decide) (lc_fuel hl Z hi hR hB hd c1 c2 hk)
    | 15, _ => exact wg_tbI (off := 1295) (t := 1335) X.1 hb d40 (by first | exact dcL (by decide +kernel) | decide +kernel) (by first | exact dcL (by decide +kernel) | decide +kernel) (by first | exact dcL (by decide +kernel) | decide +kernel) (by decide) (lc_wide hl Z hi hR hB hd c1 c2 hk)
    | 16, _ => exact wg_tbI (off := 1363) (t := 1403) X.1 hb d40 (by first | exact dcL (by decide +kernel) | decide +kernel) (by first | exact dcL (by decide +kernel) | decide +kernel) (by first | exact dcL (by decide +kernel) | decide +kernel) (by decide) (lc_couple hl Z hi hR hB hd c1 c2 hk)
    | 17, _ => exact wg_tbI (off := 1431) (t := 1471) X.1 hb d40 (by first | exact dcL (by decide +kernel) | decide +kernel) (by first | exact dcL (by decide +kernel) | decide +kernel) (by first | exact dcL (by decide +kernel) | decide +kernel) (by decide) (lc_drop hl Z hi hR hB hd c1 c2 hk)
    | 18, _ => exact wg_tbI (off := 1511) (t := 1551) X.1 hb d40 (by first | exact dcL (by decide +kernel) | decide +kernel) (by first | exact dcL (by decide +kernel) | decide +kernel) (by first | exact dcL (by decide +kernel) | decide +kernel) (by decide) (lc_radio hl Z hi hR hB hd c1 c2 hk)
    | 19, _ => exact wg_tbI (off := 1614) (t := 1654) X.1 hb d40 (by first | exact dcL (by decide +kernel) | decide +kernel) (by first | exact dcL (by decide +kernel) | decide +kernel) (by first | exact dcL (by decide +kernel) | decide +kernel) (by decide) (lc_go hl Z hi hR hB hd c1 c2 hk)
    | 20, _ => exact wg_tbI (off := 1682) (t := 1722) X.1 hb d40 (by first | exact dcL (by decide +kernel) | decide +kernel) (by first | exact dcL (by decide +kernel) | decide +kernel) (by first | exact dcL (by decide +kernel) | decide +kernel) (by decide) (lc_pass hl Z hi hR hB hd c1 c2 hk)
    | 21, _ => exact wg_tbI (off := 1738) (t := 1778) X.1 hb d40 (by first | exact dcL (by decide +kernel) | decide +kernel) (by first | exact dcL (by decide +kernel) | decide +kernel) (by first | exact dcL (by decide +kernel) | decide +kernel) (by decide) (lc_water hl Z hi hR hB hd c1 c2 hk)
    | 22, _ => exact wg_tbI (off := 1806) (t := 1846) X.1 hb d40 (by first | exact dcL (by decide +kernel) | decide +kernel) (by first | exact dcL (by decide +kernel) | decide +kernel) (by first | exact dcL (by decide +kernel) | decide +kernel) (by decide) (lc_most hl Z hi hR hB hd c1 c2 hk)
    | 23, _ => exact wg_tbI (off := 1890) (t := 1930) X.1 hb d40 (by first | exact dcL (by decide +kernel) | decide +kernel) (by first | exact dcL (by decide +kernel) | decide +kernel) (by first | exact dcL (by decide +kernel) | decide +kernel) (by decide) (lc_hours hl Z hi hR hB hd c1 c2 hk)
    | 24, _ => exact wg_tbI (off := 1958) (t := 1998) X.1 hb d40 (by first | exact dcL (by decide +kernel) | decide +kernel) (by first | exact dcL (by decide +kernel) | decide +kernel) (by first | exact dcL (by decide +kernel) | decide +kernel) (by decide) (lc_bars hl Z hi hR hB hd c1 c2 hk)
    | 25, _ => exact wg_tbI (off := 2014) (t := 2054) X.1 hb d40 (by first | exact dcL (by decide +kernel) | decide +kernel) (by first | exact dcL (by decide +kernel) | decide +kernel) (by first | exact dcL (by decide +kernel) | decide +kernel) (by decide) (lc_ofBoat hl Z hi hR hB hd c1 c2 hk)
    | 26, _ => exact wg_tbI (off := 2082) (t := 2122) X.1 hb d40 (by first | exact dcL (by decide +kernel) | decide +kernel) (by first | exact dcL (by decide +kernel) | decide +kernel) (by first | exact dcL (by decide +kernel) | decide +kernel) (by decide) (lc_waited hl Z hi hR hB hd c1 c2 hk)
    | 27, _ => exact wg_tbI (off := 2150) (t := 2190) X.1 hb d40 (by first | exact dcL (by decide +kernel) | decide +kernel) (by first | exact dcL (by decide +kernel) | decide +kernel) (by first | exact dcL (by decide +kernel) | decide +kernel) (by decide) (lc_ofBarge hl Z hi hR hB hd c1 c2 hk)
    | 28, _ => exact wg_tbI (off := 2218) (t := 2258) X.1 hb d40 (by first | exact dcL (by decide +kernel) | decide +kernel) (by first | exact dcL (by decide +kernel) | decide +kernel) (by first | exact dcL (by decide +kernel) | decide +kernel) (by decide) (lc_placeAnew hl Z hi hR hB hd c1 c2 hk)
    | 29, _ => exact wg_tbI (off := 2274) (t := 2314) X.1 hb d40 (by first | exact dcL (by decide +kernel) | decide +kernel) (by first | exact dcL (by decide +kernel) | decide +kernel) (by first | exact dcL (by decide +kernel) | decide +kernel) (by decide) (lc_shifts hl Z hi hR hB hd c1 c2 hk)
    | 30, _ => exact wg_tbI (off := 2342) (t := 2382) X.1 hb d40 (by first | exact dcL (by decide +kernel) | decide +kernel) (by first | exact dcL (by decide +kernel) | decide +kernel) (by first | exact dcL (by decide +kernel) | decide +kernel) (by decide) (lc_shiftsAnew hl Z hi hR hB hd c1 c2 hk)
    | 31, _ => exact wg_tbI (off := 2410) (t := 2450) X.1 hb d40 (by first | exact dcL (by decide +kernel) | decide +kernel) (by first | exact dcL (by decide +kernel) | decide +kernel) (by first | exact dcL (by decide +kernel) | decide +kernel) (by decide) (lc_ofContract hl Z hi hR hB hd c1 c2 hk)
    | 32, _ => exact wg_tbI (off := 2478) (t := 2518) X.1 hb d40 (by first | exact dcL (by decide +kernel) | decide +kernel) (by first | exact dcL (by decide +kernel) | decide +kernel) (by first | exact dcL (by decide +kernel) | decide +kernel) (by decide) (lc_all hl Z hi hR hB hd c1 c2 hk)
    | k + 33, h => exact absurd h (by omega)
  · exact wg_tbO (t := 2574) X.1 hb d40 (Or.inr (by rw [nI_toInt (by omega)]; omega)) (by decide) (hk _ _ _ _ _ (RR_up hR (by omega) hB) hd (by omega) (by omega))
theorem lp_cmp {L j : Nat} (hL : L ≤ 3584) (hj : 7 * j ≤ 3584) : (Int32.ofNat L - 7 < nI (7 * j)) ↔ L < 7 * j + 7 := by
  by_cases h : L < 7
  · have h1 : ∀ L, L < 7 → Int32.ofNat L - 7 < 0 := by decide
    exact ⟨fun _ => by omega, fun _ => Int32.lt_of_lt_of_le (h1 L h) (nI_pos' (by omega))⟩
  · obtain ⟨k, rfl⟩ : ∃ k, L = k + 7 := ⟨L - 7, by omega⟩
    have e : Int32.ofNat (k + 7) - 7 = nI k := by
      show nI (k + 7) - 7 = nI k
      rw [← nI_add]
      exact Int32.add_sub_cancel _ _
    rw [e, nI_ltI (by omega) (by omega)]
    omega
set_option maxHeartbeats 1000000 in
set_option maxRecDepth 20000 in
theorem lc_loop (hl : l.stackTraces = false) (Z : lZ E W9 A p R s m args c b L xs aM oA) (hF : ∀ S, eF E (rI 1) S) (hr : meth.sig.returnType = some .boolean) (hlk : meth.locks = false) (m1 : R.cells ≤ eMc E) (m2 : R.slots ≤ eMs E) {c0 s0 : Nat} (q1 : c0 + 290 * 512 ≤ R.cells) (q2 : s0 + 9660 * 512 ≤ R.slots) :
    ∀ (n j : Nat) (S : lS) (cs ss : Nat) (u v : Option Value), L ≤ 7 * (j + n) + 6 → 7 * j ≤ L → RR W9 (15 * j) x S.1 S.2.1 → lApt aM oA S.1 → cs ≤ c0 + 290 * j → ss ≤ s0 + 9660 * j → wG E W9 A p l e R s m args below meth c 7 23 (lLv b x (aM 0) oA (7 * j) u v) [] S cs ss := by
  have Z0 := Z
  obtain ⟨⟨hI, hi9, ho⟩, X, hb, hN, ⟨hX, hbl, hbA, hL⟩, r1, r2⟩ := Z0
  intro n
  induction n with
  | zero =>
    intro j S cs ss u v h1 h2 hR hd h3 h4
    refine wg_il (k := 4) X.1 hb (by first | exact dcL (by decide +kernel) | decide +kernel) rfl ?_
    refine wg_aln (u := 0) (k := 0) X.1 hb (by first | exact dcL (by decide +kernel) | decide +kernel) rfl rfl ?_
    refine wg_call (i := .arraylength) (len := 1) (av := [.ref b]) (rest := [.int (nI (7 * j))]) (KF := fun r S' => r = rI (Int32.ofNat L) ∧ S' = S) (xCR_sln (ci := 0) X hX hbl hbA) hb (by first | exact dcL (by decide +kernel) | decide +kernel) rfl rfl rfl (fun ⟨k, q⟩ => by cases q) (by show 1 + 0 ≤ 8; omega) (by show cs + 0 ≤ _; omega) (by show ss + 0 ≤ _; omega) ⟨rfl, rfl, rfl⟩ (fun w S' hk1 => ?_) (fun ex S' hk1 => by cases hk1.1)
    obtain ⟨e1, rfl⟩ := hk1
    cases e1
    refine wg_bi (n := 7) X.1 hb (by first | exact dcL (by decide +kernel) | decide +kernel) ?_
    refine wg_sub X.1 hb (by first | exact dcL (by decide +kernel) | decide +kernel) ?_
    refine wg_igt (t := 2580) (n2 := 2550) X.1 hb (by first | exact dcL (by decide +kernel) | decide +kernel) (by decide) (fun _ => ?_) (fun q => absurd ((lp_cmp hL (by omega)).mpr (by omega)) q)
    refine wg_ic (z := 1) X.1 hb (by first | exact dcL (by decide +kernel) | decide +kernel) ?_
    exact wg_rz X.1 hb hr hlk (by first | exact dcL (by decide +kernel) | decide +kernel) (Or.inr rfl) (by show cs + 0 ≤ _; omega) (by show ss + 0 ≤ _; omega) (hF _)
  | succ n ih =>
    intro j S cs ss u v h1 h2 hR hd h3 h4
    refine wg_il (k := 4) X.1 hb (by first | exact dcL (by decide +kernel) | decide +kernel) rfl ?_
    refine wg_aln (u := 0) (k := 0) X.1 hb (by first | exact dcL (by decide +kernel) | decide +kernel) rfl rfl ?_
    refine wg_call (i := .arraylength) (len := 1) (av := [.ref b]) (rest := [.int (nI (7 * j))]) (KF := fun r S' => r = rI (Int32.ofNat L) ∧ S' = S) (xCR_sln (ci := 0) X hX hbl hbA) hb (by first | exact dcL (by decide +kernel) | decide +kernel) rfl rfl rfl (fun ⟨k, q⟩ => by cases q) (by show 1 + 0 ≤ 8; omega) (by show cs + 0 ≤ _; omega) (by show ss + 0 ≤ _; omega) ⟨rfl, rfl, rfl⟩ (fun w S' hk1 => ?_) (fun ex S' hk1 => by cases hk1.1)
    obtain ⟨e1, rfl⟩ := hk1
    cases e1
    refine wg_bi (n := 7) X.1 hb (by first | exact dcL (by decide +kernel) | decide +kernel) ?_
    refine wg_sub X.1 hb (by first | exact dcL (by decide +kernel) | decide +kernel) ?_
    refine wg_igt (t := 2580) (n2 := 2550) X.1 hb (by first | exact dcL (by decide +kernel) | decide +kernel) (by decide) (fun _ => ?_) (fun q => ?_)
    · refine wg_ic (z := 1) X.1 hb (by first | exact dcL (by decide +kernel) | decide +kernel) ?_
      exact wg_rz X.1 hb hr hlk (by first | exact dcL (by decide +kernel) | decide +kernel) (Or.inr rfl) (by show cs + 0 ≤ _; omega) (by show ss + 0 ≤ _; omega) (hF _)
    · have hlt : 7 * j + 7 ≤ L := Nat.le_of_not_lt (fun z => q ((lp_cmp hL (by omega)).mpr z))
      change wG E W9 A p l e R s m args below meth c 7 33 (lLv b x (aM 0) oA (7 * j) u v) [] S' cs ss
      refine lc_sw hl Z hlt hR (by omega) hd (by omega) (by omega) (fun S2 cs2 ss2 u2 v2 g1 g2 g3 g4 => ?_)
      refine wg_inc (k := 4) (n := 7) (v := nI (7 * (j + 1))) X.1 hb (by first | exact dcL (by decide +kernel) | decide +kernel) (by omega) rfl (nI_add (7 * j) 7) ?_
      refine wg_goto (z := 23) (n2 := -2554) X.1 hb (by first | exact dcL (by decide +kernel) | decide +kernel) (by decide) ?_
      have e3 : c0 + 290 * j + 290 = c0 + 290 * (j + 1) := by rw [Nat.mul_add, Nat.mul_one, Nat.add_assoc]
      have e4 : s0 + 9660 * j + 9660 = s0 + 9660 * (j + 1) := by rw [Nat.mul_add, Nat.mul_one, Nat.add_assoc]
      exact ih (j + 1) S2 cs2 ss2 u2 v2 (by omega) (by omega) g1 g2 (Nat.le_trans g3 (Nat.le_trans (Nat.add_le_add_right h3 290) (Nat.le_of_eq e3))) (Nat.le_trans g4 (Nat.le_trans (Nat.add_le_add_right h4 9660) (Nat.le_of_eq e4)))
end LP
