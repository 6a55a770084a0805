/-! The beginning: the class's own constructor. -/
def jq (W9 : xWd) (S : cS) (a g q : Nat) : cS := cSetR (cSetR (cSetI (cNewO S q 0) q 0 0) q 1 (some (wE W9))) a g (some q)
theorem cK_jq {W9 : xWd} {S : cS} {a g q b : Nat} : cK (jq W9 S a g q) b = if b = q then 1 else cK S b := rfl
theorem jq_live {W9 : xWd} {S : cS} {a g q b : Nat} (h : ¬ cDead S b) : ¬ cDead (jq W9 S a g q) b := by
  unfold cDead at *
  rw [cK_jq]
  split
  · omega
  · exact h
theorem jq_new {W9 : xWd} {S : cS} {a g q : Nat} : ¬ cDead (jq W9 S a g q) q := by
  unfold cDead
  rw [cK_jq, if_pos rfl]
  omega
theorem nO_live {S : cS} {q ci b : Nat} (hc : ci ≤ 9) (h : ¬ cDead S b) : ¬ cDead (cNewO S q ci) b := fun z => h ((dead_nO hc).mp z).2
theorem nO_new {S : cS} {q ci : Nat} (hc : ci ≤ 9) : ¬ cDead (cNewO S q ci) q := fun z => ((dead_nO hc).mp z).1 rfl
theorem nI_live {S : cS} {q n b : Nat} (h : ¬ cDead S b) : ¬ cDead (cNewI S q 0 n) b := by
  unfold cDead at *
  rw [cK_newI]
  split
  · omega
  · exact h
theorem nI_new {S : cS} {q n : Nat} : ¬ cDead (cNewI S q 0 n) q := by
  unfold cDead
  rw [cK_newI, if_pos rfl]
  omega
theorem sR_live {S : cS} {q g b : Nat} {x : Option Nat} (h : ¬ cDead S b) : ¬ cDead (cSetR S q g x) b := h

set_option maxHeartbeats 2000000 in
theorem jini {W9 : xWd} {S : cS} {a q0 q1 q2 q3 q4 r st pg nt : Nat} (h0 : cK S a = 9) (hz : ∀ g, 2 < g → cFi S a g = 0) (x0 : cDead S q0) (x1 : cDead (jq W9 S a 800 q0) q1) (x2 : cDead (jq W9 (jq W9 S a 800 q0) a 801 q1) q2) (x3 : cDead (jq W9 (jq W9 (jq W9 S a 800 q0) a 801 q1) a 802 q2) q3) (x4 : cDead (jq W9 (jq W9 (jq W9 (jq W9 S a 800 q0) a 801 q1) a 802 q2) a 803 q3) q4)
    (x5 : cDead (jq W9 (jq W9 (jq W9 (jq W9 (jq W9 S a 800 q0) a 801 q1) a 802 q2) a 803 q3) a 804 q4) r) (x6 : cDead (cSetR (cNewI (jq W9 (jq W9 (jq W9 (jq W9 (jq W9 S a 800 q0) a 801 q1) a 802 q2) a 803 q3) a 804 q4) r 0 8) a 805 (some r)) st)
    (x7 : cDead (cNewO (cSetR (cNewI (jq W9 (jq W9 (jq W9 (jq W9 (jq W9 S a 800 q0) a 801 q1) a 802 q2) a 803 q3) a 804 q4) r 0 8) a 805 (some r)) st 7) pg) (x8 : cDead (cNewO (cNewO (cSetR (cNewI (jq W9 (jq W9 (jq W9 (jq W9 (jq W9 S a 800 q0) a 801 q1) a 802 q2) a 803 q3) a 804 q4) r 0 8) a 805 (some r)) st 7) pg 4) nt) :
    ∃ d, jB a d (cSetR (cSetR (cSetR (cPg (cNewO (cSetR (cNewI (jq W9 (jq W9 (jq W9 (jq W9 (jq W9 S a 800 q0) a 801 q1) a 802 q2) a 803 q3) a 804 q4) r 0 8) a 805 (some r)) st 7) pg nt) st 700 (some pg)) st 701 (some pg)) a 806 (some st)) 0 0 ∧ jLs W9 d (cSetR (cSetR (cSetR (cPg (cNewO (cSetR (cNewI (jq W9 (jq W9 (jq W9 (jq W9 (jq W9 S a 800 q0) a 801 q1) a 802 q2) a 803 q3) a 804 q4) r 0 8) a 805 (some r)) st 7) pg nt) st 700 (some pg)) st 701 (some pg)) a 806 (some st)) 0 0 := by
  have l_0_a : ¬ cDead S a := live_of h0 (by omega)
  have n_a_q0 : (a = q0) = False := eq_false (live_ne l_0_a x0)
  have n_q0_a : (q0 = a) = False := eq_false (fun y => live_ne l_0_a x0 y.symm)
  have l_1_a := @jq_live W9 _ a 800 q0 _ l_0_a
  have l_1_q0 := @jq_new W9 S a 800 q0
  have n_a_q1 : (a = q1) = False := eq_false (live_ne l_1_a x1)
  have n_q1_a : (q1 = a) = False := eq_false (fun y => live_ne l_1_a x1 y.symm)
  have n_q0_q1 : (q0 = q1) = False := eq_false (live_ne l_1_q0 x1)
  have n_q1_q0 : (q1 = q0) = False := eq_false (fun y => live_ne l_1_q0 x1 y.symm)
  have l_2_a := @jq_live W9 _ a 801 q1 _ l_1_a
  have l_2_q0 := @jq_live W9 _ a 801 q1 _ l_1_q0
  have l_2_q1 := @jq_new W9 (jq W9 S a 800 q0) a 801 q1
  have n_a_q2 : (a = q2) = False := eq_false (live_ne l_2_a x2)
  have n_q2_a : (q2 = a) = False := eq_false (fun y => live_ne l_2_a x2 y.symm)
  have n_q0_q2 : (q0 = q2) = False := eq_false (live_ne l_2_q0 x2)
  have n_q2_q0 : (q2 = q0) = False := eq_false (fun y => live_ne l_2_q0 x2 y.symm)
  have n_q1_q2 : (q1 = q2) = False := eq_false (live_ne l_2_q1 x2)
  have n_q2_q1 : (q2 = q1) = False := eq_false (fun y => live_ne l_2_q1 x2 y.symm)
  have l_3_a := @jq_live W9 _ a 802 q2 _ l_2_a
  have l_3_q0 := @jq_live W9 _ a 802 q2 _ l_2_q0
  have l_3_q1 := @jq_live W9 _ a 802 q2 _ l_2_q1
  have l_3_q2 := @jq_new W9 (jq W9 (jq W9 S a 800 q0) a 801 q1) a 802 q2
  have n_a_q3 : (a = q3) = False := eq_false (live_ne l_3_a x3)
  have n_q3_a : (q3 = a) = False := eq_false (fun y => live_ne l_3_a x3 y.symm)
  have n_q0_q3 : (q0 = q3) = False := eq_false (live_ne l_3_q0 x3)
  have n_q3_q0 : (q3 = q0) = False := eq_false (fun y => live_ne l_3_q0 x3 y.symm)
  have n_q1_q3 : (q1 = q3) = False := eq_false (live_ne l_3_q1 x3)
  have n_q3_q1 : (q3 = q1) = False := eq_false (fun y => live_ne l_3_q1 x3 y.symm)
  have n_q2_q3 : (q2 = q3) = False := eq_false (live_ne l_3_q2 x3)
  have n_q3_q2 : (q3 = q2) = False := eq_false (fun y => live_ne l_3_q2 x3 y.symm)
  have l_4_a := @jq_live W9 _ a 803 q3 _ l_3_a
  have l_4_q0 := @jq_live W9 _ a 803 q3 _ l_3_q0
  have l_4_q1 := @jq_live W9 _ a 803 q3 _ l_3_q1
  have l_4_q2 := @jq_live W9 _ a 803 q3 _ l_3_q2
  have l_4_q3 := @jq_new W9 (jq W9 (jq W9 (jq W9 S a 800 q0) a 801 q1) a 802 q2) a 803 q3
  have n_a_q4 : (a = q4) = False := eq_false (live_ne l_4_a x4)
  have n_q4_a : (q4 = a) = False := eq_false (fun y => live_ne l_4_a x4 y.symm)
  have n_q0_q4 : (q0 = q4) = False := eq_false (live_ne l_4_q0 x4)
  have n_q4_q0 : (q4 = q0) = False := eq_false (fun y => live_ne l_4_q0 x4 y.symm)
  have n_q1_q4 : (q1 = q4) = False := eq_false (live_ne l_4_q1 x4)
  have n_q4_q1 : (q4 = q1) = False := eq_false (fun y => live_ne l_4_q1 x4 y.symm)
  have n_q2_q4 : (q2 = q4) = False := eq_false (live_ne l_4_q2 x4)
  have n_q4_q2 : (q4 = q2) = False := eq_false (fun y => live_ne l_4_q2 x4 y.symm)
  have n_q3_q4 : (q3 = q4) = False := eq_false (live_ne l_4_q3 x4)
  have n_q4_q3 : (q4 = q3) = False := eq_false (fun y => live_ne l_4_q3 x4 y.symm)
  have l_5_a := @jq_live W9 _ a 804 q4 _ l_4_a
  have l_5_q0 := @jq_live W9 _ a 804 q4 _ l_4_q0
  have l_5_q1 := @jq_live W9 _ a 804 q4 _ l_4_q1
  have l_5_q2 := @jq_live W9 _ a 804 q4 _ l_4_q2
  have l_5_q3 := @jq_live W9 _ a 804 q4 _ l_4_q3
  have l_5_q4 := @jq_new W9 (jq W9 (jq W9 (jq W9 (jq W9 S a 800 q0) a 801 q1) a 802 q2) a 803 q3) a 804 q4
  have n_a_r : (a = r) = False := eq_false (live_ne l_5_a x5)
  have n_r_a : (r = a) = False := eq_false (fun y => live_ne l_5_a x5 y.symm)
  have n_q0_r : (q0 = r) = False := eq_false (live_ne l_5_q0 x5)
  have n_r_q0 : (r = q0) = False := eq_false (fun y => live_ne l_5_q0 x5 y.symm)
  have n_q1_r : (q1 = r) = False := eq_false (live_ne l_5_q1 x5)
  have n_r_q1 : (r = q1) = False := eq_false (fun y => live_ne l_5_q1 x5 y.symm)
  have n_q2_r : (q2 = r) = False := eq_false (live_ne l_5_q2 x5)
  have n_r_q2 : (r = q2) = False := eq_false (fun y => live_ne l_5_q2 x5 y.symm)
  have n_q3_r : (q3 = r) = False := eq_false (live_ne l_5_q3 x5)
  have n_r_q3 : (r = q3) = False := eq_false (fun y => live_ne l_5_q3 x5 y.symm)
  have n_q4_r : (q4 = r) = False := eq_false (live_ne l_5_q4 x5)
  have n_r_q4 : (r = q4) = False := eq_false (fun y => live_ne l_5_q4 x5 y.symm)
  have l_6_a := (sR_live (q := a) (g := 805) (x := some r) (nI_live (q := r) (n := 8) l_5_a))
  have l_6_q0 := (sR_live (q := a) (g := 805) (x := some r) (nI_live (q := r) (n := 8) l_5_q0))
  have l_6_q1 := (sR_live (q := a) (g := 805) (x := some r) (nI_live (q := r) (n := 8) l_5_q1))
  have l_6_q2 := (sR_live (q := a) (g := 805) (x := some r) (nI_live (q := r) (n := 8) l_5_q2))
  have l_6_q3 := (sR_live (q := a) (g := 805) (x := some r) (nI_live (q := r) (n := 8) l_5_q3))
  have l_6_q4 := (sR_live (q := a) (g := 805) (x := some r) (nI_live (q := r) (n := 8) l_5_q4))
  have l_6_r := (sR_live (q := a) (g := 805) (x := some r) (nI_new (S := (jq W9 (jq W9 (jq W9 (jq W9 (jq W9 S a 800 q0) a 801 q1) a 802 q2) a 803 q3) a 804 q4)) (q := r) (n := 8)))
  have n_a_st : (a = st) = False := eq_false (live_ne l_6_a x6)
  have n_st_a : (st = a) = False := eq_false (fun y => live_ne l_6_a x6 y.symm)
  have n_q0_st : (q0 = st) = False := eq_false (live_ne l_6_q0 x6)
  have n_st_q0 : (st = q0) = False := eq_false (fun y => live_ne l_6_q0 x6 y.symm)
  have n_q1_st : (q1 = st) = False := eq_false (live_ne l_6_q1 x6)
  have n_st_q1 : (st = q1) = False := eq_false (fun y => live_ne l_6_q1 x6 y.symm)
  have n_q2_st : (q2 = st) = False := eq_false (live_ne l_6_q2 x6)
  have n_st_q2 : (st = q2) = False := eq_false (fun y => live_ne l_6_q2 x6 y.symm)
  have n_q3_st : (q3 = st) = False := eq_false (live_ne l_6_q3 x6)
  have n_st_q3 : (st = q3) = False := eq_false (fun y => live_ne l_6_q3 x6 y.symm)
  have n_q4_st : (q4 = st) = False := eq_false (live_ne l_6_q4 x6)
  have n_st_q4 : (st = q4) = False := eq_false (fun y => live_ne l_6_q4 x6 y.symm)
  have n_r_st : (r = st) = False := eq_false (live_ne l_6_r x6)
  have n_st_r : (st = r) = False := eq_false (fun y => live_ne l_6_r x6 y.symm)
  have l_7_a := nO_live (q := st) (ci := 7) (by omega) l_6_a
  have l_7_q0 := nO_live (q := st) (ci := 7) (by omega) l_6_q0
  have l_7_q1 := nO_live (q := st) (ci := 7) (by omega) l_6_q1
  have l_7_q2 := nO_live (q := st) (ci := 7) (by omega) l_6_q2
  have l_7_q3 := nO_live (q := st) (ci := 7) (by omega) l_6_q3
  have l_7_q4 := nO_live (q := st) (ci := 7) (by omega) l_6_q4
  have l_7_r := nO_live (q := st) (ci := 7) (by omega) l_6_r
  have l_7_st := nO_new (S := (cSetR (cNewI (jq W9 (jq W9 (jq W9 (jq W9 (jq W9 S a 800 q0) a 801 q1) a 802 q2) a 803 q3) a 804 q4) r 0 8) a 805 (some r))) (q := st) (ci := 7) (by omega)
  have n_a_pg : (a = pg) = False := eq_false (live_ne l_7_a x7)
  have n_pg_a : (pg = a) = False := eq_false (fun y => live_ne l_7_a x7 y.symm)
  have n_q0_pg : (q0 = pg) = False := eq_false (live_ne l_7_q0 x7)
  have n_pg_q0 : (pg = q0) = False := eq_false (fun y => live_ne l_7_q0 x7 y.symm)
  have n_q1_pg : (q1 = pg) = False := eq_false (live_ne l_7_q1 x7)
  have n_pg_q1 : (pg = q1) = False := eq_false (fun y => live_ne l_7_q1 x7 y.symm)
  have n_q2_pg : (q2 = pg) = False := eq_false (live_ne l_7_q2 x7)
  have n_pg_q2 : (pg = q2) = False := eq_false (fun y => live_ne l_7_q2 x7 y.symm)
  have n_q3_pg : (q3 = pg) = False := eq_false (live_ne l_7_q3 x7)
  have n_pg_q3 : (pg = q3) = False := eq_false (fun y => live_ne l_7_q3 x7 y.symm)
  have n_q4_pg : (q4 = pg) = False := eq_false (live_ne l_7_q4 x7)
  have n_pg_q4 : (pg = q4) = False := eq_false (fun y => live_ne l_7_q4 x7 y.symm)
  have n_r_pg : (r = pg) = False := eq_false (live_ne l_7_r x7)
  have n_pg_r : (pg = r) = False := eq_false (fun y => live_ne l_7_r x7 y.symm)
  have n_st_pg : (st = pg) = False := eq_false (live_ne l_7_st x7)
  have n_pg_st : (pg = st) = False := eq_false (fun y => live_ne l_7_st x7 y.symm)
  have l_8_a := nO_live (q := pg) (ci := 4) (by omega) l_7_a
  have l_8_q0 := nO_live (q := pg) (ci := 4) (by omega) l_7_q0
  have l_8_q1 := nO_live (q := pg) (ci := 4) (by omega) l_7_q1
  have l_8_q2 := nO_live (q := pg) (ci := 4) (by omega) l_7_q2
  have l_8_q3 := nO_live (q := pg) (ci := 4) (by omega) l_7_q3
  have l_8_q4 := nO_live (q := pg) (ci := 4) (by omega) l_7_q4
  have l_8_r := nO_live (q := pg) (ci := 4) (by omega) l_7_r
  have l_8_st := nO_live (q := pg) (ci := 4) (by omega) l_7_st
  have l_8_pg := nO_new (S := (cNewO (cSetR (cNewI (jq W9 (jq W9 (jq W9 (jq W9 (jq W9 S a 800 q0) a 801 q1) a 802 q2) a 803 q3) a 804 q4) r 0 8) a 805 (some r)) st 7)) (q := pg) (ci := 4) (by omega)
  have n_a_nt : (a = nt) = False := eq_false (live_ne l_8_a x8)
  have n_nt_a : (nt = a) = False := eq_false (fun y => live_ne l_8_a x8 y.symm)
  have n_q0_nt : (q0 = nt) = False := eq_false (live_ne l_8_q0 x8)
  have n_nt_q0 : (nt = q0) = False := eq_false (fun y => live_ne l_8_q0 x8 y.symm)
  have n_q1_nt : (q1 = nt) = False := eq_false (live_ne l_8_q1 x8)
  have n_nt_q1 : (nt = q1) = False := eq_false (fun y => live_ne l_8_q1 x8 y.symm)
  have n_q2_nt : (q2 = nt) = False := eq_false (live_ne l_8_q2 x8)
  have n_nt_q2 : (nt = q2) = False := eq_false (fun y => live_ne l_8_q2 x8 y.symm)
  have n_q3_nt : (q3 = nt) = False := eq_false (live_ne l_8_q3 x8)
  have n_nt_q3 : (nt = q3) = False := eq_false (fun y => live_ne l_8_q3 x8 y.symm)
  have n_q4_nt : (q4 = nt) = False := eq_false (live_ne l_8_q4 x8)
  have n_nt_q4 : (nt = q4) = False := eq_false (fun y => live_ne l_8_q4 x8 y.symm)
  have n_r_nt : (r = nt) = False := eq_false (live_ne l_8_r x8)
  have n_nt_r : (nt = r) = False := eq_false (fun y => live_ne l_8_r x8 y.symm)
  have n_st_nt : (st = nt) = False := eq_false (live_ne l_8_st x8)
  have n_nt_st : (nt = st) = False := eq_false (fun y => live_ne l_8_st x8 y.symm)
  have n_pg_nt : (pg = nt) = False := eq_false (live_ne l_8_pg x8)
  have n_nt_pg : (nt = pg) = False := eq_false (fun y => live_ne l_8_pg x8 y.symm)
  obtain ⟨D0, e0⟩ : ∃ D, D = dSw dB 9 0 a := ⟨_, rfl⟩
  obtain ⟨D1, e1⟩ : ∃ D, D = dSw D0 6 0 q0 := ⟨_, rfl⟩
  obtain ⟨D2, e2⟩ : ∃ D, D = dSw D1 6 1 q1 := ⟨_, rfl⟩
  obtain ⟨D3, e3⟩ : ∃ D, D = dSw D2 6 2 q2 := ⟨_, rfl⟩
  obtain ⟨D4, e4⟩ : ∃ D, D = dSw D3 6 3 q3 := ⟨_, rfl⟩
  obtain ⟨D5, e5⟩ : ∃ D, D = dSw D4 6 4 q4 := ⟨_, rfl⟩
  obtain ⟨D6, e6⟩ : ∃ D, D = dSw D5 9 1 r := ⟨_, rfl⟩
  obtain ⟨D7, e7⟩ : ∃ D, D = dSw D6 9 2 st := ⟨_, rfl⟩
  obtain ⟨D8, e8⟩ : ∃ D, D = dSw D7 11 0 pg := ⟨_, rfl⟩
  obtain ⟨D9, e9⟩ : ∃ D, D = dSw D8 12 0 nt := ⟨_, rfl⟩
  have i0 : dInj D0 := by rw [e0]; exact dSw_inj dB_inj _ _ _
  have i1 : dInj D1 := by rw [e1]; exact dSw_inj i0 _ _ _
  have i2 : dInj D2 := by rw [e2]; exact dSw_inj i1 _ _ _
  have i3 : dInj D3 := by rw [e3]; exact dSw_inj i2 _ _ _
  have i4 : dInj D4 := by rw [e4]; exact dSw_inj i3 _ _ _
  have i5 : dInj D5 := by rw [e5]; exact dSw_inj i4 _ _ _
  have i6 : dInj D6 := by rw [e6]; exact dSw_inj i5 _ _ _
  have i7 : dInj D7 := by rw [e7]; exact dSw_inj i6 _ _ _
  have i8 : dInj D8 := by rw [e8]; exact dSw_inj i7 _ _ _
  have i9 : dInj D9 := by rw [e9]; exact dSw_inj i8 _ _ _
  have v_0_0 : D0 9 0 = a := by rw [e0]; exact dSw_at
  have v_0_1 : D1 9 0 = a := by rw [e1, dSw_ne (by omega) (by rw [v_0_0]; exact fun y => n_a_q0.mp y)]; exact v_0_0
  have v_0_2 : D2 9 0 = a := by rw [e2, dSw_ne (by omega) (by rw [v_0_1]; exact fun y => n_a_q1.mp y)]; exact v_0_1
  have v_0_3 : D3 9 0 = a := by rw [e3, dSw_ne (by omega) (by rw [v_0_2]; exact fun y => n_a_q2.mp y)]; exact v_0_2
  have v_0_4 : D4 9 0 = a := by rw [e4, dSw_ne (by omega) (by rw [v_0_3]; exact fun y => n_a_q3.mp y)]; exact v_0_3
  have v_0_5 : D5 9 0 = a := by rw [e5, dSw_ne (by omega) (by rw [v_0_4]; exact fun y => n_a_q4.mp y)]; exact v_0_4
  have v_0_6 : D6 9 0 = a := by rw [e6, dSw_ne (by omega) (by rw [v_0_5]; exact fun y => n_a_r.mp y)]; exact v_0_5
  have v_0_7 : D7 9 0 = a := by rw [e7, dSw_ne (by omega) (by rw [v_0_6]; exact fun y => n_a_st.mp y)]; exact v_0_6
  have v_0_8 : D8 9 0 = a := by rw [e8, dSw_ne (by omega) (by rw [v_0_7]; exact fun y => n_a_pg.mp y)]; exact v_0_7
  have v_0_9 : D9 9 0 = a := by rw [e9, dSw_ne (by omega) (by rw [v_0_8]; exact fun y => n_a_nt.mp y)]; exact v_0_8
  have v_1_1 : D1 6 0 = q0 := by rw [e1]; exact dSw_at
  have v_1_2 : D2 6 0 = q0 := by rw [e2, dSw_ne (by omega) (by rw [v_1_1]; exact fun y => n_q0_q1.mp y)]; exact v_1_1
  have v_1_3 : D3 6 0 = q0 := by rw [e3, dSw_ne (by omega) (by rw [v_1_2]; exact fun y => n_q0_q2.mp y)]; exact v_1_2
  have v_1_4 : D4 6 0 = q0 := by rw [e4, dSw_ne (by omega) (by rw [v_1_3]; exact fun y => n_q0_q3.mp y)]; exact v_1_3
  have v_1_5 : D5 6 0 = q0 := by rw [e5, dSw_ne (by omega) (by rw [v_1_4]; exact fun y => n_q0_q4.mp y)]; exact v_1_4
  have v_1_6 : D6 6 0 = q0 := by rw [e6, dSw_ne (by omega) (by rw [v_1_5]; exact fun y => n_q0_r.mp y)]; exact v_1_5
  have v_1_7 : D7 6 0 = q0 := by rw [e7, dSw_ne (by omega) (by rw [v_1_6]; exact fun y => n_q0_st.mp y)]; exact v_1_6
  have v_1_8 : D8 6 0 = q0 := by rw [e8, dSw_ne (by omega) (by rw [v_1_7]; exact fun y => n_q0_pg.mp y)]; exact v_1_7
  have v_1_9 : D9 6 0 = q0 := by rw [e9, dSw_ne (by omega) (by rw [v_1_8]; exact fun y => n_q0_nt.mp y)]; exact v_1_8
  have v_2_2 : D2 6 1 = q1 := by rw [e2]; exact dSw_at
  have v_2_3 : D3 6 1 = q1 := by rw [e3, dSw_ne (by omega) (by rw [v_2_2]; exact fun y => n_q1_q2.mp y)]; exact v_2_2
  have v_2_4 : D4 6 1 = q1 := by rw [e4, dSw_ne (by omega) (by rw [v_2_3]; exact fun y => n_q1_q3.mp y)]; exact v_2_3
  have v_2_5 : D5 6 1 = q1 := by rw [e5, dSw_ne (by omega) (by rw [v_2_4]; exact fun y => n_q1_q4.mp y)]; exact v_2_4
  have v_2_6 : D6 6 1 = q1 := by rw [e6, dSw_ne (by omega) (by rw [v_2_5]; exact fun y => n_q1_r.mp y)]; exact v_2_5
  have v_2_7 : D7 6 1 = q1 := by rw [e7, dSw_ne (by omega) (by rw [v_2_6]; exact fun y => n_q1_st.mp y)]; exact v_2_6
  have v_2_8 : D8 6 1 = q1 := by rw [e8, dSw_ne (by omega) (by rw [v_2_7]; exact fun y => n_q1_pg.mp y)]; exact v_2_7
  have v_2_9 : D9 6 1 = q1 := by rw [e9, dSw_ne (by omega) (by rw [v_2_8]; exact fun y => n_q1_nt.mp y)]; exact v_2_8
  have v_3_3 : D3 6 2 = q2 := by rw [e3]; exact dSw_at
  have v_3_4 : D4 6 2 = q2 := by rw [e4, dSw_ne (by omega) (by rw [v_3_3]; exact fun y => n_q2_q3.mp y)]; exact v_3_3
  have v_3_5 : D5 6 2 = q2 := by rw [e5, dSw_ne (by omega) (by rw [v_3_4]; exact fun y => n_q2_q4.mp y)]; exact v_3_4
  have v_3_6 : D6 6 2 = q2 := by rw [e6, dSw_ne (by omega) (by rw [v_3_5]; exact fun y => n_q2_r.mp y)]; exact v_3_5
  have v_3_7 : D7 6 2 = q2 := by rw [e7, dSw_ne (by omega) (by rw [v_3_6]; exact fun y => n_q2_st.mp y)]; exact v_3_6
  have v_3_8 : D8 6 2 = q2 := by rw [e8, dSw_ne (by omega) (by rw [v_3_7]; exact fun y => n_q2_pg.mp y)]; exact v_3_7
  have v_3_9 : D9 6 2 = q2 := by rw [e9, dSw_ne (by omega) (by rw [v_3_8]; exact fun y => n_q2_nt.mp y)]; exact v_3_8
  have v_4_4 : D4 6 3 = q3 := by rw [e4]; exact dSw_at
  have v_4_5 : D5 6 3 = q3 := by rw [e5, dSw_ne (by omega) (by rw [v_4_4]; exact fun y => n_q3_q4.mp y)]; exact v_4_4
  have v_4_6 : D6 6 3 = q3 := by rw [e6, dSw_ne (by omega) (by rw [v_4_5]; exact fun y => n_q3_r.mp y)]; exact v_4_5
  have v_4_7 : D7 6 3 = q3 := by rw [e7, dSw_ne (by omega) (by rw [v_4_6]; exact fun y => n_q3_st.mp y)]; exact v_4_6
  have v_4_8 : D8 6 3 = q3 := by rw [e8, dSw_ne (by omega) (by rw [v_4_7]; exact fun y => n_q3_pg.mp y)]; exact v_4_7
  have v_4_9 : D9 6 3 = q3 := by rw [e9, dSw_ne (by omega) (by rw [v_4_8]; exact fun y => n_q3_nt.mp y)]; exact v_4_8
  have v_5_5 : D5 6 4 = q4 := by rw [e5]; exact dSw_at
  have v_5_6 : D6 6 4 = q4 := by rw [e6, dSw_ne (by omega) (by rw [v_5_5]; exact fun y => n_q4_r.mp y)]; exact v_5_5
  have v_5_7 : D7 6 4 = q4 := by rw [e7, dSw_ne (by omega) (by rw [v_5_6]; exact fun y => n_q4_st.mp y)]; exact v_5_6
  have v_5_8 : D8 6 4 = q4 := by rw [e8, dSw_ne (by omega) (by rw [v_5_7]; exact fun y => n_q4_pg.mp y)]; exact v_5_7
  have v_5_9 : D9 6 4 = q4 := by rw [e9, dSw_ne (by omega) (by rw [v_5_8]; exact fun y => n_q4_nt.mp y)]; exact v_5_8
  have v_6_6 : D6 9 1 = r := by rw [e6]; exact dSw_at
  have v_6_7 : D7 9 1 = r := by rw [e7, dSw_ne (by omega) (by rw [v_6_6]; exact fun y => n_r_st.mp y)]; exact v_6_6
  have v_6_8 : D8 9 1 = r := by rw [e8, dSw_ne (by omega) (by rw [v_6_7]; exact fun y => n_r_pg.mp y)]; exact v_6_7
  have v_6_9 : D9 9 1 = r := by rw [e9, dSw_ne (by omega) (by rw [v_6_8]; exact fun y => n_r_nt.mp y)]; exact v_6_8
  have v_7_7 : D7 9 2 = st := by rw [e7]; exact dSw_at
  have v_7_8 : D8 9 2 = st := by rw [e8, dSw_ne (by omega) (by rw [v_7_7]; exact fun y => n_st_pg.mp y)]; exact v_7_7
  have v_7_9 : D9 9 2 = st := by rw [e9, dSw_ne (by omega) (by rw [v_7_8]; exact fun y => n_st_nt.mp y)]; exact v_7_8
  have v_8_8 : D8 11 0 = pg := by rw [e8]; exact dSw_at
  have v_8_9 : D9 11 0 = pg := by rw [e9, dSw_ne (by omega) (by rw [v_8_8]; exact fun y => n_pg_nt.mp y)]; exact v_8_8
  have v_9_9 : D9 12 0 = nt := by rw [e9]; exact dSw_at
  unfold jq cPg
  generalize hS9 : (cSetR (cSetR (cSetR (cSetR (cNewI (cNewO (cNewO _ st 7) pg 4) nt 0 64) pg 400 (some nt)) st 700 (some pg)) st 701 (some pg)) a 806 (some st)) = S9
  have k_a : cK S9 a = 9 := by
    rw [← hS9]
    simp only [cK_setI, cK_setR, cK_newO, cK_newI, cFi_setI, cFi_setR, cFi_newO, cFi_newI, cFr_setI, cFr_setR, cFr_newO, cFr_newI, cLen_setI, cLen_setR, cLen_newO, cLen_newI, cRi_setI, cRi_setR, cRi_newO, cRi_newI, n_a_q0, n_a_q1, n_a_q2, n_a_q3, n_a_q4, n_a_r, n_a_st, n_a_pg, n_a_nt, n_q0_a, n_q0_q1, n_q0_q2, n_q0_q3, n_q0_q4, n_q0_r, n_q0_st, n_q0_pg, n_q0_nt, n_q1_a, n_q1_q0, n_q1_q2, n_q1_q3, n_q1_q4, n_q1_r, n_q1_st, n_q1_pg, n_q1_nt, n_q2_a, n_q2_q0, n_q2_q1, n_q2_q3, n_q2_q4, n_q2_r, n_q2_st, n_q2_pg, n_q2_nt, n_q3_a, n_q3_q0, n_q3_q1, n_q3_q2, n_q3_q4, n_q3_r, n_q3_st, n_q3_pg, n_q3_nt, n_q4_a, n_q4_q0, n_q4_q1, n_q4_q2, n_q4_q3, n_q4_r, n_q4_st, n_q4_pg, n_q4_nt, n_r_a, n_r_q0, n_r_q1, n_r_q2, n_r_q3, n_r_q4, n_r_st, n_r_pg, n_r_nt, n_st_a, n_st_q0, n_st_q1, n_st_q2, n_st_q3, n_st_q4, n_st_r, n_st_pg, n_st_nt, n_pg_a, n_pg_q0, n_pg_q1, n_pg_q2, n_pg_q3, n_pg_q4, n_pg_r, n_pg_st, n_pg_nt, n_nt_a, n_nt_q0, n_nt_q1, n_nt_q2, n_nt_q3, n_nt_q4, n_nt_r, n_nt_st, n_nt_pg, Nat.reduceEqDiff, Nat.reduceAdd, and_false, false_and, and_self, and_true, true_and, if_true, if_false, h0]
  have k_q0 : cK S9 q0 = 1 := by
    rw [← hS9]
    simp only [cK_setI, cK_setR, cK_newO, cK_newI, cFi_setI, cFi_setR, cFi_newO, cFi_newI, cFr_setI, cFr_setR, cFr_newO, cFr_newI, cLen_setI, cLen_setR, cLen_newO, cLen_newI, cRi_setI, cRi_setR, cRi_newO, cRi_newI, n_a_q0, n_a_q1, n_a_q2, n_a_q3, n_a_q4, n_a_r, n_a_st, n_a_pg, n_a_nt, n_q0_a, n_q0_q1, n_q0_q2, n_q0_q3, n_q0_q4, n_q0_r, n_q0_st, n_q0_pg, n_q0_nt, n_q1_a, n_q1_q0, n_q1_q2, n_q1_q3, n_q1_q4, n_q1_r, n_q1_st, n_q1_pg, n_q1_nt, n_q2_a, n_q2_q0, n_q2_q1, n_q2_q3, n_q2_q4, n_q2_r, n_q2_st, n_q2_pg, n_q2_nt, n_q3_a, n_q3_q0, n_q3_q1, n_q3_q2, n_q3_q4, n_q3_r, n_q3_st, n_q3_pg, n_q3_nt, n_q4_a, n_q4_q0, n_q4_q1, n_q4_q2, n_q4_q3, n_q4_r, n_q4_st, n_q4_pg, n_q4_nt, n_r_a, n_r_q0, n_r_q1, n_r_q2, n_r_q3, n_r_q4, n_r_st, n_r_pg, n_r_nt, n_st_a, n_st_q0, n_st_q1, n_st_q2, n_st_q3, n_st_q4, n_st_r, n_st_pg, n_st_nt, n_pg_a, n_pg_q0, n_pg_q1, n_pg_q2, n_pg_q3, n_pg_q4, n_pg_r, n_pg_st, n_pg_nt, n_nt_a, n_nt_q0, n_nt_q1, n_nt_q2, n_nt_q3, n_nt_q4, n_nt_r, n_nt_st, n_nt_pg, Nat.reduceEqDiff, Nat.reduceAdd, and_false, false_and, and_self, and_true, true_and, if_true, if_false, h0]
  have k_q1 : cK S9 q1 = 1 := by
    rw [← hS9]
    simp only [cK_setI, cK_setR, cK_newO, cK_newI, cFi_setI, cFi_setR, cFi_newO, cFi_newI, cFr_setI, cFr_setR, cFr_newO, cFr_newI, cLen_setI, cLen_setR, cLen_newO, cLen_newI, cRi_setI, cRi_setR, cRi_newO, cRi_newI, n_a_q0, n_a_q1, n_a_q2, n_a_q3, n_a_q4, n_a_r, n_a_st, n_a_pg, n_a_nt, n_q0_a, n_q0_q1, n_q0_q2, n_q0_q3, n_q0_q4, n_q0_r, n_q0_st, n_q0_pg, n_q0_nt, n_q1_a, n_q1_q0, n_q1_q2, n_q1_q3, n_q1_q4, n_q1_r, n_q1_st, n_q1_pg, n_q1_nt, n_q2_a, n_q2_q0, n_q2_q1, n_q2_q3, n_q2_q4, n_q2_r, n_q2_st, n_q2_pg, n_q2_nt, n_q3_a, n_q3_q0, n_q3_q1, n_q3_q2, n_q3_q4, n_q3_r, n_q3_st, n_q3_pg, n_q3_nt, n_q4_a, n_q4_q0, n_q4_q1, n_q4_q2, n_q4_q3, n_q4_r, n_q4_st, n_q4_pg, n_q4_nt, n_r_a, n_r_q0, n_r_q1, n_r_q2, n_r_q3, n_r_q4, n_r_st, n_r_pg, n_r_nt, n_st_a, n_st_q0, n_st_q1, n_st_q2, n_st_q3, n_st_q4, n_st_r, n_st_pg, n_st_nt, n_pg_a, n_pg_q0, n_pg_q1, n_pg_q2, n_pg_q3, n_pg_q4, n_pg_r, n_pg_st, n_pg_nt, n_nt_a, n_nt_q0, n_nt_q1, n_nt_q2, n_nt_q3, n_nt_q4, n_nt_r, n_nt_st, n_nt_pg, Nat.reduceEqDiff, Nat.reduceAdd, and_false, false_and, and_self, and_true, true_and, if_true, if_false, h0]
  have k_q2 : cK S9 q2 = 1 := by
    rw [← hS9]
    simp only [cK_setI, cK_setR, cK_newO, cK_newI, cFi_setI, cFi_setR, cFi_newO, cFi_newI, cFr_setI, cFr_setR, cFr_newO, cFr_newI, cLen_setI, cLen_setR, cLen_newO, cLen_newI, cRi_setI, cRi_setR, cRi_newO, cRi_newI, n_a_q0, n_a_q1, n_a_q2, n_a_q3, n_a_q4, n_a_r, n_a_st, n_a_pg, n_a_nt, n_q0_a, n_q0_q1, n_q0_q2, n_q0_q3, n_q0_q4, n_q0_r, n_q0_st, n_q0_pg, n_q0_nt, n_q1_a, n_q1_q0, n_q1_q2, n_q1_q3, n_q1_q4, n_q1_r, n_q1_st, n_q1_pg, n_q1_nt, n_q2_a, n_q2_q0, n_q2_q1, n_q2_q3, n_q2_q4, n_q2_r, n_q2_st, n_q2_pg, n_q2_nt, n_q3_a, n_q3_q0, n_q3_q1, n_q3_q2, n_q3_q4, n_q3_r, n_q3_st, n_q3_pg, n_q3_nt, n_q4_a, n_q4_q0, n_q4_q1, n_q4_q2, n_q4_q3, n_q4_r, n_q4_st, n_q4_pg, n_q4_nt, n_r_a, n_r_q0, n_r_q1, n_r_q2, n_r_q3, n_r_q4, n_r_st, n_r_pg, n_r_nt, n_st_a, n_st_q0, n_st_q1, n_st_q2, n_st_q3, n_st_q4, n_st_r, n_st_pg, n_st_nt, n_pg_a, n_pg_q0, n_pg_q1, n_pg_q2, n_pg_q3, n_pg_q4, n_pg_r, n_pg_st, n_pg_nt, n_nt_a, n_nt_q0, n_nt_q1, n_nt_q2, n_nt_q3, n_nt_q4, n_nt_r, n_nt_st, n_nt_pg, Nat.reduceEqDiff, Nat.reduceAdd, and_false, false_and, and_self, and_true, true_and, if_true, if_false, h0]
  have k_q3 : cK S9 q3 = 1 := by
    rw [← hS9]
    simp only [cK_setI, cK_setR, cK_newO, cK_newI, cFi_setI, cFi_setR, cFi_newO, cFi_newI, cFr_setI, cFr_setR, cFr_newO, cFr_newI, cLen_setI, cLen_setR, cLen_newO, cLen_newI, cRi_setI, cRi_setR, cRi_newO, cRi_newI, n_a_q0, n_a_q1, n_a_q2, n_a_q3, n_a_q4, n_a_r, n_a_st, n_a_pg, n_a_nt, n_q0_a, n_q0_q1, n_q0_q2, n_q0_q3, n_q0_q4, n_q0_r, n_q0_st, n_q0_pg, n_q0_nt, n_q1_a, n_q1_q0, n_q1_q2, n_q1_q3, n_q1_q4, n_q1_r, n_q1_st, n_q1_pg, n_q1_nt, n_q2_a, n_q2_q0, n_q2_q1, n_q2_q3, n_q2_q4, n_q2_r, n_q2_st, n_q2_pg, n_q2_nt, n_q3_a, n_q3_q0, n_q3_q1, n_q3_q2, n_q3_q4, n_q3_r, n_q3_st, n_q3_pg, n_q3_nt, n_q4_a, n_q4_q0, n_q4_q1, n_q4_q2, n_q4_q3, n_q4_r, n_q4_st, n_q4_pg, n_q4_nt, n_r_a, n_r_q0, n_r_q1, n_r_q2, n_r_q3, n_r_q4, n_r_st, n_r_pg, n_r_nt, n_st_a, n_st_q0, n_st_q1, n_st_q2, n_st_q3, n_st_q4, n_st_r, n_st_pg, n_st_nt, n_pg_a, n_pg_q0, n_pg_q1, n_pg_q2, n_pg_q3, n_pg_q4, n_pg_r, n_pg_st, n_pg_nt, n_nt_a, n_nt_q0, n_nt_q1, n_nt_q2, n_nt_q3, n_nt_q4, n_nt_r, n_nt_st, n_nt_pg, Nat.reduceEqDiff, Nat.reduceAdd, and_false, false_and, and_self, and_true, true_and, if_true, if_false, h0]
  have k_q4 : cK S9 q4 = 1 := by
    rw [← hS9]
    simp only [cK_setI, cK_setR, cK_newO, cK_newI, cFi_setI, cFi_setR, cFi_newO, cFi_newI, cFr_setI, cFr_setR, cFr_newO, cFr_newI, cLen_setI, cLen_setR, cLen_newO, cLen_newI, cRi_setI, cRi_setR, cRi_newO, cRi_newI, n_a_q0, n_a_q1, n_a_q2, n_a_q3, n_a_q4, n_a_r, n_a_st, n_a_pg, n_a_nt, n_q0_a, n_q0_q1, n_q0_q2, n_q0_q3, n_q0_q4, n_q0_r, n_q0_st, n_q0_pg, n_q0_nt, n_q1_a, n_q1_q0, n_q1_q2, n_q1_q3, n_q1_q4, n_q1_r, n_q1_st, n_q1_pg, n_q1_nt, n_q2_a, n_q2_q0, n_q2_q1, n_q2_q3, n_q2_q4, n_q2_r, n_q2_st, n_q2_pg, n_q2_nt, n_q3_a, n_q3_q0, n_q3_q1, n_q3_q2, n_q3_q4, n_q3_r, n_q3_st, n_q3_pg, n_q3_nt, n_q4_a, n_q4_q0, n_q4_q1, n_q4_q2, n_q4_q3, n_q4_r, n_q4_st, n_q4_pg, n_q4_nt, n_r_a, n_r_q0, n_r_q1, n_r_q2, n_r_q3, n_r_q4, n_r_st, n_r_pg, n_r_nt, n_st_a, n_st_q0, n_st_q1, n_st_q2, n_st_q3, n_st_q4, n_st_r, n_st_pg, n_st_nt, n_pg_a, n_pg_q0, n_pg_q1, n_pg_q2, n_pg_q3, n_pg_q4, n_pg_r, n_pg_st, n_pg_nt, n_nt_a, n_nt_q0, n_nt_q1, n_nt_q2, n_nt_q3, n_nt_q4, n_nt_r, n_nt_st, n_nt_pg, Nat.reduceEqDiff, Nat.reduceAdd, and_false, false_and, and_self, and_true, true_and, if_true, if_false, h0]
  have k_r : cK S9 r = 11 := by
    rw [← hS9]
    simp only [cK_setI, cK_setR, cK_newO, cK_newI, cFi_setI, cFi_setR, cFi_newO, cFi_newI, cFr_setI, cFr_setR, cFr_newO, cFr_newI, cLen_setI, cLen_setR, cLen_newO, cLen_newI, cRi_setI, cRi_setR, cRi_newO, cRi_newI, n_a_q0, n_a_q1, n_a_q2, n_a_q3, n_a_q4, n_a_r, n_a_st, n_a_pg, n_a_nt, n_q0_a, n_q0_q1, n_q0_q2, n_q0_q3, n_q0_q4, n_q0_r, n_q0_st, n_q0_pg, n_q0_nt, n_q1_a, n_q1_q0, n_q1_q2, n_q1_q3, n_q1_q4, n_q1_r, n_q1_st, n_q1_pg, n_q1_nt, n_q2_a, n_q2_q0, n_q2_q1, n_q2_q3, n_q2_q4, n_q2_r, n_q2_st, n_q2_pg, n_q2_nt, n_q3_a, n_q3_q0, n_q3_q1, n_q3_q2, n_q3_q4, n_q3_r, n_q3_st, n_q3_pg, n_q3_nt, n_q4_a, n_q4_q0, n_q4_q1, n_q4_q2, n_q4_q3, n_q4_r, n_q4_st, n_q4_pg, n_q4_nt, n_r_a, n_r_q0, n_r_q1, n_r_q2, n_r_q3, n_r_q4, n_r_st, n_r_pg, n_r_nt, n_st_a, n_st_q0, n_st_q1, n_st_q2, n_st_q3, n_st_q4, n_st_r, n_st_pg, n_st_nt, n_pg_a, n_pg_q0, n_pg_q1, n_pg_q2, n_pg_q3, n_pg_q4, n_pg_r, n_pg_st, n_pg_nt, n_nt_a, n_nt_q0, n_nt_q1, n_nt_q2, n_nt_q3, n_nt_q4, n_nt_r, n_nt_st, n_nt_pg, Nat.reduceEqDiff, Nat.reduceAdd, and_false, false_and, and_self, and_true, true_and, if_true, if_false, h0]
  have k_st : cK S9 st = 8 := by
    rw [← hS9]
    simp only [cK_setI, cK_setR, cK_newO, cK_newI, cFi_setI, cFi_setR, cFi_newO, cFi_newI, cFr_setI, cFr_setR, cFr_newO, cFr_newI, cLen_setI, cLen_setR, cLen_newO, cLen_newI, cRi_setI, cRi_setR, cRi_newO, cRi_newI, n_a_q0, n_a_q1, n_a_q2, n_a_q3, n_a_q4, n_a_r, n_a_st, n_a_pg, n_a_nt, n_q0_a, n_q0_q1, n_q0_q2, n_q0_q3, n_q0_q4, n_q0_r, n_q0_st, n_q0_pg, n_q0_nt, n_q1_a, n_q1_q0, n_q1_q2, n_q1_q3, n_q1_q4, n_q1_r, n_q1_st, n_q1_pg, n_q1_nt, n_q2_a, n_q2_q0, n_q2_q1, n_q2_q3, n_q2_q4, n_q2_r, n_q2_st, n_q2_pg, n_q2_nt, n_q3_a, n_q3_q0, n_q3_q1, n_q3_q2, n_q3_q4, n_q3_r, n_q3_st, n_q3_pg, n_q3_nt, n_q4_a, n_q4_q0, n_q4_q1, n_q4_q2, n_q4_q3, n_q4_r, n_q4_st, n_q4_pg, n_q4_nt, n_r_a, n_r_q0, n_r_q1, n_r_q2, n_r_q3, n_r_q4, n_r_st, n_r_pg, n_r_nt, n_st_a, n_st_q0, n_st_q1, n_st_q2, n_st_q3, n_st_q4, n_st_r, n_st_pg, n_st_nt, n_pg_a, n_pg_q0, n_pg_q1, n_pg_q2, n_pg_q3, n_pg_q4, n_pg_r, n_pg_st, n_pg_nt, n_nt_a, n_nt_q0, n_nt_q1, n_nt_q2, n_nt_q3, n_nt_q4, n_nt_r, n_nt_st, n_nt_pg, Nat.reduceEqDiff, Nat.reduceAdd, and_false, false_and, and_self, and_true, true_and, if_true, if_false, h0]
  have k_pg : cK S9 pg = 5 := by
    rw [← hS9]
    simp only [cK_setI, cK_setR, cK_newO, cK_newI, cFi_setI, cFi_setR, cFi_newO, cFi_newI, cFr_setI, cFr_setR, cFr_newO, cFr_newI, cLen_setI, cLen_setR, cLen_newO, cLen_newI, cRi_setI, cRi_setR, cRi_newO, cRi_newI, n_a_q0, n_a_q1, n_a_q2, n_a_q3, n_a_q4, n_a_r, n_a_st, n_a_pg, n_a_nt, n_q0_a, n_q0_q1, n_q0_q2, n_q0_q3, n_q0_q4, n_q0_r, n_q0_st, n_q0_pg, n_q0_nt, n_q1_a, n_q1_q0, n_q1_q2, n_q1_q3, n_q1_q4, n_q1_r, n_q1_st, n_q1_pg, n_q1_nt, n_q2_a, n_q2_q0, n_q2_q1, n_q2_q3, n_q2_q4, n_q2_r, n_q2_st, n_q2_pg, n_q2_nt, n_q3_a, n_q3_q0, n_q3_q1, n_q3_q2, n_q3_q4, n_q3_r, n_q3_st, n_q3_pg, n_q3_nt, n_q4_a, n_q4_q0, n_q4_q1, n_q4_q2, n_q4_q3, n_q4_r, n_q4_st, n_q4_pg, n_q4_nt, n_r_a, n_r_q0, n_r_q1, n_r_q2, n_r_q3, n_r_q4, n_r_st, n_r_pg, n_r_nt, n_st_a, n_st_q0, n_st_q1, n_st_q2, n_st_q3, n_st_q4, n_st_r, n_st_pg, n_st_nt, n_pg_a, n_pg_q0, n_pg_q1, n_pg_q2, n_pg_q3, n_pg_q4, n_pg_r, n_pg_st, n_pg_nt, n_nt_a, n_nt_q0, n_nt_q1, n_nt_q2, n_nt_q3, n_nt_q4, n_nt_r, n_nt_st, n_nt_pg, Nat.reduceEqDiff, Nat.reduceAdd, and_false, false_and, and_self, and_true, true_and, if_true, if_false, h0]
  have k_nt : cK S9 nt = 11 := by
    rw [← hS9]
    simp only [cK_setI, cK_setR, cK_newO, cK_newI, cFi_setI, cFi_setR, cFi_newO, cFi_newI, cFr_setI, cFr_setR, cFr_newO, cFr_newI, cLen_setI, cLen_setR, cLen_newO, cLen_newI, cRi_setI, cRi_setR, cRi_newO, cRi_newI, n_a_q0, n_a_q1, n_a_q2, n_a_q3, n_a_q4, n_a_r, n_a_st, n_a_pg, n_a_nt, n_q0_a, n_q0_q1, n_q0_q2, n_q0_q3, n_q0_q4, n_q0_r, n_q0_st, n_q0_pg, n_q0_nt, n_q1_a, n_q1_q0, n_q1_q2, n_q1_q3, n_q1_q4, n_q1_r, n_q1_st, n_q1_pg, n_q1_nt, n_q2_a, n_q2_q0, n_q2_q1, n_q2_q3, n_q2_q4, n_q2_r, n_q2_st, n_q2_pg, n_q2_nt, n_q3_a, n_q3_q0, n_q3_q1, n_q3_q2, n_q3_q4, n_q3_r, n_q3_st, n_q3_pg, n_q3_nt, n_q4_a, n_q4_q0, n_q4_q1, n_q4_q2, n_q4_q3, n_q4_r, n_q4_st, n_q4_pg, n_q4_nt, n_r_a, n_r_q0, n_r_q1, n_r_q2, n_r_q3, n_r_q4, n_r_st, n_r_pg, n_r_nt, n_st_a, n_st_q0, n_st_q1, n_st_q2, n_st_q3, n_st_q4, n_st_r, n_st_pg, n_st_nt, n_pg_a, n_pg_q0, n_pg_q1, n_pg_q2, n_pg_q3, n_pg_q4, n_pg_r, n_pg_st, n_pg_nt, n_nt_a, n_nt_q0, n_nt_q1, n_nt_q2, n_nt_q3, n_nt_q4, n_nt_r, n_nt_st, n_nt_pg, Nat.reduceEqDiff, Nat.reduceAdd, and_false, false_and, and_self, and_true, true_and, if_true, if_false, h0]
  have f_0 : cFr S9 a 800 = some q0 := by
    rw [← hS9]
    simp only [cK_setI, cK_setR, cK_newO, cK_newI, cFi_setI, cFi_setR, cFi_newO, cFi_newI, cFr_setI, cFr_setR, cFr_newO, cFr_newI, cLen_setI, cLen_setR, cLen_newO, cLen_newI, cRi_setI, cRi_setR, cRi_newO, cRi_newI, n_a_q0, n_a_q1, n_a_q2, n_a_q3, n_a_q4, n_a_r, n_a_st, n_a_pg, n_a_nt, n_q0_a, n_q0_q1, n_q0_q2, n_q0_q3, n_q0_q4, n_q0_r, n_q0_st, n_q0_pg, n_q0_nt, n_q1_a, n_q1_q0, n_q1_q2, n_q1_q3, n_q1_q4, n_q1_r, n_q1_st, n_q1_pg, n_q1_nt, n_q2_a, n_q2_q0, n_q2_q1, n_q2_q3, n_q2_q4, n_q2_r, n_q2_st, n_q2_pg, n_q2_nt, n_q3_a, n_q3_q0, n_q3_q1, n_q3_q2, n_q3_q4, n_q3_r, n_q3_st, n_q3_pg, n_q3_nt, n_q4_a, n_q4_q0, n_q4_q1, n_q4_q2, n_q4_q3, n_q4_r, n_q4_st, n_q4_pg, n_q4_nt, n_r_a, n_r_q0, n_r_q1, n_r_q2, n_r_q3, n_r_q4, n_r_st, n_r_pg, n_r_nt, n_st_a, n_st_q0, n_st_q1, n_st_q2, n_st_q3, n_st_q4, n_st_r, n_st_pg, n_st_nt, n_pg_a, n_pg_q0, n_pg_q1, n_pg_q2, n_pg_q3, n_pg_q4, n_pg_r, n_pg_st, n_pg_nt, n_nt_a, n_nt_q0, n_nt_q1, n_nt_q2, n_nt_q3, n_nt_q4, n_nt_r, n_nt_st, n_nt_pg, Nat.reduceEqDiff, Nat.reduceAdd, and_false, false_and, and_self, and_true, true_and, if_true, if_false, h0]
  have f_1 : cFr S9 a 801 = some q1 := by
    rw [← hS9]
    simp only [cK_setI, cK_setR, cK_newO, cK_newI, cFi_setI, cFi_setR, cFi_newO, cFi_newI, cFr_setI, cFr_setR, cFr_newO, cFr_newI, cLen_setI, cLen_setR, cLen_newO, cLen_newI, cRi_setI, cRi_setR, cRi_newO, cRi_newI, n_a_q0, n_a_q1, n_a_q2, n_a_q3, n_a_q4, n_a_r, n_a_st, n_a_pg, n_a_nt, n_q0_a, n_q0_q1, n_q0_q2, n_q0_q3, n_q0_q4, n_q0_r, n_q0_st, n_q0_pg, n_q0_nt, n_q1_a, n_q1_q0, n_q1_q2, n_q1_q3, n_q1_q4, n_q1_r, n_q1_st, n_q1_pg, n_q1_nt, n_q2_a, n_q2_q0, n_q2_q1, n_q2_q3, n_q2_q4, n_q2_r, n_q2_st, n_q2_pg, n_q2_nt, n_q3_a, n_q3_q0, n_q3_q1, n_q3_q2, n_q3_q4, n_q3_r, n_q3_st, n_q3_pg, n_q3_nt, n_q4_a, n_q4_q0, n_q4_q1, n_q4_q2, n_q4_q3, n_q4_r, n_q4_st, n_q4_pg, n_q4_nt, n_r_a, n_r_q0, n_r_q1, n_r_q2, n_r_q3, n_r_q4, n_r_st, n_r_pg, n_r_nt, n_st_a, n_st_q0, n_st_q1, n_st_q2, n_st_q3, n_st_q4, n_st_r, n_st_pg, n_st_nt, n_pg_a, n_pg_q0, n_pg_q1, n_pg_q2, n_pg_q3, n_pg_q4, n_pg_r, n_pg_st, n_pg_nt, n_nt_a, n_nt_q0, n_nt_q1, n_nt_q2, n_nt_q3, n_nt_q4, n_nt_r, n_nt_st, n_nt_pg, Nat.reduceEqDiff, Nat.reduceAdd, and_false, false_and, and_self, and_true, true_and, if_true, if_false, h0]
  have f_2 : cFr S9 a 802 = some q2 := by
    rw [← hS9]
    simp only [cK_setI, cK_setR, cK_newO, cK_newI, cFi_setI, cFi_setR, cFi_newO, cFi_newI, cFr_setI, cFr_setR, cFr_newO, cFr_newI, cLen_setI, cLen_setR, cLen_newO, cLen_newI, cRi_setI, cRi_setR, cRi_newO, cRi_newI, n_a_q0, n_a_q1, n_a_q2, n_a_q3, n_a_q4, n_a_r, n_a_st, n_a_pg, n_a_nt, n_q0_a, n_q0_q1, n_q0_q2, n_q0_q3, n_q0_q4, n_q0_r, n_q0_st, n_q0_pg, n_q0_nt, n_q1_a, n_q1_q0, n_q1_q2, n_q1_q3, n_q1_q4, n_q1_r, n_q1_st, n_q1_pg, n_q1_nt, n_q2_a, n_q2_q0, n_q2_q1, n_q2_q3, n_q2_q4, n_q2_r, n_q2_st, n_q2_pg, n_q2_nt, n_q3_a, n_q3_q0, n_q3_q1, n_q3_q2, n_q3_q4, n_q3_r, n_q3_st, n_q3_pg, n_q3_nt, n_q4_a, n_q4_q0, n_q4_q1, n_q4_q2, n_q4_q3, n_q4_r, n_q4_st, n_q4_pg, n_q4_nt, n_r_a, n_r_q0, n_r_q1, n_r_q2, n_r_q3, n_r_q4, n_r_st, n_r_pg, n_r_nt, n_st_a, n_st_q0, n_st_q1, n_st_q2, n_st_q3, n_st_q4, n_st_r, n_st_pg, n_st_nt, n_pg_a, n_pg_q0, n_pg_q1, n_pg_q2, n_pg_q3, n_pg_q4, n_pg_r, n_pg_st, n_pg_nt, n_nt_a, n_nt_q0, n_nt_q1, n_nt_q2, n_nt_q3, n_nt_q4, n_nt_r, n_nt_st, n_nt_pg, Nat.reduceEqDiff, Nat.reduceAdd, and_false, false_and, and_self, and_true, true_and, if_true, if_false, h0]
  have f_3 : cFr S9 a 803 = some q3 := by
    rw [← hS9]
    simp only [cK_setI, cK_setR, cK_newO, cK_newI, cFi_setI, cFi_setR, cFi_newO, cFi_newI, cFr_setI, cFr_setR, cFr_newO, cFr_newI, cLen_setI, cLen_setR, cLen_newO, cLen_newI, cRi_setI, cRi_setR, cRi_newO, cRi_newI, n_a_q0, n_a_q1, n_a_q2, n_a_q3, n_a_q4, n_a_r, n_a_st, n_a_pg, n_a_nt, n_q0_a, n_q0_q1, n_q0_q2, n_q0_q3, n_q0_q4, n_q0_r, n_q0_st, n_q0_pg, n_q0_nt, n_q1_a, n_q1_q0, n_q1_q2, n_q1_q3, n_q1_q4, n_q1_r, n_q1_st, n_q1_pg, n_q1_nt, n_q2_a, n_q2_q0, n_q2_q1, n_q2_q3, n_q2_q4, n_q2_r, n_q2_st, n_q2_pg, n_q2_nt, n_q3_a, n_q3_q0, n_q3_q1, n_q3_q2, n_q3_q4, n_q3_r, n_q3_st, n_q3_pg, n_q3_nt, n_q4_a, n_q4_q0, n_q4_q1, n_q4_q2, n_q4_q3, n_q4_r, n_q4_st, n_q4_pg, n_q4_nt, n_r_a, n_r_q0, n_r_q1, n_r_q2, n_r_q3, n_r_q4, n_r_st, n_r_pg, n_r_nt, n_st_a, n_st_q0, n_st_q1, n_st_q2, n_st_q3, n_st_q4, n_st_r, n_st_pg, n_st_nt, n_pg_a, n_pg_q0, n_pg_q1, n_pg_q2, n_pg_q3, n_pg_q4, n_pg_r, n_pg_st, n_pg_nt, n_nt_a, n_nt_q0, n_nt_q1, n_nt_q2, n_nt_q3, n_nt_q4, n_nt_r, n_nt_st, n_nt_pg, Nat.reduceEqDiff, Nat.reduceAdd, and_false, false_and, and_self, and_true, true_and, if_true, if_false, h0]
  have f_4 : cFr S9 a 804 = some q4 := by
    rw [← hS9]
    simp only [cK_setI, cK_setR, cK_newO, cK_newI, cFi_setI, cFi_setR, cFi_newO, cFi_newI, cFr_setI, cFr_setR, cFr_newO, cFr_newI, cLen_setI, cLen_setR, cLen_newO, cLen_newI, cRi_setI, cRi_setR, cRi_newO, cRi_newI, n_a_q0, n_a_q1, n_a_q2, n_a_q3, n_a_q4, n_a_r, n_a_st, n_a_pg, n_a_nt, n_q0_a, n_q0_q1, n_q0_q2, n_q0_q3, n_q0_q4, n_q0_r, n_q0_st, n_q0_pg, n_q0_nt, n_q1_a, n_q1_q0, n_q1_q2, n_q1_q3, n_q1_q4, n_q1_r, n_q1_st, n_q1_pg, n_q1_nt, n_q2_a, n_q2_q0, n_q2_q1, n_q2_q3, n_q2_q4, n_q2_r, n_q2_st, n_q2_pg, n_q2_nt, n_q3_a, n_q3_q0, n_q3_q1, n_q3_q2, n_q3_q4, n_q3_r, n_q3_st, n_q3_pg, n_q3_nt, n_q4_a, n_q4_q0, n_q4_q1, n_q4_q2, n_q4_q3, n_q4_r, n_q4_st, n_q4_pg, n_q4_nt, n_r_a, n_r_q0, n_r_q1, n_r_q2, n_r_q3, n_r_q4, n_r_st, n_r_pg, n_r_nt, n_st_a, n_st_q0, n_st_q1, n_st_q2, n_st_q3, n_st_q4, n_st_r, n_st_pg, n_st_nt, n_pg_a, n_pg_q0, n_pg_q1, n_pg_q2, n_pg_q3, n_pg_q4, n_pg_r, n_pg_st, n_pg_nt, n_nt_a, n_nt_q0, n_nt_q1, n_nt_q2, n_nt_q3, n_nt_q4, n_nt_r, n_nt_st, n_nt_pg, Nat.reduceEqDiff, Nat.reduceAdd, and_false, false_and, and_self, and_true, true_and, if_true, if_false, h0]
  have f_5 : cFr S9 a 805 = some r := by
    rw [← hS9]
    simp only [cK_setI, cK_setR, cK_newO, cK_newI, cFi_setI, cFi_setR, cFi_newO, cFi_newI, cFr_setI, cFr_setR, cFr_newO, cFr_newI, cLen_setI, cLen_setR, cLen_newO, cLen_newI, cRi_setI, cRi_setR, cRi_newO, cRi_newI, n_a_q0, n_a_q1, n_a_q2, n_a_q3, n_a_q4, n_a_r, n_a_st, n_a_pg, n_a_nt, n_q0_a, n_q0_q1, n_q0_q2, n_q0_q3, n_q0_q4, n_q0_r, n_q0_st, n_q0_pg, n_q0_nt, n_q1_a, n_q1_q0, n_q1_q2, n_q1_q3, n_q1_q4, n_q1_r, n_q1_st, n_q1_pg, n_q1_nt, n_q2_a, n_q2_q0, n_q2_q1, n_q2_q3, n_q2_q4, n_q2_r, n_q2_st, n_q2_pg, n_q2_nt, n_q3_a, n_q3_q0, n_q3_q1, n_q3_q2, n_q3_q4, n_q3_r, n_q3_st, n_q3_pg, n_q3_nt, n_q4_a, n_q4_q0, n_q4_q1, n_q4_q2, n_q4_q3, n_q4_r, n_q4_st, n_q4_pg, n_q4_nt, n_r_a, n_r_q0, n_r_q1, n_r_q2, n_r_q3, n_r_q4, n_r_st, n_r_pg, n_r_nt, n_st_a, n_st_q0, n_st_q1, n_st_q2, n_st_q3, n_st_q4, n_st_r, n_st_pg, n_st_nt, n_pg_a, n_pg_q0, n_pg_q1, n_pg_q2, n_pg_q3, n_pg_q4, n_pg_r, n_pg_st, n_pg_nt, n_nt_a, n_nt_q0, n_nt_q1, n_nt_q2, n_nt_q3, n_nt_q4, n_nt_r, n_nt_st, n_nt_pg, Nat.reduceEqDiff, Nat.reduceAdd, and_false, false_and, and_self, and_true, true_and, if_true, if_false, h0]
  have f_6 : cFr S9 a 806 = some st := by
    rw [← hS9]
    simp only [cK_setI, cK_setR, cK_newO, cK_newI, cFi_setI, cFi_setR, cFi_newO, cFi_newI, cFr_setI, cFr_setR, cFr_newO, cFr_newI, cLen_setI, cLen_setR, cLen_newO, cLen_newI, cRi_setI, cRi_setR, cRi_newO, cRi_newI, n_a_q0, n_a_q1, n_a_q2, n_a_q3, n_a_q4, n_a_r, n_a_st, n_a_pg, n_a_nt, n_q0_a, n_q0_q1, n_q0_q2, n_q0_q3, n_q0_q4, n_q0_r, n_q0_st, n_q0_pg, n_q0_nt, n_q1_a, n_q1_q0, n_q1_q2, n_q1_q3, n_q1_q4, n_q1_r, n_q1_st, n_q1_pg, n_q1_nt, n_q2_a, n_q2_q0, n_q2_q1, n_q2_q3, n_q2_q4, n_q2_r, n_q2_st, n_q2_pg, n_q2_nt, n_q3_a, n_q3_q0, n_q3_q1, n_q3_q2, n_q3_q4, n_q3_r, n_q3_st, n_q3_pg, n_q3_nt, n_q4_a, n_q4_q0, n_q4_q1, n_q4_q2, n_q4_q3, n_q4_r, n_q4_st, n_q4_pg, n_q4_nt, n_r_a, n_r_q0, n_r_q1, n_r_q2, n_r_q3, n_r_q4, n_r_st, n_r_pg, n_r_nt, n_st_a, n_st_q0, n_st_q1, n_st_q2, n_st_q3, n_st_q4, n_st_r, n_st_pg, n_st_nt, n_pg_a, n_pg_q0, n_pg_q1, n_pg_q2, n_pg_q3, n_pg_q4, n_pg_r, n_pg_st, n_pg_nt, n_nt_a, n_nt_q0, n_nt_q1, n_nt_q2, n_nt_q3, n_nt_q4, n_nt_r, n_nt_st, n_nt_pg, Nat.reduceEqDiff, Nat.reduceAdd, and_false, false_and, and_self, and_true, true_and, if_true, if_false, h0]
  have fz : ∀ g, 2 < g → cFi S9 a g = 0 := fun g hg => by
    rw [← hS9]
    simp only [cK_setI, cK_setR, cK_newO, cK_newI, cFi_setI, cFi_setR, cFi_newO, cFi_newI, cFr_setI, cFr_setR, cFr_newO, cFr_newI, cLen_setI, cLen_setR, cLen_newO, cLen_newI, cRi_setI, cRi_setR, cRi_newO, cRi_newI, n_a_q0, n_a_q1, n_a_q2, n_a_q3, n_a_q4, n_a_r, n_a_st, n_a_pg, n_a_nt, n_q0_a, n_q0_q1, n_q0_q2, n_q0_q3, n_q0_q4, n_q0_r, n_q0_st, n_q0_pg, n_q0_nt, n_q1_a, n_q1_q0, n_q1_q2, n_q1_q3, n_q1_q4, n_q1_r, n_q1_st, n_q1_pg, n_q1_nt, n_q2_a, n_q2_q0, n_q2_q1, n_q2_q3, n_q2_q4, n_q2_r, n_q2_st, n_q2_pg, n_q2_nt, n_q3_a, n_q3_q0, n_q3_q1, n_q3_q2, n_q3_q4, n_q3_r, n_q3_st, n_q3_pg, n_q3_nt, n_q4_a, n_q4_q0, n_q4_q1, n_q4_q2, n_q4_q3, n_q4_r, n_q4_st, n_q4_pg, n_q4_nt, n_r_a, n_r_q0, n_r_q1, n_r_q2, n_r_q3, n_r_q4, n_r_st, n_r_pg, n_r_nt, n_st_a, n_st_q0, n_st_q1, n_st_q2, n_st_q3, n_st_q4, n_st_r, n_st_pg, n_st_nt, n_pg_a, n_pg_q0, n_pg_q1, n_pg_q2, n_pg_q3, n_pg_q4, n_pg_r, n_pg_st, n_pg_nt, n_nt_a, n_nt_q0, n_nt_q1, n_nt_q2, n_nt_q3, n_nt_q4, n_nt_r, n_nt_st, n_nt_pg, Nat.reduceEqDiff, Nat.reduceAdd, and_false, false_and, and_self, and_true, true_and, if_true, if_false]
    exact hz g hg
  have s_0 : cFi S9 q0 2 = 0 ∧ cFr S9 q0 1 = some (wE W9) := by
    rw [← hS9]
    simp only [cK_setI, cK_setR, cK_newO, cK_newI, cFi_setI, cFi_setR, cFi_newO, cFi_newI, cFr_setI, cFr_setR, cFr_newO, cFr_newI, cLen_setI, cLen_setR, cLen_newO, cLen_newI, cRi_setI, cRi_setR, cRi_newO, cRi_newI, n_a_q0, n_a_q1, n_a_q2, n_a_q3, n_a_q4, n_a_r, n_a_st, n_a_pg, n_a_nt, n_q0_a, n_q0_q1, n_q0_q2, n_q0_q3, n_q0_q4, n_q0_r, n_q0_st, n_q0_pg, n_q0_nt, n_q1_a, n_q1_q0, n_q1_q2, n_q1_q3, n_q1_q4, n_q1_r, n_q1_st, n_q1_pg, n_q1_nt, n_q2_a, n_q2_q0, n_q2_q1, n_q2_q3, n_q2_q4, n_q2_r, n_q2_st, n_q2_pg, n_q2_nt, n_q3_a, n_q3_q0, n_q3_q1, n_q3_q2, n_q3_q4, n_q3_r, n_q3_st, n_q3_pg, n_q3_nt, n_q4_a, n_q4_q0, n_q4_q1, n_q4_q2, n_q4_q3, n_q4_r, n_q4_st, n_q4_pg, n_q4_nt, n_r_a, n_r_q0, n_r_q1, n_r_q2, n_r_q3, n_r_q4, n_r_st, n_r_pg, n_r_nt, n_st_a, n_st_q0, n_st_q1, n_st_q2, n_st_q3, n_st_q4, n_st_r, n_st_pg, n_st_nt, n_pg_a, n_pg_q0, n_pg_q1, n_pg_q2, n_pg_q3, n_pg_q4, n_pg_r, n_pg_st, n_pg_nt, n_nt_a, n_nt_q0, n_nt_q1, n_nt_q2, n_nt_q3, n_nt_q4, n_nt_r, n_nt_st, n_nt_pg, Nat.reduceEqDiff, Nat.reduceAdd, and_false, false_and, and_self, and_true, true_and, if_true, if_false, h0]
  have s_1 : cFi S9 q1 2 = 0 ∧ cFr S9 q1 1 = some (wE W9) := by
    rw [← hS9]
    simp only [cK_setI, cK_setR, cK_newO, cK_newI, cFi_setI, cFi_setR, cFi_newO, cFi_newI, cFr_setI, cFr_setR, cFr_newO, cFr_newI, cLen_setI, cLen_setR, cLen_newO, cLen_newI, cRi_setI, cRi_setR, cRi_newO, cRi_newI, n_a_q0, n_a_q1, n_a_q2, n_a_q3, n_a_q4, n_a_r, n_a_st, n_a_pg, n_a_nt, n_q0_a, n_q0_q1, n_q0_q2, n_q0_q3, n_q0_q4, n_q0_r, n_q0_st, n_q0_pg, n_q0_nt, n_q1_a, n_q1_q0, n_q1_q2, n_q1_q3, n_q1_q4, n_q1_r, n_q1_st, n_q1_pg, n_q1_nt, n_q2_a, n_q2_q0, n_q2_q1, n_q2_q3, n_q2_q4, n_q2_r, n_q2_st, n_q2_pg, n_q2_nt, n_q3_a, n_q3_q0, n_q3_q1, n_q3_q2, n_q3_q4, n_q3_r, n_q3_st, n_q3_pg, n_q3_nt, n_q4_a, n_q4_q0, n_q4_q1, n_q4_q2, n_q4_q3, n_q4_r, n_q4_st, n_q4_pg, n_q4_nt, n_r_a, n_r_q0, n_r_q1, n_r_q2, n_r_q3, n_r_q4, n_r_st, n_r_pg, n_r_nt, n_st_a, n_st_q0, n_st_q1, n_st_q2, n_st_q3, n_st_q4, n_st_r, n_st_pg, n_st_nt, n_pg_a, n_pg_q0, n_pg_q1, n_pg_q2, n_pg_q3, n_pg_q4, n_pg_r, n_pg_st, n_pg_nt, n_nt_a, n_nt_q0, n_nt_q1, n_nt_q2, n_nt_q3, n_nt_q4, n_nt_r, n_nt_st, n_nt_pg, Nat.reduceEqDiff, Nat.reduceAdd, and_false, false_and, and_self, and_true, true_and, if_true, if_false, h0]
  have s_2 : cFi S9 q2 2 = 0 ∧ cFr S9 q2 1 = some (wE W9) := by
    rw [← hS9]
    simp only [cK_setI, cK_setR, cK_newO, cK_newI, cFi_setI, cFi_setR, cFi_newO, cFi_newI, cFr_setI, cFr_setR, cFr_newO, cFr_newI, cLen_setI, cLen_setR, cLen_newO, cLen_newI, cRi_setI, cRi_setR, cRi_newO, cRi_newI, n_a_q0, n_a_q1, n_a_q2, n_a_q3, n_a_q4, n_a_r, n_a_st, n_a_pg, n_a_nt, n_q0_a, n_q0_q1, n_q0_q2, n_q0_q3, n_q0_q4, n_q0_r, n_q0_st, n_q0_pg, n_q0_nt, n_q1_a, n_q1_q0, n_q1_q2, n_q1_q3, n_q1_q4, n_q1_r, n_q1_st, n_q1_pg, n_q1_nt, n_q2_a, n_q2_q0, n_q2_q1, n_q2_q3, n_q2_q4, n_q2_r, n_q2_st, n_q2_pg, n_q2_nt, n_q3_a, n_q3_q0, n_q3_q1, n_q3_q2, n_q3_q4, n_q3_r, n_q3_st, n_q3_pg, n_q3_nt, n_q4_a, n_q4_q0, n_q4_q1, n_q4_q2, n_q4_q3, n_q4_r, n_q4_st, n_q4_pg, n_q4_nt, n_r_a, n_r_q0, n_r_q1, n_r_q2, n_r_q3, n_r_q4, n_r_st, n_r_pg, n_r_nt, n_st_a, n_st_q0, n_st_q1, n_st_q2, n_st_q3, n_st_q4, n_st_r, n_st_pg, n_st_nt, n_pg_a, n_pg_q0, n_pg_q1, n_pg_q2, n_pg_q3, n_pg_q4, n_pg_r, n_pg_st, n_pg_nt, n_nt_a, n_nt_q0, n_nt_q1, n_nt_q2, n_nt_q3, n_nt_q4, n_nt_r, n_nt_st, n_nt_pg, Nat.reduceEqDiff, Nat.reduceAdd, and_false, false_and, and_self, and_true, true_and, if_true, if_false, h0]
  have s_3 : cFi S9 q3 2 = 0 ∧ cFr S9 q3 1 = some (wE W9) := by
    rw [← hS9]
    simp only [cK_setI, cK_setR, cK_newO, cK_newI, cFi_setI, cFi_setR, cFi_newO, cFi_newI, cFr_setI, cFr_setR, cFr_newO, cFr_newI, cLen_setI, cLen_setR, cLen_newO, cLen_newI, cRi_setI, cRi_setR, cRi_newO, cRi_newI, n_a_q0, n_a_q1, n_a_q2, n_a_q3, n_a_q4, n_a_r, n_a_st, n_a_pg, n_a_nt, n_q0_a, n_q0_q1, n_q0_q2, n_q0_q3, n_q0_q4, n_q0_r, n_q0_st, n_q0_pg, n_q0_nt, n_q1_a, n_q1_q0, n_q1_q2, n_q1_q3, n_q1_q4, n_q1_r, n_q1_st, n_q1_pg, n_q1_nt, n_q2_a, n_q2_q0, n_q2_q1, n_q2_q3, n_q2_q4, n_q2_r, n_q2_st, n_q2_pg, n_q2_nt, n_q3_a, n_q3_q0, n_q3_q1, n_q3_q2, n_q3_q4, n_q3_r, n_q3_st, n_q3_pg, n_q3_nt, n_q4_a, n_q4_q0, n_q4_q1, n_q4_q2, n_q4_q3, n_q4_r, n_q4_st, n_q4_pg, n_q4_nt, n_r_a, n_r_q0, n_r_q1, n_r_q2, n_r_q3, n_r_q4, n_r_st, n_r_pg, n_r_nt, n_st_a, n_st_q0, n_st_q1, n_st_q2, n_st_q3, n_st_q4, n_st_r, n_st_pg, n_st_nt, n_pg_a, n_pg_q0, n_pg_q1, n_pg_q2, n_pg_q3, n_pg_q4, n_pg_r, n_pg_st, n_pg_nt, n_nt_a, n_nt_q0, n_nt_q1, n_nt_q2, n_nt_q3, n_nt_q4, n_nt_r, n_nt_st, n_nt_pg, Nat.reduceEqDiff, Nat.reduceAdd, and_false, false_and, and_self, and_true, true_and, if_true, if_false, h0]
  have s_4 : cFi S9 q4 2 = 0 ∧ cFr S9 q4 1 = some (wE W9) := by
    rw [← hS9]
    simp only [cK_setI, cK_setR, cK_newO, cK_newI, cFi_setI, cFi_setR, cFi_newO, cFi_newI, cFr_setI, cFr_setR, cFr_newO, cFr_newI, cLen_setI, cLen_setR, cLen_newO, cLen_newI, cRi_setI, cRi_setR, cRi_newO, cRi_newI, n_a_q0, n_a_q1, n_a_q2, n_a_q3, n_a_q4, n_a_r, n_a_st, n_a_pg, n_a_nt, n_q0_a, n_q0_q1, n_q0_q2, n_q0_q3, n_q0_q4, n_q0_r, n_q0_st, n_q0_pg, n_q0_nt, n_q1_a, n_q1_q0, n_q1_q2, n_q1_q3, n_q1_q4, n_q1_r, n_q1_st, n_q1_pg, n_q1_nt, n_q2_a, n_q2_q0, n_q2_q1, n_q2_q3, n_q2_q4, n_q2_r, n_q2_st, n_q2_pg, n_q2_nt, n_q3_a, n_q3_q0, n_q3_q1, n_q3_q2, n_q3_q4, n_q3_r, n_q3_st, n_q3_pg, n_q3_nt, n_q4_a, n_q4_q0, n_q4_q1, n_q4_q2, n_q4_q3, n_q4_r, n_q4_st, n_q4_pg, n_q4_nt, n_r_a, n_r_q0, n_r_q1, n_r_q2, n_r_q3, n_r_q4, n_r_st, n_r_pg, n_r_nt, n_st_a, n_st_q0, n_st_q1, n_st_q2, n_st_q3, n_st_q4, n_st_r, n_st_pg, n_st_nt, n_pg_a, n_pg_q0, n_pg_q1, n_pg_q2, n_pg_q3, n_pg_q4, n_pg_r, n_pg_st, n_pg_nt, n_nt_a, n_nt_q0, n_nt_q1, n_nt_q2, n_nt_q3, n_nt_q4, n_nt_r, n_nt_st, n_nt_pg, Nat.reduceEqDiff, Nat.reduceAdd, and_false, false_and, and_self, and_true, true_and, if_true, if_false, h0]
  have r_1 : cLen S9 r = 8 := by
    rw [← hS9]
    simp only [cK_setI, cK_setR, cK_newO, cK_newI, cFi_setI, cFi_setR, cFi_newO, cFi_newI, cFr_setI, cFr_setR, cFr_newO, cFr_newI, cLen_setI, cLen_setR, cLen_newO, cLen_newI, cRi_setI, cRi_setR, cRi_newO, cRi_newI, n_a_q0, n_a_q1, n_a_q2, n_a_q3, n_a_q4, n_a_r, n_a_st, n_a_pg, n_a_nt, n_q0_a, n_q0_q1, n_q0_q2, n_q0_q3, n_q0_q4, n_q0_r, n_q0_st, n_q0_pg, n_q0_nt, n_q1_a, n_q1_q0, n_q1_q2, n_q1_q3, n_q1_q4, n_q1_r, n_q1_st, n_q1_pg, n_q1_nt, n_q2_a, n_q2_q0, n_q2_q1, n_q2_q3, n_q2_q4, n_q2_r, n_q2_st, n_q2_pg, n_q2_nt, n_q3_a, n_q3_q0, n_q3_q1, n_q3_q2, n_q3_q4, n_q3_r, n_q3_st, n_q3_pg, n_q3_nt, n_q4_a, n_q4_q0, n_q4_q1, n_q4_q2, n_q4_q3, n_q4_r, n_q4_st, n_q4_pg, n_q4_nt, n_r_a, n_r_q0, n_r_q1, n_r_q2, n_r_q3, n_r_q4, n_r_st, n_r_pg, n_r_nt, n_st_a, n_st_q0, n_st_q1, n_st_q2, n_st_q3, n_st_q4, n_st_r, n_st_pg, n_st_nt, n_pg_a, n_pg_q0, n_pg_q1, n_pg_q2, n_pg_q3, n_pg_q4, n_pg_r, n_pg_st, n_pg_nt, n_nt_a, n_nt_q0, n_nt_q1, n_nt_q2, n_nt_q3, n_nt_q4, n_nt_r, n_nt_st, n_nt_pg, Nat.reduceEqDiff, Nat.reduceAdd, and_false, false_and, and_self, and_true, true_and, if_true, if_false, h0]
  have r_2 : ∀ p, cRi S9 r p = 0 := fun p => by
    rw [← hS9]
    simp only [cK_setI, cK_setR, cK_newO, cK_newI, cFi_setI, cFi_setR, cFi_newO, cFi_newI, cFr_setI, cFr_setR, cFr_newO, cFr_newI, cLen_setI, cLen_setR, cLen_newO, cLen_newI, cRi_setI, cRi_setR, cRi_newO, cRi_newI, n_a_q0, n_a_q1, n_a_q2, n_a_q3, n_a_q4, n_a_r, n_a_st, n_a_pg, n_a_nt, n_q0_a, n_q0_q1, n_q0_q2, n_q0_q3, n_q0_q4, n_q0_r, n_q0_st, n_q0_pg, n_q0_nt, n_q1_a, n_q1_q0, n_q1_q2, n_q1_q3, n_q1_q4, n_q1_r, n_q1_st, n_q1_pg, n_q1_nt, n_q2_a, n_q2_q0, n_q2_q1, n_q2_q3, n_q2_q4, n_q2_r, n_q2_st, n_q2_pg, n_q2_nt, n_q3_a, n_q3_q0, n_q3_q1, n_q3_q2, n_q3_q4, n_q3_r, n_q3_st, n_q3_pg, n_q3_nt, n_q4_a, n_q4_q0, n_q4_q1, n_q4_q2, n_q4_q3, n_q4_r, n_q4_st, n_q4_pg, n_q4_nt, n_r_a, n_r_q0, n_r_q1, n_r_q2, n_r_q3, n_r_q4, n_r_st, n_r_pg, n_r_nt, n_st_a, n_st_q0, n_st_q1, n_st_q2, n_st_q3, n_st_q4, n_st_r, n_st_pg, n_st_nt, n_pg_a, n_pg_q0, n_pg_q1, n_pg_q2, n_pg_q3, n_pg_q4, n_pg_r, n_pg_st, n_pg_nt, n_nt_a, n_nt_q0, n_nt_q1, n_nt_q2, n_nt_q3, n_nt_q4, n_nt_r, n_nt_st, n_nt_pg, Nat.reduceEqDiff, Nat.reduceAdd, and_false, false_and, and_self, and_true, true_and, if_true, if_false]
  have t_1 : cFr S9 st 700 = some pg ∧ cFr S9 st 701 = some pg ∧ cFi S9 st 702 = 0 := by
    rw [← hS9]
    simp only [cK_setI, cK_setR, cK_newO, cK_newI, cFi_setI, cFi_setR, cFi_newO, cFi_newI, cFr_setI, cFr_setR, cFr_newO, cFr_newI, cLen_setI, cLen_setR, cLen_newO, cLen_newI, cRi_setI, cRi_setR, cRi_newO, cRi_newI, n_a_q0, n_a_q1, n_a_q2, n_a_q3, n_a_q4, n_a_r, n_a_st, n_a_pg, n_a_nt, n_q0_a, n_q0_q1, n_q0_q2, n_q0_q3, n_q0_q4, n_q0_r, n_q0_st, n_q0_pg, n_q0_nt, n_q1_a, n_q1_q0, n_q1_q2, n_q1_q3, n_q1_q4, n_q1_r, n_q1_st, n_q1_pg, n_q1_nt, n_q2_a, n_q2_q0, n_q2_q1, n_q2_q3, n_q2_q4, n_q2_r, n_q2_st, n_q2_pg, n_q2_nt, n_q3_a, n_q3_q0, n_q3_q1, n_q3_q2, n_q3_q4, n_q3_r, n_q3_st, n_q3_pg, n_q3_nt, n_q4_a, n_q4_q0, n_q4_q1, n_q4_q2, n_q4_q3, n_q4_r, n_q4_st, n_q4_pg, n_q4_nt, n_r_a, n_r_q0, n_r_q1, n_r_q2, n_r_q3, n_r_q4, n_r_st, n_r_pg, n_r_nt, n_st_a, n_st_q0, n_st_q1, n_st_q2, n_st_q3, n_st_q4, n_st_r, n_st_pg, n_st_nt, n_pg_a, n_pg_q0, n_pg_q1, n_pg_q2, n_pg_q3, n_pg_q4, n_pg_r, n_pg_st, n_pg_nt, n_nt_a, n_nt_q0, n_nt_q1, n_nt_q2, n_nt_q3, n_nt_q4, n_nt_r, n_nt_st, n_nt_pg, Nat.reduceEqDiff, Nat.reduceAdd, and_false, false_and, and_self, and_true, true_and, if_true, if_false, h0]
  have t_2 : cFr S9 pg 400 = some nt ∧ cFi S9 pg 401 = 0 ∧ cFr S9 pg 402 = none := by
    rw [← hS9]
    simp only [cK_setI, cK_setR, cK_newO, cK_newI, cFi_setI, cFi_setR, cFi_newO, cFi_newI, cFr_setI, cFr_setR, cFr_newO, cFr_newI, cLen_setI, cLen_setR, cLen_newO, cLen_newI, cRi_setI, cRi_setR, cRi_newO, cRi_newI, n_a_q0, n_a_q1, n_a_q2, n_a_q3, n_a_q4, n_a_r, n_a_st, n_a_pg, n_a_nt, n_q0_a, n_q0_q1, n_q0_q2, n_q0_q3, n_q0_q4, n_q0_r, n_q0_st, n_q0_pg, n_q0_nt, n_q1_a, n_q1_q0, n_q1_q2, n_q1_q3, n_q1_q4, n_q1_r, n_q1_st, n_q1_pg, n_q1_nt, n_q2_a, n_q2_q0, n_q2_q1, n_q2_q3, n_q2_q4, n_q2_r, n_q2_st, n_q2_pg, n_q2_nt, n_q3_a, n_q3_q0, n_q3_q1, n_q3_q2, n_q3_q4, n_q3_r, n_q3_st, n_q3_pg, n_q3_nt, n_q4_a, n_q4_q0, n_q4_q1, n_q4_q2, n_q4_q3, n_q4_r, n_q4_st, n_q4_pg, n_q4_nt, n_r_a, n_r_q0, n_r_q1, n_r_q2, n_r_q3, n_r_q4, n_r_st, n_r_pg, n_r_nt, n_st_a, n_st_q0, n_st_q1, n_st_q2, n_st_q3, n_st_q4, n_st_r, n_st_pg, n_st_nt, n_pg_a, n_pg_q0, n_pg_q1, n_pg_q2, n_pg_q3, n_pg_q4, n_pg_r, n_pg_st, n_pg_nt, n_nt_a, n_nt_q0, n_nt_q1, n_nt_q2, n_nt_q3, n_nt_q4, n_nt_r, n_nt_st, n_nt_pg, Nat.reduceEqDiff, Nat.reduceAdd, and_false, false_and, and_self, and_true, true_and, if_true, if_false, h0]
  have t_3 : cLen S9 nt = 64 := by
    rw [← hS9]
    simp only [cK_setI, cK_setR, cK_newO, cK_newI, cFi_setI, cFi_setR, cFi_newO, cFi_newI, cFr_setI, cFr_setR, cFr_newO, cFr_newI, cLen_setI, cLen_setR, cLen_newO, cLen_newI, cRi_setI, cRi_setR, cRi_newO, cRi_newI, n_a_q0, n_a_q1, n_a_q2, n_a_q3, n_a_q4, n_a_r, n_a_st, n_a_pg, n_a_nt, n_q0_a, n_q0_q1, n_q0_q2, n_q0_q3, n_q0_q4, n_q0_r, n_q0_st, n_q0_pg, n_q0_nt, n_q1_a, n_q1_q0, n_q1_q2, n_q1_q3, n_q1_q4, n_q1_r, n_q1_st, n_q1_pg, n_q1_nt, n_q2_a, n_q2_q0, n_q2_q1, n_q2_q3, n_q2_q4, n_q2_r, n_q2_st, n_q2_pg, n_q2_nt, n_q3_a, n_q3_q0, n_q3_q1, n_q3_q2, n_q3_q4, n_q3_r, n_q3_st, n_q3_pg, n_q3_nt, n_q4_a, n_q4_q0, n_q4_q1, n_q4_q2, n_q4_q3, n_q4_r, n_q4_st, n_q4_pg, n_q4_nt, n_r_a, n_r_q0, n_r_q1, n_r_q2, n_r_q3, n_r_q4, n_r_st, n_r_pg, n_r_nt, n_st_a, n_st_q0, n_st_q1, n_st_q2, n_st_q3, n_st_q4, n_st_r, n_st_pg, n_st_nt, n_pg_a, n_pg_q0, n_pg_q1, n_pg_q2, n_pg_q3, n_pg_q4, n_pg_r, n_pg_st, n_pg_nt, n_nt_a, n_nt_q0, n_nt_q1, n_nt_q2, n_nt_q3, n_nt_q4, n_nt_r, n_nt_st, n_nt_pg, Nat.reduceEqDiff, Nat.reduceAdd, and_false, false_and, and_self, and_true, true_and, if_true, if_false, h0]
  clear hS9
  have cap : ∀ q, cK S9 q = 1 → (cFi S9 q 2 = 0 ∧ cFr S9 q 1 = some (wE W9)) → ∀ f, lst W9 S9 q 0 f ∧ cRf S9 q 1 = wE W9 := fun q hk hs f => by
    have eRf : cRf S9 q 1 = wE W9 := by unfold cRf; rw [hs.2]; rfl
    have eCn : lCn S9 q = 0 := by unfold lCn; rw [hs.1]; rfl
    exact ⟨⟨⟨hk, by rw [eCn]; exact hs.1, by rw [eCn]; omega, by rw [eRf]; exact hs.2, Or.inl ⟨eRf, eCn⟩⟩, eCn, fun k hk => by omega⟩, eRf⟩
  refine ⟨D9, ⟨i9, v_0_9, ?_, ?_, ?_, fun s hs => by omega, fun t ht => by omega⟩, ⟨?_, fun t ht => by omega, ?_⟩⟩
  · unfold jT
    rw [v_0_9, v_1_9, v_2_9, v_3_9, v_4_9, v_5_9, v_6_9, v_7_9]
    exact ⟨k_a, ⟨f_0, f_1, f_2, f_3, f_4, f_5, f_6⟩, fz⟩
  · unfold jL
    rw [v_6_9]
    exact ⟨k_r, r_1, r_2⟩
  · unfold rPg
    rw [v_7_9]
    refine ⟨⟨k_st, by rw [v_8_9]; exact t_1.1, by rw [show 1 - 1 = 0 from rfl, v_8_9]; exact t_1.2.1, t_1.2.2⟩, by omega, fun j hj => ?_⟩
    obtain rfl : j = 0 := by omega
    have hU : pU S9 D9 0 = 0 := by unfold pU; rw [v_8_9, t_2.2.1]; rfl
    rw [v_8_9, v_9_9, hU]
    exact ⟨k_pg, t_2.1, k_nt, t_3, ⟨t_2.2.1, by omega⟩, by rw [if_neg (by omega)]; exact t_2.2.2⟩
  · rw [v_1_9, v_2_9, v_3_9, v_4_9, v_5_9]
    exact ⟨(cap q0 k_q0 s_0 _).1, (cap q1 k_q1 s_1 _).1, (cap q2 k_q2 s_2 _).1, (cap q3 k_q3 s_3 _).1, (cap q4 k_q4 s_4 _).1⟩
  · intro k i k2 i2 z1 z2 z3
    refine Or.inl ?_
    rcases z1 with ⟨rfl, hi⟩ | ⟨rfl, hi⟩
    · match i, hi with
      | 0, _ => rw [v_1_9]; exact (cap q0 k_q0 s_0 (fun _ => 0)).2
      | 1, _ => rw [v_2_9]; exact (cap q1 k_q1 s_1 (fun _ => 0)).2
      | 2, _ => rw [v_3_9]; exact (cap q2 k_q2 s_2 (fun _ => 0)).2
      | 3, _ => rw [v_4_9]; exact (cap q3 k_q3 s_3 (fun _ => 0)).2
      | 4, _ => rw [v_5_9]; exact (cap q4 k_q4 s_4 (fun _ => 0)).2
    · omega
