/-! The twin's methods: what is asked. -/
theorem ti_0 {x : Int32} : (x.toInt = 0) = (x = 0) := propext ⟨fun h => Int32.toInt_inj.mp h, fun h => by rw [h]; rfl⟩
theorem ti_1 {x : Int32} : (x.toInt = 1) = (x = 1) := propext ⟨fun h => Int32.toInt_inj.mp h, fun h => by rw [h]; rfl⟩
theorem ti_2 {x : Int32} : (x.toInt = 2) = (x = 2) := propext ⟨fun h => Int32.toInt_inj.mp h, fun h => by rw [h]; rfl⟩
theorem ti_3 {x : Int32} : (x.toInt = 3) = (x = 3) := propext ⟨fun h => Int32.toInt_inj.mp h, fun h => by rw [h]; rfl⟩
theorem ti_4 {x : Int32} : (x.toInt = 4) = (x = 4) := propext ⟨fun h => Int32.toInt_inj.mp h, fun h => by rw [h]; rfl⟩
theorem ti_5 {x : Int32} : (x.toInt = 5) = (x = 5) := propext ⟨fun h => Int32.toInt_inj.mp h, fun h => by rw [h]; rfl⟩
theorem ti_6 {x : Int32} : (x.toInt = 6) = (x = 6) := propext ⟨fun h => Int32.toInt_inj.mp h, fun h => by rw [h]; rfl⟩
theorem ti_7 {x : Int32} : (x.toInt = 7) = (x = 7) := propext ⟨fun h => Int32.toInt_inj.mp h, fun h => by rw [h]; rfl⟩
theorem ti_8 {x : Int32} : (x.toInt = 8) = (x = 8) := propext ⟨fun h => Int32.toInt_inj.mp h, fun h => by rw [h]; rfl⟩
theorem ti_9 {x : Int32} : (x.toInt = 9) = (x = 9) := propext ⟨fun h => Int32.toInt_inj.mp h, fun h => by rw [h]; rfl⟩
theorem tlt_0 {x : Int32} : (x.toInt < 0) = (x < 0) := propext (Int32.lt_iff_toInt_lt (x := x) (y := 0)).symm
theorem tgt_5 {x : Int32} : (5 < x.toInt) = (5 < x) := propext (Int32.lt_iff_toInt_lt (x := 5) (y := x)).symm
theorem tgt_9 {x : Int32} : (9 < x.toInt) = (9 < x) := propext (Int32.lt_iff_toInt_lt (x := 9) (y := x)).symm
def mHeld (v : Int32) : Int32 := if v < -30 then -30 else if v > 60 then 60 else v
def oWater (M : mS) (s d : Int32) : Int32 × mS :=
  if ¬ (0 ≤ s ∧ s ≤ 6) then (0, mSet M 0 1)
  else if (0 ≤ d ∧ d ≤ 30) then (M.2 6 s.toNatClampNeg + mHeld (M.1 2 - d * M.1 3), mSet M 0 0)
  else (0, mSet M 0 2)
def oMost (M : mS) (b u : Int32) : Int32 × mS :=
  if (0 ≤ b ∧ b ≤ M.1 29 - 1) then (mMost (mSet M 0 0) b u, mSet M 0 0) else (0, mSet M 0 1)
noncomputable def oBars (M : mS) (b : Int32) : Int32 × mS :=
  if ¬ (0 ≤ b ∧ b ≤ M.1 29 - 1) then (0, mSet M 0 1)
  else if ¬ M.2 34 b.toNatClampNeg = -1 ∨ M.2 37 b.toNatClampNeg = -1 then (-1, mSet M 0 0)
  else (mBar (mSet M 0 0) b (nBt (mSet M 0 0)), mSet M 0 0)
def mTold (M : mS) (b w : Int32) : Int32 :=
  if w = 0 then (if M.2 34 b.toNatClampNeg = -1 then M.2 33 b.toNatClampNeg else -1)
  else if w = 1 then M.2 34 b.toNatClampNeg
  else if w = 2 then M.2 37 b.toNatClampNeg
  else if w = 3 then M.2 32 b.toNatClampNeg
  else if w = 4 then M.2 39 b.toNatClampNeg
  else if w = 5 then M.2 42 b.toNatClampNeg
  else if w = 6 then mWt M b
  else if w = 7 then mDr M b
  else if w = 8 then mWd M b
  else if w = 9 then (if M.2 34 b.toNatClampNeg = -1 then 0 else M.2 36 b.toNatClampNeg)
  else M.2 43 b.toNatClampNeg
def oOfBoat (M : mS) (b w : Int32) : Int32 × mS :=
  if (0 ≤ b ∧ b ≤ M.1 29 - 1) ∧ 0 ≤ w ∧ w ≤ 10 then (mTold (mSet M 0 0) b w, mSet M 0 0) else (0, mSet M 0 1)
def oWaited (M : mS) (b c : Int32) : Int32 × mS :=
  if (0 ≤ b ∧ b ≤ M.1 29 - 1) ∧ 1 ≤ c ∧ c ≤ 9 then (M.2 44 (10 * b + c).toNatClampNeg, mSet M 0 0) else (0, mSet M 0 1)
def mWh (M : mS) (g : Int32) : Int32 :=
  if M.2 28 g.toNatClampNeg = -1 then M.2 27 g.toNatClampNeg / 2
  else if M.2 34 (M.2 28 g.toNatClampNeg).toNatClampNeg = -1 then 10 + M.2 33 (M.2 28 g.toNatClampNeg).toNatClampNeg else 20 + M.2 34 (M.2 28 g.toNatClampNeg).toNatClampNeg
def oPlaceAnew (M : mS) (g : Int32) : Int32 × mS :=
  if (0 ≤ g ∧ g ≤ M.1 22 - 1) then (mWh (mSet M 0 0) g, mSet M 0 0) else (0, mSet M 0 1)
def mTell (M : mS) (g w : Int32) : Int32 :=
  if w = 0 then mWh M g
  else if w = 1 then M.2 24 g.toNatClampNeg
  else if w = 2 then M.2 25 g.toNatClampNeg
  else if w = 3 then M.2 26 g.toNatClampNeg
  else if w = 4 then (if M.2 28 g.toNatClampNeg = -1 then M.2 27 g.toNatClampNeg - M.2 27 g.toNatClampNeg / 2 * 2 else -1)
  else if w = 5 then nI (mPlc M g)
  else mOut M g (mPlc M g)
def oOfBarge (M : mS) (g w : Int32) : Int32 × mS :=
  if (0 ≤ g ∧ g ≤ M.1 22 - 1) ∧ 0 ≤ w ∧ w ≤ 6 then (mTell (mSet M 0 0) g w, mSet M 0 0) else (0, mSet M 0 1)
def mTelc (M : mS) (c w : Int32) : Int32 :=
  if w = 0 then M.2 50 c.toNatClampNeg - mInB M c (nBg M) - M.2 53 c.toNatClampNeg
  else if w = 1 then mInB M c (nBg M)
  else if w = 2 then M.2 53 c.toNatClampNeg
  else if w = 3 then M.2 54 c.toNatClampNeg
  else if w = 4 then M.2 49 c.toNatClampNeg
  else M.2 55 c.toNatClampNeg
def oOfContract (M : mS) (c w : Int32) : Int32 × mS :=
  if (0 ≤ c ∧ c ≤ M.1 46 - 1) ∧ 0 ≤ w ∧ w ≤ 5 then (mTelc (mSet M 0 0) c w, mSet M 0 0) else (0, mSet M 0 1)
def mSum (f : Nat → Int32) : Nat → Int32
  | 0 => 0
  | n + 1 => mSum f n + f n
def oAll (M : mS) (w : Int32) : Int32 × mS :=
  if ¬ (0 ≤ w ∧ w ≤ 6) then (0, mSet M 0 1)
  else (if w = 0 then M.1 1 else if w = 1 then M.1 2 else if w = 2 then mSum (M.2 54) 12 else if w = 3 then M.1 56 else if w = 4 then M.1 57 else if w = 5 then M.1 58 else mSum (M.2 44) 60, mSet M 0 0)
theorem in_1 {k : Int32} (h0 : 1 ≤ k) (h1 : k ≤ 9) : vp_in k 10 := in_le 9 (by omega) (Int32.le_trans (by decide) h0) h1

def tbX8_water : List (Nat × xHint) := [(0, .aload_n 0, 0, 0, 0, []), (1, .iload_n 1, 1, 0, 0, []), (2, .invokestatic 176, 0, 1, 0, []), (5, .ifCond .ne 7, 12, 0, 0, []), (8, .iconst 1, 0, 0, 0, []), (9, .goto 18, 27, 0, 0, []), (12, .iload_n 2, 2, 0, 0, []), (13, .iconst 0, 0, 0, 0, []), (14, .bipush 30, 0, 0, 0, []), (16, .invokestatic 159, 1, 3, 0, []), (19, .ifCond .eq 7, 26, 0, 0, []), (22, .iconst 0, 0, 0, 0, []), (23, .goto 4, 27, 0, 0, []), (26, .iconst 2, 0, 0, 0, []), (27, .invokevirtual 183, 2, 2, 9, []), (30, .ifCond .ne 5, 35, 0, 0, []), (33, .iconst 0, 0, 0, 0, []), (34, .ireturn, 0, 0, 0, []), (35, .aload_n 0, 0, 0, 0, []), (36, .getfield 13, 9, 6, 2, []), (39, .iload_n 1, 1, 0, 0, []), (40, .iaload, 6, 0, 0, []), (41, .aload_n 0, 0, 0, 0, []), (42, .getfield 186, 9, 2, 0, []), (45, .iload_n 2, 2, 0, 0, []), (46, .aload_n 0, 0, 0, 0, []), (47, .getfield 189, 9, 3, 0, []), (50, .imul, 0, 0, 0, []), (51, .isub, 0, 0, 0, []), (52, .invokestatic 328, 3, 1, 0, []), (55, .iadd, 0, 0, 0, []), (56, .ireturn, 0, 0, 0, [])]
def clX8_water : List (Instr × Nat × Nat × Nat) := [(.invokestatic 176, 0, 1, 0), (.invokestatic 159, 1, 3, 0), (.invokevirtual 183, 2, 2, 9), (.invokestatic 328, 3, 1, 0)]
def thX8_water : List (Nat × Nat) := []
theorem ckX8_water : tbX8_water.all (xRow RX8 cX8_water wsX8_water vwCl [9] clX8_water thX8_water 3 (yX8_water.name == "<init>") (some .int)) = true := xRow_q 0xac604801b86468bd00b42a1cba00b42a2e1b0d00b42aac0305009ab700b6050400a7030700999f00b81e10031c1200a70407009ab000b81b2a 57 (by decide +kernel) (by decide +kernel)
theorem usX8_water : xUse wsX8_water vwCl [9] = true := xUse_g rfl (lw_good lwl_X8_water lwl_X80 (by decide +kernel)) xUse_n
theorem tbX8_water_0 {k : Instr → Nat → Nat → Nat → List Nat → Prop} : xse (xFind tbX8_water 0) k = k (.aload_n 0) 0 0 0 [] := rfl
theorem tbX8_water_1 {k : Instr → Nat → Nat → Nat → List Nat → Prop} : xse (xFind tbX8_water 1) k = k (.iload_n 1) 1 0 0 [] := rfl
theorem tbX8_water_2 {k : Instr → Nat → Nat → Nat → List Nat → Prop} : xse (xFind tbX8_water 2) k = k (.invokestatic 176) 0 1 0 [] := rfl
theorem tbX8_water_5 {k : Instr → Nat → Nat → Nat → List Nat → Prop} : xse (xFind tbX8_water 5) k = k (.ifCond .ne 7) 12 0 0 [] := rfl
theorem tbX8_water_8 {k : Instr → Nat → Nat → Nat → List Nat → Prop} : xse (xFind tbX8_water 8) k = k (.iconst 1) 0 0 0 [] := rfl
theorem tbX8_water_9 {k : Instr → Nat → Nat → Nat → List Nat → Prop} : xse (xFind tbX8_water 9) k = k (.goto 18) 27 0 0 [] := rfl
theorem tbX8_water_12 {k : Instr → Nat → Nat → Nat → List Nat → Prop} : xse (xFind tbX8_water 12) k = k (.iload_n 2) 2 0 0 [] := rfl
theorem tbX8_water_13 {k : Instr → Nat → Nat → Nat → List Nat → Prop} : xse (xFind tbX8_water 13) k = k (.iconst 0) 0 0 0 [] := rfl
theorem tbX8_water_14 {k : Instr → Nat → Nat → Nat → List Nat → Prop} : xse (xFind tbX8_water 14) k = k (.bipush 30) 0 0 0 [] := rfl
theorem tbX8_water_16 {k : Instr → Nat → Nat → Nat → List Nat → Prop} : xse (xFind tbX8_water 16) k = k (.invokestatic 159) 1 3 0 [] := rfl
theorem tbX8_water_19 {k : Instr → Nat → Nat → Nat → List Nat → Prop} : xse (xFind tbX8_water 19) k = k (.ifCond .eq 7) 26 0 0 [] := rfl
theorem tbX8_water_22 {k : Instr → Nat → Nat → Nat → List Nat → Prop} : xse (xFind tbX8_water 22) k = k (.iconst 0) 0 0 0 [] := rfl
theorem tbX8_water_23 {k : Instr → Nat → Nat → Nat → List Nat → Prop} : xse (xFind tbX8_water 23) k = k (.goto 4) 27 0 0 [] := rfl
theorem tbX8_water_26 {k : Instr → Nat → Nat → Nat → List Nat → Prop} : xse (xFind tbX8_water 26) k = k (.iconst 2) 0 0 0 [] := rfl
theorem tbX8_water_27 {k : Instr → Nat → Nat → Nat → List Nat → Prop} : xse (xFind tbX8_water 27) k = k (.invokevirtual 183) 2 2 9 [] := rfl
theorem tbX8_water_30 {k : Instr → Nat → Nat → Nat → List Nat → Prop} : xse (xFind tbX8_water 30) k = k (.ifCond .ne 5) 35 0 0 [] := rfl
theorem tbX8_water_33 {k : Instr → Nat → Nat → Nat → List Nat → Prop} : xse (xFind tbX8_water 33) k = k (.iconst 0) 0 0 0 [] := rfl
theorem tbX8_water_34 {k : Instr → Nat → Nat → Nat → List Nat → Prop} : xse (xFind tbX8_water 34) k = k (.ireturn) 0 0 0 [] := rfl
theorem tbX8_water_35 {k : Instr → Nat → Nat → Nat → List Nat → Prop} : xse (xFind tbX8_water 35) k = k (.aload_n 0) 0 0 0 [] := rfl
theorem tbX8_water_36 {k : Instr → Nat → Nat → Nat → List Nat → Prop} : xse (xFind tbX8_water 36) k = k (.getfield 13) 9 6 2 [] := rfl
theorem tbX8_water_39 {k : Instr → Nat → Nat → Nat → List Nat → Prop} : xse (xFind tbX8_water 39) k = k (.iload_n 1) 1 0 0 [] := rfl
theorem tbX8_water_40 {k : Instr → Nat → Nat → Nat → List Nat → Prop} : xse (xFind tbX8_water 40) k = k (.iaload) 6 0 0 [] := rfl
theorem tbX8_water_41 {k : Instr → Nat → Nat → Nat → List Nat → Prop} : xse (xFind tbX8_water 41) k = k (.aload_n 0) 0 0 0 [] := rfl
theorem tbX8_water_42 {k : Instr → Nat → Nat → Nat → List Nat → Prop} : xse (xFind tbX8_water 42) k = k (.getfield 186) 9 2 0 [] := rfl
theorem tbX8_water_45 {k : Instr → Nat → Nat → Nat → List Nat → Prop} : xse (xFind tbX8_water 45) k = k (.iload_n 2) 2 0 0 [] := rfl
theorem tbX8_water_46 {k : Instr → Nat → Nat → Nat → List Nat → Prop} : xse (xFind tbX8_water 46) k = k (.aload_n 0) 0 0 0 [] := rfl
theorem tbX8_water_47 {k : Instr → Nat → Nat → Nat → List Nat → Prop} : xse (xFind tbX8_water 47) k = k (.getfield 189) 9 3 0 [] := rfl
theorem tbX8_water_50 {k : Instr → Nat → Nat → Nat → List Nat → Prop} : xse (xFind tbX8_water 50) k = k (.imul) 0 0 0 [] := rfl
theorem tbX8_water_51 {k : Instr → Nat → Nat → Nat → List Nat → Prop} : xse (xFind tbX8_water 51) k = k (.isub) 0 0 0 [] := rfl
theorem tbX8_water_52 {k : Instr → Nat → Nat → Nat → List Nat → Prop} : xse (xFind tbX8_water 52) k = k (.invokestatic 328) 3 1 0 [] := rfl
theorem tbX8_water_55 {k : Instr → Nat → Nat → Nat → List Nat → Prop} : xse (xFind tbX8_water 55) k = k (.iadd) 0 0 0 [] := rfl
theorem tbX8_water_56 {k : Instr → Nat → Nat → Nat → List Nat → Prop} : xse (xFind tbX8_water 56) k = k (.ireturn) 0 0 0 [] := rfl

def spX8_water (aM : Nat → Nat) : xSp mS := (fun av M => (0, 0), fun av M K => ∃ (s : Int32) (d : Int32), av = [.ref (aM 0), .int s, .int d] ∧ (K (rI (oWater M s d).1) (oWater M s d).2))
theorem spcX8_water {av : List Value} {M : mS} {aM : Nat → Nat} : (spX8_water aM).1 av M = (0, 0) := rfl
theorem spwX8_water {M : mS} {aM : Nat → Nat} {K : xRes → mS → Prop} {s : Int32} {d : Int32} : (spX8_water aM).2 [.ref (aM 0), .int s, .int d] M K = (K (rI (oWater M s d).1) (oWater M s d).2) :=
  propext ⟨fun h => by
    simp only [spX8_water] at h
    obtain ⟨_, _, e, h⟩ := h
    simp only [List.cons.injEq, Value.int.injEq, Value.ref.injEq, rf_eq, and_true, true_and] at e
    obtain ⟨rfl, rfl⟩ := e
    exact h, fun h => ⟨_, _, rfl, h⟩⟩

def callX8_water (aM : Nat → Nat) : Nat → Option (xSp mS) := fun n => match n with | 0 => some (spX8_isSection aM) | 1 => some (spX8_in aM) | 2 => some (spX8_holds aM) | 3 => some (spX8_held aM) | _ => none

theorem callX8_water_0 {aM : Nat → Nat} {k : xSp mS → Prop} : xcs (callX8_water aM 0) k = k (spX8_isSection aM) := rfl

theorem callX8_water_1 {aM : Nat → Nat} {k : xSp mS → Prop} : xcs (callX8_water aM 1) k = k (spX8_in aM) := rfl

theorem callX8_water_2 {aM : Nat → Nat} {k : xSp mS → Prop} : xcs (callX8_water aM 2) k = k (spX8_holds aM) := rfl

theorem callX8_water_3 {aM : Nat → Nat} {k : xSp mS → Prop} : xcs (callX8_water aM 3) k = k (spX8_held aM) := rfl

theorem crX8_water (l : Launch) (W9 : xWd) (aM : Nat → Nat) (hi : mInj aM) : xCallsOK l W9 (mI aM) (callX8_water aM) clX8_water RX8 wsX8_water 2 42 3 := by
  intro E A p e R s m args below meth c hI hF hL X
  exact List.forall_mem_cons.mpr ⟨⟨_, rfl, xCR_S X (by rw [hI]; exact (semX8_isSection l W9 aM hi)) gX8_water_X8_isSection rfl (by decide +kernel) (by rw [hF, hL]; decide)⟩,
    List.forall_mem_cons.mpr ⟨⟨_, rfl, xCR_S X (by rw [hI]; exact (semX8_in l W9 aM hi)) gX8_water_X8_in rfl (by decide +kernel) (by rw [hF, hL]; decide)⟩,
    List.forall_mem_cons.mpr ⟨⟨_, rfl, xCR_V X (by rw [hI]; exact (semX8_holds l W9 aM hi)) gX8_water_X8_holds rfl rfl (by decide +kernel) (by rw [hF, hL]; decide)⟩,
    List.forall_mem_cons.mpr ⟨⟨_, rfl, xCR_S X (by rw [hI]; exact (semX8_held l W9 aM hi)) gX8_water_X8_held rfl (by decide +kernel) (by rw [hF, hL]; decide)⟩,
    fun _ h => nomatch h⟩⟩⟩⟩

set_option maxHeartbeats 4000000 in
set_option maxRecDepth 20000 in
theorem semX8_water (l : Launch) (W9 : xWd) (aM : Nat → Nat) (hi : mInj aM) : xSem l W9 (mI aM) yX8_water wsX8_water 2 42 (spX8_water aM) := by
  refine xSem_of (call := callX8_water aM) (thrf := fun _ => "") (mI_law hi) (by decide +kernel) rfl ckX8_water usX8_water (crX8_water l W9 aM hi) xThrOK_nil ?_ ?_
  · intro av M KF h
    obtain ⟨s, d, rfl, h⟩ := h
    exact ⟨by intro v hv; simp only [List.mem_cons, List.not_mem_nil, or_false] at hv; rcases hv with rfl | rfl | rfl <;> first | rfl | exact cat_rf, Nat.le_of_ble_eq_true rfl⟩
  intro av M KF h G hG
  obtain ⟨s, d, rfl, h⟩ := h
  rw [show (spX8_water aM).1 _ M = _ from spcX8_water] at hG
  try dsimp only at hG
  change G 0 [some (.ref (aM 0)), some (.int s), some (.int d)] [] M 0 0
  refine xgo0 hG (fun fu hfu => ?_)
  clear hG
  simp only [↓callX8_water_0, ↓callX8_water_1, ↓callX8_water_2, ↓callX8_water_3, kb_30, kc_30, ki_0, ki_1, ki_2, ↓ma_6, ↓mg_2, ↓mg_3, ↓mg_6, misa, ↓vm_aload_n, ↓vm_bipush, ↓vm_getfield, ↓vm_goto, ↓vm_iadd, ↓vm_iaload, ↓vm_iconst, ↓vm_ifCond_eq, ↓vm_ifCond_ne, ↓vm_iload_n, ↓vm_imul, ↓vm_invokestatic, ↓vm_invokevirtual, ↓vm_ireturn, ↓vm_isub, ↓xc_1, ↓xc_2, ↓xc_3, ↓tbX8_water_0, ↓tbX8_water_1, ↓tbX8_water_2, ↓tbX8_water_5, ↓tbX8_water_8, ↓tbX8_water_9, ↓tbX8_water_12, ↓tbX8_water_13, ↓tbX8_water_14, ↓tbX8_water_16, ↓tbX8_water_19, ↓tbX8_water_22, ↓tbX8_water_23, ↓tbX8_water_26, ↓tbX8_water_27, ↓tbX8_water_30, ↓tbX8_water_33, ↓tbX8_water_34, ↓tbX8_water_35, ↓tbX8_water_36, ↓tbX8_water_39, ↓tbX8_water_40, ↓tbX8_water_41, ↓tbX8_water_42, ↓tbX8_water_45, ↓tbX8_water_46, ↓tbX8_water_47, ↓tbX8_water_50, ↓tbX8_water_51, ↓tbX8_water_52, ↓tbX8_water_55, ↓tbX8_water_56, hfu, xstep0, xJ1_hit, xJ1_go, xJ2_hit1, xJ2_hit2, xJ2_go, ↓xif_t, ↓xif_f, seval, ↓xca_eq, ↓xre_l, ↓xre_r, xmask_t, xmask_f, xmask_nil, ↓xst_eq, xX_eq, eI_eq, eMc_eq, eMs_eq, eF_eq, eThr_eq, ↓xS1_mk, ↓xSI_mk, ↓xSR_mk, ↓xLI_0, ↓xLI_s, ↓xLR_0, ↓xLR_s, vRef_ref, vRef_null, vRef_rf, cat_int, cat_ref, cat_null, cat_rf, rf_some, rf_none, rf_null, rf_eq, rf_ref, ref_rf, ref_null, ref_ref, xOk_0, xOk_1, xOk_2r, xOk_2n, xOk_2f, vOpt_rf, vOpt_ref, vOpt_null, List.set_cons_zero, List.set_cons_succ, List.take_succ_cons, List.take_zero, List.drop_succ_cons, List.drop_zero, List.reverse_cons, List.reverse_nil, List.nil_append, List.cons_append, List.append_nil, List.length_cons, List.length_nil, List.map_cons, List.map_nil, List.sum_cons, List.sum_nil, Option.toList_some, Option.toList_none, xRecv_mk, true_and, and_true, true_implies, Nat.reduceAdd, Nat.reduceLeDiff, Nat.zero_le, Nat.le_refl, Nat.add_zero, Nat.zero_add, reduceIte, not_true_eq_false, not_false_eq_true, false_implies, and_self, implies_true, eq_self, Nat.reduceEqDiff, List.cons.injEq, xsn_1, xsn_2, false_and, and_false, or_false, false_or, or_true, true_or, xsn_3, xsn_4, mAst_1, mAst_2, mSet_1, mSet_2, bi_0, ↓spwX8_isSection, spcX8_isSection, ↓spwX8_in, spcX8_in, ↓spwX8_holds, spcX8_holds, ↓spwX8_held, spcX8_held]
  try simp only [xif_e]
  unfold oWater mHeld at h
  have h6 := @in_6 s
  repeat' (first | with_reducible apply And.intro | with_reducible intro _)
  all_goals grind (splits := 30) [bi]

def tbX8_most : List (Nat × xHint) := [(0, .aload_n 0, 0, 0, 0, []), (1, .aload_n 0, 0, 0, 0, []), (2, .iload_n 1, 1, 0, 0, []), (3, .invokevirtual 247, 0, 2, 9, []), (6, .ifCond .eq 7, 13, 0, 0, []), (9, .iconst 0, 0, 0, 0, []), (10, .goto 4, 14, 0, 0, []), (13, .iconst 1, 0, 0, 0, []), (14, .invokevirtual 183, 1, 2, 9, []), (17, .ifCond .eq 12, 29, 0, 0, []), (20, .aload_n 0, 0, 0, 0, []), (21, .iload_n 1, 1, 0, 0, []), (22, .iload_n 2, 2, 0, 0, []), (23, .invokevirtual 287, 2, 3, 9, []), (26, .goto 4, 30, 0, 0, []), (29, .iconst 0, 0, 0, 0, []), (30, .ireturn, 0, 0, 0, [])]
def clX8_most : List (Instr × Nat × Nat × Nat) := [(.invokevirtual 247, 0, 2, 9), (.invokevirtual 183, 1, 2, 9), (.invokevirtual 287, 2, 3, 9)]
def thX8_most : List (Nat × Nat) := []
theorem ckX8_most : tbX8_most.all (xRow RX8 cX8_most wsX8_most vwCl [] clX8_most thX8_most 3 (yX8_most.name == "<init>") (some .int)) = true := xRow_q 0xac030400a71f01b61c1b2a0c0099b700b6040400a703070099f700b61b2a2a 31 (by decide +kernel) (by decide +kernel)
theorem usX8_most : xUse wsX8_most vwCl [] = true := xUse_n
theorem tbX8_most_0 {k : Instr → Nat → Nat → Nat → List Nat → Prop} : xse (xFind tbX8_most 0) k = k (.aload_n 0) 0 0 0 [] := rfl
theorem tbX8_most_1 {k : Instr → Nat → Nat → Nat → List Nat → Prop} : xse (xFind tbX8_most 1) k = k (.aload_n 0) 0 0 0 [] := rfl
theorem tbX8_most_2 {k : Instr → Nat → Nat → Nat → List Nat → Prop} : xse (xFind tbX8_most 2) k = k (.iload_n 1) 1 0 0 [] := rfl
theorem tbX8_most_3 {k : Instr → Nat → Nat → Nat → List Nat → Prop} : xse (xFind tbX8_most 3) k = k (.invokevirtual 247) 0 2 9 [] := rfl
theorem tbX8_most_6 {k : Instr → Nat → Nat → Nat → List Nat → Prop} : xse (xFind tbX8_most 6) k = k (.ifCond .eq 7) 13 0 0 [] := rfl
theorem tbX8_most_9 {k : Instr → Nat → Nat → Nat → List Nat → Prop} : xse (xFind tbX8_most 9) k = k (.iconst 0) 0 0 0 [] := rfl
theorem tbX8_most_10 {k : Instr → Nat → Nat → Nat → List Nat → Prop} : xse (xFind tbX8_most 10) k = k (.goto 4) 14 0 0 [] := rfl
theorem tbX8_most_13 {k : Instr → Nat → Nat → Nat → List Nat → Prop} : xse (xFind tbX8_most 13) k = k (.iconst 1) 0 0 0 [] := rfl
theorem tbX8_most_14 {k : Instr → Nat → Nat → Nat → List Nat → Prop} : xse (xFind tbX8_most 14) k = k (.invokevirtual 183) 1 2 9 [] := rfl
theorem tbX8_most_17 {k : Instr → Nat → Nat → Nat → List Nat → Prop} : xse (xFind tbX8_most 17) k = k (.ifCond .eq 12) 29 0 0 [] := rfl
theorem tbX8_most_20 {k : Instr → Nat → Nat → Nat → List Nat → Prop} : xse (xFind tbX8_most 20) k = k (.aload_n 0) 0 0 0 [] := rfl
theorem tbX8_most_21 {k : Instr → Nat → Nat → Nat → List Nat → Prop} : xse (xFind tbX8_most 21) k = k (.iload_n 1) 1 0 0 [] := rfl
theorem tbX8_most_22 {k : Instr → Nat → Nat → Nat → List Nat → Prop} : xse (xFind tbX8_most 22) k = k (.iload_n 2) 2 0 0 [] := rfl
theorem tbX8_most_23 {k : Instr → Nat → Nat → Nat → List Nat → Prop} : xse (xFind tbX8_most 23) k = k (.invokevirtual 287) 2 3 9 [] := rfl
theorem tbX8_most_26 {k : Instr → Nat → Nat → Nat → List Nat → Prop} : xse (xFind tbX8_most 26) k = k (.goto 4) 30 0 0 [] := rfl
theorem tbX8_most_29 {k : Instr → Nat → Nat → Nat → List Nat → Prop} : xse (xFind tbX8_most 29) k = k (.iconst 0) 0 0 0 [] := rfl
theorem tbX8_most_30 {k : Instr → Nat → Nat → Nat → List Nat → Prop} : xse (xFind tbX8_most 30) k = k (.ireturn) 0 0 0 [] := rfl

def spX8_most (aM : Nat → Nat) : xSp mS := (fun av M => (0, 0), fun av M K => ∃ (b : Int32) (u : Int32), av = [.ref (aM 0), .int b, .int u] ∧ ((u = 0 ∨ u = 1) ∧ ((M.1 29 = nI (nBt M) ∧ nBt M ≤ 6) ∧ K (rI (oMost M b u).1) (oMost M b u).2)))
theorem spcX8_most {av : List Value} {M : mS} {aM : Nat → Nat} : (spX8_most aM).1 av M = (0, 0) := rfl
theorem spwX8_most {M : mS} {aM : Nat → Nat} {K : xRes → mS → Prop} {b : Int32} {u : Int32} : (spX8_most aM).2 [.ref (aM 0), .int b, .int u] M K = ((u = 0 ∨ u = 1) ∧ ((M.1 29 = nI (nBt M) ∧ nBt M ≤ 6) ∧ K (rI (oMost M b u).1) (oMost M b u).2)) :=
  propext ⟨fun h => by
    simp only [spX8_most] at h
    obtain ⟨_, _, e, h⟩ := h
    simp only [List.cons.injEq, Value.int.injEq, Value.ref.injEq, rf_eq, and_true, true_and] at e
    obtain ⟨rfl, rfl⟩ := e
    exact h, fun h => ⟨_, _, rfl, h⟩⟩

def callX8_most (aM : Nat → Nat) : Nat → Option (xSp mS) := fun n => match n with | 0 => some (spX8_isBoat aM) | 1 => some (spX8_holds aM) | 2 => some (spX8_mostOf aM) | _ => none

theorem callX8_most_0 {aM : Nat → Nat} {k : xSp mS → Prop} : xcs (callX8_most aM 0) k = k (spX8_isBoat aM) := rfl

theorem callX8_most_1 {aM : Nat → Nat} {k : xSp mS → Prop} : xcs (callX8_most aM 1) k = k (spX8_holds aM) := rfl

theorem callX8_most_2 {aM : Nat → Nat} {k : xSp mS → Prop} : xcs (callX8_most aM 2) k = k (spX8_mostOf aM) := rfl

theorem crX8_most (l : Launch) (W9 : xWd) (aM : Nat → Nat) (hi : mInj aM) : xCallsOK l W9 (mI aM) (callX8_most aM) clX8_most RX8 wsX8_most 2 43 3 := by
  intro E A p e R s m args below meth c hI hF hL X
  exact List.forall_mem_cons.mpr ⟨⟨_, rfl, xCR_V X (by rw [hI]; exact (semX8_isBoat l W9 aM hi)) gX8_most_X8_isBoat rfl rfl (by decide +kernel) (by rw [hF, hL]; decide)⟩,
    List.forall_mem_cons.mpr ⟨⟨_, rfl, xCR_V X (by rw [hI]; exact (semX8_holds l W9 aM hi)) gX8_most_X8_holds rfl rfl (by decide +kernel) (by rw [hF, hL]; decide)⟩,
    List.forall_mem_cons.mpr ⟨⟨_, rfl, xCR_V X (by rw [hI]; exact (semX8_mostOf l W9 aM hi)) gX8_most_X8_mostOf rfl rfl (by decide +kernel) (by rw [hF, hL]; decide)⟩,
    fun _ h => nomatch h⟩⟩⟩

set_option maxHeartbeats 4000000 in
set_option maxRecDepth 20000 in
theorem semX8_most (l : Launch) (W9 : xWd) (aM : Nat → Nat) (hi : mInj aM) : xSem l W9 (mI aM) yX8_most wsX8_most 2 43 (spX8_most aM) := by
  refine xSem_of (call := callX8_most aM) (thrf := fun _ => "") (mI_law hi) (by decide +kernel) rfl ckX8_most usX8_most (crX8_most l W9 aM hi) xThrOK_nil ?_ ?_
  · intro av M KF h
    obtain ⟨b, u, rfl, h⟩ := h
    exact ⟨by intro v hv; simp only [List.mem_cons, List.not_mem_nil, or_false] at hv; rcases hv with rfl | rfl | rfl <;> first | rfl | exact cat_rf, Nat.le_of_ble_eq_true rfl⟩
  intro av M KF h G hG
  obtain ⟨b, u, rfl, h⟩ := h
  rw [show (spX8_most aM).1 _ M = _ from spcX8_most] at hG
  try dsimp only at hG
  change G 0 [some (.ref (aM 0)), some (.int b), some (.int u)] [] M 0 0
  obtain ⟨hz, hn, h⟩ := h
  refine xgo0 hG (fun fu hfu => ?_)
  clear hG
  simp only [↓callX8_most_0, ↓callX8_most_1, ↓callX8_most_2, ki_0, ki_1, misa, ↓vm_aload_n, ↓vm_goto, ↓vm_iconst, ↓vm_ifCond_eq, ↓vm_iload_n, ↓vm_invokevirtual, ↓vm_ireturn, ↓xc_2, ↓xc_3, ↓tbX8_most_0, ↓tbX8_most_1, ↓tbX8_most_2, ↓tbX8_most_3, ↓tbX8_most_6, ↓tbX8_most_9, ↓tbX8_most_10, ↓tbX8_most_13, ↓tbX8_most_14, ↓tbX8_most_17, ↓tbX8_most_20, ↓tbX8_most_21, ↓tbX8_most_22, ↓tbX8_most_23, ↓tbX8_most_26, ↓tbX8_most_29, ↓tbX8_most_30, hfu, xstep0, xJ1_hit, xJ1_go, xJ2_hit1, xJ2_hit2, xJ2_go, ↓xif_t, ↓xif_f, seval, ↓xca_eq, ↓xre_l, ↓xre_r, xmask_t, xmask_f, xmask_nil, ↓xst_eq, xX_eq, eI_eq, eMc_eq, eMs_eq, eF_eq, eThr_eq, ↓xS1_mk, ↓xSI_mk, ↓xSR_mk, ↓xLI_0, ↓xLI_s, ↓xLR_0, ↓xLR_s, vRef_ref, vRef_null, vRef_rf, cat_int, cat_ref, cat_null, cat_rf, rf_some, rf_none, rf_null, rf_eq, rf_ref, ref_rf, ref_null, ref_ref, xOk_0, xOk_1, xOk_2r, xOk_2n, xOk_2f, vOpt_rf, vOpt_ref, vOpt_null, List.set_cons_zero, List.set_cons_succ, List.take_succ_cons, List.take_zero, List.drop_succ_cons, List.drop_zero, List.reverse_cons, List.reverse_nil, List.nil_append, List.cons_append, List.append_nil, List.length_cons, List.length_nil, List.map_cons, List.map_nil, List.sum_cons, List.sum_nil, Option.toList_some, Option.toList_none, xRecv_mk, true_and, and_true, true_implies, Nat.reduceAdd, Nat.reduceLeDiff, Nat.zero_le, Nat.le_refl, Nat.add_zero, Nat.zero_add, reduceIte, not_true_eq_false, not_false_eq_true, false_implies, and_self, implies_true, eq_self, Nat.reduceEqDiff, List.cons.injEq, xsn_1, xsn_2, false_and, and_false, or_false, false_or, or_true, true_or, xsn_3, xsn_4, mAst_1, mAst_2, mSet_1, mSet_2, bi_0, ↓spwX8_isBoat, spcX8_isBoat, ↓spwX8_holds, spcX8_holds, ↓spwX8_mostOf, spcX8_mostOf]
  try simp only [xif_e]
  unfold oMost at h
  have h7 := @in_bt M b hn
  repeat' (first | with_reducible apply And.intro | with_reducible intro _)
  all_goals grind (splits := 30) [bi]

def tbX8_bars : List (Nat × xHint) := [(0, .aload_n 0, 0, 0, 0, []), (1, .aload_n 0, 0, 0, 0, []), (2, .iload_n 1, 1, 0, 0, []), (3, .invokevirtual 247, 0, 2, 9, []), (6, .ifCond .eq 7, 13, 0, 0, []), (9, .iconst 0, 0, 0, 0, []), (10, .goto 4, 14, 0, 0, []), (13, .iconst 1, 0, 0, 0, []), (14, .invokevirtual 183, 1, 2, 9, []), (17, .ifCond .ne 5, 22, 0, 0, []), (20, .iconst 0, 0, 0, 0, []), (21, .ireturn, 0, 0, 0, []), (22, .aload_n 0, 0, 0, 0, []), (23, .iload_n 1, 1, 0, 0, []), (24, .invokevirtual 250, 2, 2, 9, []), (27, .ifCond .eq 13, 40, 0, 0, []), (30, .aload_n 0, 0, 0, 0, []), (31, .getfield 101, 9, 37, 2, []), (34, .iload_n 1, 1, 0, 0, []), (35, .iaload, 37, 0, 0, []), (36, .iconst (-1), 0, 0, 0, []), (37, .if_icmp .ne 7, 44, 0, 0, []), (40, .iconst (-1), 0, 0, 0, []), (41, .goto 8, 49, 0, 0, []), (44, .aload_n 0, 0, 0, 0, []), (45, .iload_n 1, 1, 0, 0, []), (46, .invokevirtual 322, 3, 2, 9, []), (49, .ireturn, 0, 0, 0, [])]
def clX8_bars : List (Instr × Nat × Nat × Nat) := [(.invokevirtual 247, 0, 2, 9), (.invokevirtual 183, 1, 2, 9), (.invokevirtual 250, 2, 2, 9), (.invokevirtual 322, 3, 2, 9)]
def thX8_bars : List (Nat × Nat) := []
theorem ckX8_bars : tbX8_bars.all (xRow RX8 cX8_bars wsX8_bars vwCl [9] clX8_bars thX8_bars 2 (yX8_bars.name == "<init>") (some .int)) = true := xRow_q 0xac4201b61b2a0800a7020700a0022e1b6500b42a0d0099fa00b61b2aac0305009ab700b6040400a703070099f700b61b2a2a 50 (by decide +kernel) (by decide +kernel)
theorem usX8_bars : xUse wsX8_bars vwCl [9] = true := xUse_g rfl (lw_good lwl_X8_bars lwl_X80 (by decide +kernel)) xUse_n
theorem tbX8_bars_0 {k : Instr → Nat → Nat → Nat → List Nat → Prop} : xse (xFind tbX8_bars 0) k = k (.aload_n 0) 0 0 0 [] := rfl
theorem tbX8_bars_1 {k : Instr → Nat → Nat → Nat → List Nat → Prop} : xse (xFind tbX8_bars 1) k = k (.aload_n 0) 0 0 0 [] := rfl
theorem tbX8_bars_2 {k : Instr → Nat → Nat → Nat → List Nat → Prop} : xse (xFind tbX8_bars 2) k = k (.iload_n 1) 1 0 0 [] := rfl
theorem tbX8_bars_3 {k : Instr → Nat → Nat → Nat → List Nat → Prop} : xse (xFind tbX8_bars 3) k = k (.invokevirtual 247) 0 2 9 [] := rfl
theorem tbX8_bars_6 {k : Instr → Nat → Nat → Nat → List Nat → Prop} : xse (xFind tbX8_bars 6) k = k (.ifCond .eq 7) 13 0 0 [] := rfl
theorem tbX8_bars_9 {k : Instr → Nat → Nat → Nat → List Nat → Prop} : xse (xFind tbX8_bars 9) k = k (.iconst 0) 0 0 0 [] := rfl
theorem tbX8_bars_10 {k : Instr → Nat → Nat → Nat → List Nat → Prop} : xse (xFind tbX8_bars 10) k = k (.goto 4) 14 0 0 [] := rfl
theorem tbX8_bars_13 {k : Instr → Nat → Nat → Nat → List Nat → Prop} : xse (xFind tbX8_bars 13) k = k (.iconst 1) 0 0 0 [] := rfl
theorem tbX8_bars_14 {k : Instr → Nat → Nat → Nat → List Nat → Prop} : xse (xFind tbX8_bars 14) k = k (.invokevirtual 183) 1 2 9 [] := rfl
theorem tbX8_bars_17 {k : Instr → Nat → Nat → Nat → List Nat → Prop} : xse (xFind tbX8_bars 17) k = k (.ifCond .ne 5) 22 0 0 [] := rfl
theorem tbX8_bars_20 {k : Instr → Nat → Nat → Nat → List Nat → Prop} : xse (xFind tbX8_bars 20) k = k (.iconst 0) 0 0 0 [] := rfl
theorem tbX8_bars_21 {k : Instr → Nat → Nat → Nat → List Nat → Prop} : xse (xFind tbX8_bars 21) k = k (.ireturn) 0 0 0 [] := rfl
theorem tbX8_bars_22 {k : Instr → Nat → Nat → Nat → List Nat → Prop} : xse (xFind tbX8_bars 22) k = k (.aload_n 0) 0 0 0 [] := rfl
theorem tbX8_bars_23 {k : Instr → Nat → Nat → Nat → List Nat → Prop} : xse (xFind tbX8_bars 23) k = k (.iload_n 1) 1 0 0 [] := rfl
theorem tbX8_bars_24 {k : Instr → Nat → Nat → Nat → List Nat → Prop} : xse (xFind tbX8_bars 24) k = k (.invokevirtual 250) 2 2 9 [] := rfl
theorem tbX8_bars_27 {k : Instr → Nat → Nat → Nat → List Nat → Prop} : xse (xFind tbX8_bars 27) k = k (.ifCond .eq 13) 40 0 0 [] := rfl
theorem tbX8_bars_30 {k : Instr → Nat → Nat → Nat → List Nat → Prop} : xse (xFind tbX8_bars 30) k = k (.aload_n 0) 0 0 0 [] := rfl
theorem tbX8_bars_31 {k : Instr → Nat → Nat → Nat → List Nat → Prop} : xse (xFind tbX8_bars 31) k = k (.getfield 101) 9 37 2 [] := rfl
theorem tbX8_bars_34 {k : Instr → Nat → Nat → Nat → List Nat → Prop} : xse (xFind tbX8_bars 34) k = k (.iload_n 1) 1 0 0 [] := rfl
theorem tbX8_bars_35 {k : Instr → Nat → Nat → Nat → List Nat → Prop} : xse (xFind tbX8_bars 35) k = k (.iaload) 37 0 0 [] := rfl
theorem tbX8_bars_36 {k : Instr → Nat → Nat → Nat → List Nat → Prop} : xse (xFind tbX8_bars 36) k = k (.iconst (-1)) 0 0 0 [] := rfl
theorem tbX8_bars_37 {k : Instr → Nat → Nat → Nat → List Nat → Prop} : xse (xFind tbX8_bars 37) k = k (.if_icmp .ne 7) 44 0 0 [] := rfl
theorem tbX8_bars_40 {k : Instr → Nat → Nat → Nat → List Nat → Prop} : xse (xFind tbX8_bars 40) k = k (.iconst (-1)) 0 0 0 [] := rfl
theorem tbX8_bars_41 {k : Instr → Nat → Nat → Nat → List Nat → Prop} : xse (xFind tbX8_bars 41) k = k (.goto 8) 49 0 0 [] := rfl
theorem tbX8_bars_44 {k : Instr → Nat → Nat → Nat → List Nat → Prop} : xse (xFind tbX8_bars 44) k = k (.aload_n 0) 0 0 0 [] := rfl
theorem tbX8_bars_45 {k : Instr → Nat → Nat → Nat → List Nat → Prop} : xse (xFind tbX8_bars 45) k = k (.iload_n 1) 1 0 0 [] := rfl
theorem tbX8_bars_46 {k : Instr → Nat → Nat → Nat → List Nat → Prop} : xse (xFind tbX8_bars 46) k = k (.invokevirtual 322) 3 2 9 [] := rfl
theorem tbX8_bars_49 {k : Instr → Nat → Nat → Nat → List Nat → Prop} : xse (xFind tbX8_bars 49) k = k (.ireturn) 0 0 0 [] := rfl

def spX8_bars (aM : Nat → Nat) : xSp mS := (fun av M => (0, 0), fun av M K => ∃ (b : Int32), av = [.ref (aM 0), .int b] ∧ ((M.1 29 = nI (nBt M) ∧ nBt M ≤ 6) ∧ mBs (mSet M 0 0) (nBt (mSet M 0 0)) ∧ (iBt M b → M.2 34 b.toNatClampNeg = -1 → ¬ M.2 37 b.toNatClampNeg = -1 → mTk (mSet M 0 0) b.toNatClampNeg ∧ vp_in (mNext (mSet M 0 0) b) 7 ∧ (M.2 15 (mNext (mSet M 0 0) b).toNatClampNeg = 0 ∨ M.2 15 (mNext (mSet M 0 0) b).toNatClampNeg = 1)) ∧ K (rI (oBars M b).1) (oBars M b).2))
theorem spcX8_bars {av : List Value} {M : mS} {aM : Nat → Nat} : (spX8_bars aM).1 av M = (0, 0) := rfl
theorem spwX8_bars {M : mS} {aM : Nat → Nat} {K : xRes → mS → Prop} {b : Int32} : (spX8_bars aM).2 [.ref (aM 0), .int b] M K = ((M.1 29 = nI (nBt M) ∧ nBt M ≤ 6) ∧ mBs (mSet M 0 0) (nBt (mSet M 0 0)) ∧ (iBt M b → M.2 34 b.toNatClampNeg = -1 → ¬ M.2 37 b.toNatClampNeg = -1 → mTk (mSet M 0 0) b.toNatClampNeg ∧ vp_in (mNext (mSet M 0 0) b) 7 ∧ (M.2 15 (mNext (mSet M 0 0) b).toNatClampNeg = 0 ∨ M.2 15 (mNext (mSet M 0 0) b).toNatClampNeg = 1)) ∧ K (rI (oBars M b).1) (oBars M b).2) :=
  propext ⟨fun h => by
    simp only [spX8_bars] at h
    obtain ⟨_, e, h⟩ := h
    simp only [List.cons.injEq, Value.int.injEq, Value.ref.injEq, rf_eq, and_true, true_and] at e
    obtain rfl := e
    exact h, fun h => ⟨_, rfl, h⟩⟩

def callX8_bars (aM : Nat → Nat) : Nat → Option (xSp mS) := fun n => match n with | 0 => some (spX8_isBoat aM) | 1 => some (spX8_holds aM) | 2 => some (spX8_stands aM) | 3 => some (spX8_barsNow aM) | _ => none

theorem callX8_bars_0 {aM : Nat → Nat} {k : xSp mS → Prop} : xcs (callX8_bars aM 0) k = k (spX8_isBoat aM) := rfl

theorem callX8_bars_1 {aM : Nat → Nat} {k : xSp mS → Prop} : xcs (callX8_bars aM 1) k = k (spX8_holds aM) := rfl

theorem callX8_bars_2 {aM : Nat → Nat} {k : xSp mS → Prop} : xcs (callX8_bars aM 2) k = k (spX8_stands aM) := rfl

theorem callX8_bars_3 {aM : Nat → Nat} {k : xSp mS → Prop} : xcs (callX8_bars aM 3) k = k (spX8_barsNow aM) := rfl

theorem crX8_bars (l : Launch) (W9 : xWd) (aM : Nat → Nat) (hi : mInj aM) : xCallsOK l W9 (mI aM) (callX8_bars aM) clX8_bars RX8 wsX8_bars 6 143 2 := by
  intro E A p e R s m args below meth c hI hF hL X
  exact List.forall_mem_cons.mpr ⟨⟨_, rfl, xCR_V X (by rw [hI]; exact (semX8_isBoat l W9 aM hi)) gX8_bars_X8_isBoat rfl rfl (by decide +kernel) (by rw [hF, hL]; decide)⟩,
    List.forall_mem_cons.mpr ⟨⟨_, rfl, xCR_V X (by rw [hI]; exact (semX8_holds l W9 aM hi)) gX8_bars_X8_holds rfl rfl (by decide +kernel) (by rw [hF, hL]; decide)⟩,
    List.forall_mem_cons.mpr ⟨⟨_, rfl, xCR_V X (by rw [hI]; exact (semX8_stands l W9 aM hi)) gX8_bars_X8_stands rfl rfl (by decide +kernel) (by rw [hF, hL]; decide)⟩,
    List.forall_mem_cons.mpr ⟨⟨_, rfl, xCR_V X (by rw [hI]; exact (semX8_barsNow l W9 aM hi)) gX8_bars_X8_barsNow rfl rfl (by decide +kernel) (by rw [hF, hL]; decide)⟩,
    fun _ h => nomatch h⟩⟩⟩⟩

set_option maxHeartbeats 4000000 in
set_option maxRecDepth 20000 in
theorem semX8_bars (l : Launch) (W9 : xWd) (aM : Nat → Nat) (hi : mInj aM) : xSem l W9 (mI aM) yX8_bars wsX8_bars 6 143 (spX8_bars aM) := by
  refine xSem_of (call := callX8_bars aM) (thrf := fun _ => "") (mI_law hi) (by decide +kernel) rfl ckX8_bars usX8_bars (crX8_bars l W9 aM hi) xThrOK_nil ?_ ?_
  · intro av M KF h
    obtain ⟨b, rfl, h⟩ := h
    exact ⟨by intro v hv; simp only [List.mem_cons, List.not_mem_nil, or_false] at hv; rcases hv with rfl | rfl <;> first | rfl | exact cat_rf, Nat.le_of_ble_eq_true rfl⟩
  intro av M KF h G hG
  obtain ⟨b, rfl, h⟩ := h
  rw [show (spX8_bars aM).1 _ M = _ from spcX8_bars] at hG
  try dsimp only at hG
  change G 0 [some (.ref (aM 0)), some (.int b)] [] M 0 0
  obtain ⟨hn, hB, hb, h⟩ := h
  refine xgo0 hG (fun fu hfu => ?_)
  clear hG
  simp only [↓callX8_bars_0, ↓callX8_bars_1, ↓callX8_bars_2, ↓callX8_bars_3, ki_0, ki_1, ki_m1, ↓ma_37, ↓mg_37, misa, ↓vm_aload_n, ↓vm_getfield, ↓vm_goto, ↓vm_iaload, ↓vm_iconst, ↓vm_ifCond_eq, ↓vm_ifCond_ne, ↓vm_if_icmp_ne, ↓vm_iload_n, ↓vm_invokevirtual, ↓vm_ireturn, ↓xc_2, ↓tbX8_bars_0, ↓tbX8_bars_1, ↓tbX8_bars_2, ↓tbX8_bars_3, ↓tbX8_bars_6, ↓tbX8_bars_9, ↓tbX8_bars_10, ↓tbX8_bars_13, ↓tbX8_bars_14, ↓tbX8_bars_17, ↓tbX8_bars_20, ↓tbX8_bars_21, ↓tbX8_bars_22, ↓tbX8_bars_23, ↓tbX8_bars_24, ↓tbX8_bars_27, ↓tbX8_bars_30, ↓tbX8_bars_31, ↓tbX8_bars_34, ↓tbX8_bars_35, ↓tbX8_bars_36, ↓tbX8_bars_37, ↓tbX8_bars_40, ↓tbX8_bars_41, ↓tbX8_bars_44, ↓tbX8_bars_45, ↓tbX8_bars_46, ↓tbX8_bars_49, hfu, xstep0, xJ1_hit, xJ1_go, xJ2_hit1, xJ2_hit2, xJ2_go, ↓xif_t, ↓xif_f, seval, ↓xca_eq, ↓xre_l, ↓xre_r, xmask_t, xmask_f, xmask_nil, ↓xst_eq, xX_eq, eI_eq, eMc_eq, eMs_eq, eF_eq, eThr_eq, ↓xS1_mk, ↓xSI_mk, ↓xSR_mk, ↓xLI_0, ↓xLI_s, ↓xLR_0, ↓xLR_s, vRef_ref, vRef_null, vRef_rf, cat_int, cat_ref, cat_null, cat_rf, rf_some, rf_none, rf_null, rf_eq, rf_ref, ref_rf, ref_null, ref_ref, xOk_0, xOk_1, xOk_2r, xOk_2n, xOk_2f, vOpt_rf, vOpt_ref, vOpt_null, List.set_cons_zero, List.set_cons_succ, List.take_succ_cons, List.take_zero, List.drop_succ_cons, List.drop_zero, List.reverse_cons, List.reverse_nil, List.nil_append, List.cons_append, List.append_nil, List.length_cons, List.length_nil, List.map_cons, List.map_nil, List.sum_cons, List.sum_nil, Option.toList_some, Option.toList_none, xRecv_mk, true_and, and_true, true_implies, Nat.reduceAdd, Nat.reduceLeDiff, Nat.zero_le, Nat.le_refl, Nat.add_zero, Nat.zero_add, reduceIte, not_true_eq_false, not_false_eq_true, false_implies, and_self, implies_true, eq_self, Nat.reduceEqDiff, List.cons.injEq, xsn_1, xsn_2, false_and, and_false, or_false, false_or, or_true, true_or, xsn_3, xsn_4, mAst_1, mAst_2, mSet_1, mSet_2, bi_0, hB, ↓spwX8_isBoat, spcX8_isBoat, ↓spwX8_holds, spcX8_holds, ↓spwX8_stands, spcX8_stands, ↓spwX8_barsNow, spcX8_barsNow]
  try simp only [xif_e]
  unfold oBars at h
  unfold iBt at hb
  have h7 := @in_bt M b hn
  repeat' (first | with_reducible apply And.intro | with_reducible intro _)
  all_goals grind (splits := 30) [bi]

def tbX8_told : List (Nat × xHint) := [(0, .iload_n 2, 2, 0, 0, []), (1, .tableswitch 146 0 9 #[55, 74, 81, 88, 95, 102, 109, 115, 121, 127], 147, 0, 0, [56, 75, 82, 89, 96, 103, 110, 116, 122, 128]), (56, .aload_n 0, 0, 0, 0, []), (57, .iload_n 1, 1, 0, 0, []), (58, .invokevirtual 250, 0, 2, 9, []), (61, .ifCond .eq 12, 73, 0, 0, []), (64, .aload_n 0, 0, 0, 0, []), (65, .getfield 89, 9, 33, 2, []), (68, .iload_n 1, 1, 0, 0, []), (69, .iaload, 33, 0, 0, []), (70, .goto 4, 74, 0, 0, []), (73, .iconst (-1), 0, 0, 0, []), (74, .ireturn, 0, 0, 0, []), (75, .aload_n 0, 0, 0, 0, []), (76, .getfield 92, 9, 34, 2, []), (79, .iload_n 1, 1, 0, 0, []), (80, .iaload, 34, 0, 0, []), (81, .ireturn, 0, 0, 0, []), (82, .aload_n 0, 0, 0, 0, []), (83, .getfield 101, 9, 37, 2, []), (86, .iload_n 1, 1, 0, 0, []), (87, .iaload, 37, 0, 0, []), (88, .ireturn, 0, 0, 0, []), (89, .aload_n 0, 0, 0, 0, []), (90, .getfield 86, 9, 32, 2, []), (93, .iload_n 1, 1, 0, 0, []), (94, .iaload, 32, 0, 0, []), (95, .ireturn, 0, 0, 0, []), (96, .aload_n 0, 0, 0, 0, []), (97, .getfield 107, 9, 39, 2, []), (100, .iload_n 1, 1, 0, 0, []), (101, .iaload, 39, 0, 0, []), (102, .ireturn, 0, 0, 0, []), (103, .aload_n 0, 0, 0, 0, []), (104, .getfield 116, 9, 42, 2, []), (107, .iload_n 1, 1, 0, 0, []), (108, .iaload, 42, 0, 0, []), (109, .ireturn, 0, 0, 0, []), (110, .aload_n 0, 0, 0, 0, []), (111, .iload_n 1, 1, 0, 0, []), (112, .invokevirtual 284, 1, 2, 9, []), (115, .ireturn, 0, 0, 0, []), (116, .aload_n 0, 0, 0, 0, []), (117, .iload_n 1, 1, 0, 0, []), (118, .invokevirtual 278, 2, 2, 9, []), (121, .ireturn, 0, 0, 0, []), (122, .aload_n 0, 0, 0, 0, []), (123, .iload_n 1, 1, 0, 0, []), (124, .invokevirtual 281, 3, 2, 9, []), (127, .ireturn, 0, 0, 0, []), (128, .aload_n 0, 0, 0, 0, []), (129, .iload_n 1, 1, 0, 0, []), (130, .invokevirtual 250, 0, 2, 9, []), (133, .ifCond .eq 7, 140, 0, 0, []), (136, .iconst 0, 0, 0, 0, []), (137, .goto 9, 146, 0, 0, []), (140, .aload_n 0, 0, 0, 0, []), (141, .getfield 98, 9, 36, 2, []), (144, .iload_n 1, 1, 0, 0, []), (145, .iaload, 36, 0, 0, []), (146, .ireturn, 0, 0, 0, []), (147, .aload_n 0, 0, 0, 0, []), (148, .getfield 119, 9, 43, 2, []), (151, .iload_n 1, 1, 0, 0, []), (152, .iaload, 43, 0, 0, []), (153, .ireturn, 0, 0, 0, [])]
def clX8_told : List (Instr × Nat × Nat × Nat) := [(.invokevirtual 250, 0, 2, 9), (.invokevirtual 284, 1, 2, 9), (.invokevirtual 278, 2, 2, 9), (.invokevirtual 281, 3, 2, 9)]
def thX8_told : List (Nat × Nat) := []
theorem ckX8_told : tbX8_told.all (xRow RX8 cX8_told wsX8_told vwCl [9] clX8_told thX8_told 3 (yX8_told.name == "<init>") (some .int)) = true := xRow_q 0xac2e1b7700b42aac2e1b6200b42a0900a703070099fa00b61b2aac1901b61b2aac1601b61b2aac1c01b61b2aac2e1b7400b42aac2e1b6b00b42aac2e1b5600b42aac2e1b6500b42aac2e1b5c00b42aac020400a72e1b5900b42a0c0099fa00b61b2a7f00000079000000730000006d000000660000005f00000058000000510000004a000000370000000900000000000000920000000000aa1c 154 (by decide +kernel) (by decide +kernel)
theorem usX8_told : xUse wsX8_told vwCl [9] = true := xUse_g rfl (lw_good lwl_X8_told lwl_X80 (by decide +kernel)) xUse_n
theorem tbX8_told_0 {k : Instr → Nat → Nat → Nat → List Nat → Prop} : xse (xFind tbX8_told 0) k = k (.iload_n 2) 2 0 0 [] := rfl
theorem tbX8_told_1 {k : Instr → Nat → Nat → Nat → List Nat → Prop} : xse (xFind tbX8_told 1) k = k (.tableswitch 146 0 9 #[55, 74, 81, 88, 95, 102, 109, 115, 121, 127]) 147 0 0 [56, 75, 82, 89, 96, 103, 110, 116, 122, 128] := rfl
theorem tbX8_told_56 {k : Instr → Nat → Nat → Nat → List Nat → Prop} : xse (xFind tbX8_told 56) k = k (.aload_n 0) 0 0 0 [] := rfl
theorem tbX8_told_57 {k : Instr → Nat → Nat → Nat → List Nat → Prop} : xse (xFind tbX8_told 57) k = k (.iload_n 1) 1 0 0 [] := rfl
theorem tbX8_told_58 {k : Instr → Nat → Nat → Nat → List Nat → Prop} : xse (xFind tbX8_told 58) k = k (.invokevirtual 250) 0 2 9 [] := rfl
theorem tbX8_told_61 {k : Instr → Nat → Nat → Nat → List Nat → Prop} : xse (xFind tbX8_told 61) k = k (.ifCond .eq 12) 73 0 0 [] := rfl
theorem tbX8_told_64 {k : Instr → Nat → Nat → Nat → List Nat → Prop} : xse (xFind tbX8_told 64) k = k (.aload_n 0) 0 0 0 [] := rfl
theorem tbX8_told_65 {k : Instr → Nat → Nat → Nat → List Nat → Prop} : xse (xFind tbX8_told 65) k = k (.getfield 89) 9 33 2 [] := rfl
theorem tbX8_told_68 {k : Instr → Nat → Nat → Nat → List Nat → Prop} : xse (xFind tbX8_told 68) k = k (.iload_n 1) 1 0 0 [] := rfl
theorem tbX8_told_69 {k : Instr → Nat → Nat → Nat → List Nat → Prop} : xse (xFind tbX8_told 69) k = k (.iaload) 33 0 0 [] := rfl
theorem tbX8_told_70 {k : Instr → Nat → Nat → Nat → List Nat → Prop} : xse (xFind tbX8_told 70) k = k (.goto 4) 74 0 0 [] := rfl
theorem tbX8_told_73 {k : Instr → Nat → Nat → Nat → List Nat → Prop} : xse (xFind tbX8_told 73) k = k (.iconst (-1)) 0 0 0 [] := rfl
theorem tbX8_told_74 {k : Instr → Nat → Nat → Nat → List Nat → Prop} : xse (xFind tbX8_told 74) k = k (.ireturn) 0 0 0 [] := rfl
theorem tbX8_told_75 {k : Instr → Nat → Nat → Nat → List Nat → Prop} : xse (xFind tbX8_told 75) k = k (.aload_n 0) 0 0 0 [] := rfl
theorem tbX8_told_76 {k : Instr → Nat → Nat → Nat → List Nat → Prop} : xse (xFind tbX8_told 76) k = k (.getfield 92) 9 34 2 [] := rfl
theorem tbX8_told_79 {k : Instr → Nat → Nat → Nat → List Nat → Prop} : xse (xFind tbX8_told 79) k = k (.iload_n 1) 1 0 0 [] := rfl
theorem tbX8_told_80 {k : Instr → Nat → Nat → Nat → List Nat → Prop} : xse (xFind tbX8_told 80) k = k (.iaload) 34 0 0 [] := rfl
theorem tbX8_told_81 {k : Instr → Nat → Nat → Nat → List Nat → Prop} : xse (xFind tbX8_told 81) k = k (.ireturn) 0 0 0 [] := rfl
theorem tbX8_told_82 {k : Instr → Nat → Nat → Nat → List Nat → Prop} : xse (xFind tbX8_told 82) k = k (.aload_n 0) 0 0 0 [] := rfl
theorem tbX8_told_83 {k : Instr → Nat → Nat → Nat → List Nat → Prop} : xse (xFind tbX8_told 83) k = k (.getfield 101) 9 37 2 [] := rfl
theorem tbX8_told_86 {k : Instr → Nat → Nat → Nat → List Nat → Prop} : xse (xFind tbX8_told 86) k = k (.iload_n 1) 1 0 0 [] := rfl
theorem tbX8_told_87 {k : Instr → Nat → Nat → Nat → List Nat → Prop} : xse (xFind tbX8_told 87) k = k (.iaload) 37 0 0 [] := rfl
theorem tbX8_told_88 {k : Instr → Nat → Nat → Nat → List Nat → Prop} : xse (xFind tbX8_told 88) k = k (.ireturn) 0 0 0 [] := rfl
theorem tbX8_told_89 {k : Instr → Nat → Nat → Nat → List Nat → Prop} : xse (xFind tbX8_told 89) k = k (.aload_n 0) 0 0 0 [] := rfl
theorem tbX8_told_90 {k : Instr → Nat → Nat → Nat → List Nat → Prop} : xse (xFind tbX8_told 90) k = k (.getfield 86) 9 32 2 [] := rfl
theorem tbX8_told_93 {k : Instr → Nat → Nat → Nat → List Nat → Prop} : xse (xFind tbX8_told 93) k = k (.iload_n 1) 1 0 0 [] := rfl
theorem tbX8_told_94 {k : Instr → Nat → Nat → Nat → List Nat → Prop} : xse (xFind tbX8_told 94) k = k (.iaload) 32 0 0 [] := rfl
theorem tbX8_told_95 {k : Instr → Nat → Nat → Nat → List Nat → Prop} : xse (xFind tbX8_told 95) k = k (.ireturn) 0 0 0 [] := rfl
theorem tbX8_told_96 {k : Instr → Nat → Nat → Nat → List Nat → Prop} : xse (xFind tbX8_told 96) k = k (.aload_n 0) 0 0 0 [] := rfl
theorem tbX8_told_97 {k : Instr → Nat → Nat → Nat → List Nat → Prop} : xse (xFind tbX8_told 97) k = k (.getfield 107) 9 39 2 [] := rfl
theorem tbX8_told_100 {k : Instr → Nat → Nat → Nat → List Nat → Prop} : xse (xFind tbX8_told 100) k = k (.iload_n 1) 1 0 0 [] := rfl
theorem tbX8_told_101 {k : Instr → Nat → Nat → Nat → List Nat → Prop} : xse (xFind tbX8_told 101) k = k (.iaload) 39 0 0 [] := rfl
theorem tbX8_told_102 {k : Instr → Nat → Nat → Nat → List Nat → Prop} : xse (xFind tbX8_told 102) k = k (.ireturn) 0 0 0 [] := rfl
theorem tbX8_told_103 {k : Instr → Nat → Nat → Nat → List Nat → Prop} : xse (xFind tbX8_told 103) k = k (.aload_n 0) 0 0 0 [] := rfl
theorem tbX8_told_104 {k : Instr → Nat → Nat → Nat → List Nat → Prop} : xse (xFind tbX8_told 104) k = k (.getfield 116) 9 42 2 [] := rfl
theorem tbX8_told_107 {k : Instr → Nat → Nat → Nat → List Nat → Prop} : xse (xFind tbX8_told 107) k = k (.iload_n 1) 1 0 0 [] := rfl
theorem tbX8_told_108 {k : Instr → Nat → Nat → Nat → List Nat → Prop} : xse (xFind tbX8_told 108) k = k (.iaload) 42 0 0 [] := rfl
theorem tbX8_told_109 {k : Instr → Nat → Nat → Nat → List Nat → Prop} : xse (xFind tbX8_told 109) k = k (.ireturn) 0 0 0 [] := rfl
theorem tbX8_told_110 {k : Instr → Nat → Nat → Nat → List Nat → Prop} : xse (xFind tbX8_told 110) k = k (.aload_n 0) 0 0 0 [] := rfl
theorem tbX8_told_111 {k : Instr → Nat → Nat → Nat → List Nat → Prop} : xse (xFind tbX8_told 111) k = k (.iload_n 1) 1 0 0 [] := rfl
theorem tbX8_told_112 {k : Instr → Nat → Nat → Nat → List Nat → Prop} : xse (xFind tbX8_told 112) k = k (.invokevirtual 284) 1 2 9 [] := rfl
theorem tbX8_told_115 {k : Instr → Nat → Nat → Nat → List Nat → Prop} : xse (xFind tbX8_told 115) k = k (.ireturn) 0 0 0 [] := rfl
theorem tbX8_told_116 {k : Instr → Nat → Nat → Nat → List Nat → Prop} : xse (xFind tbX8_told 116) k = k (.aload_n 0) 0 0 0 [] := rfl
theorem tbX8_told_117 {k : Instr → Nat → Nat → Nat → List Nat → Prop} : xse (xFind tbX8_told 117) k = k (.iload_n 1) 1 0 0 [] := rfl
theorem tbX8_told_118 {k : Instr → Nat → Nat → Nat → List Nat → Prop} : xse (xFind tbX8_told 118) k = k (.invokevirtual 278) 2 2 9 [] := rfl
theorem tbX8_told_121 {k : Instr → Nat → Nat → Nat → List Nat → Prop} : xse (xFind tbX8_told 121) k = k (.ireturn) 0 0 0 [] := rfl
theorem tbX8_told_122 {k : Instr → Nat → Nat → Nat → List Nat → Prop} : xse (xFind tbX8_told 122) k = k (.aload_n 0) 0 0 0 [] := rfl
theorem tbX8_told_123 {k : Instr → Nat → Nat → Nat → List Nat → Prop} : xse (xFind tbX8_told 123) k = k (.iload_n 1) 1 0 0 [] := rfl
theorem tbX8_told_124 {k : Instr → Nat → Nat → Nat → List Nat → Prop} : xse (xFind tbX8_told 124) k = k (.invokevirtual 281) 3 2 9 [] := rfl
theorem tbX8_told_127 {k : Instr → Nat → Nat → Nat → List Nat → Prop} : xse (xFind tbX8_told 127) k = k (.ireturn) 0 0 0 [] := rfl
theorem tbX8_told_128 {k : Instr → Nat → Nat → Nat → List Nat → Prop} : xse (xFind tbX8_told 128) k = k (.aload_n 0) 0 0 0 [] := rfl
theorem tbX8_told_129 {k : Instr → Nat → Nat → Nat → List Nat → Prop} : xse (xFind tbX8_told 129) k = k (.iload_n 1) 1 0 0 [] := rfl
theorem tbX8_told_130 {k : Instr → Nat → Nat → Nat → List Nat → Prop} : xse (xFind tbX8_told 130) k = k (.invokevirtual 250) 0 2 9 [] := rfl
theorem tbX8_told_133 {k : Instr → Nat → Nat → Nat → List Nat → Prop} : xse (xFind tbX8_told 133) k = k (.ifCond .eq 7) 140 0 0 [] := rfl
theorem tbX8_told_136 {k : Instr → Nat → Nat → Nat → List Nat → Prop} : xse (xFind tbX8_told 136) k = k (.iconst 0) 0 0 0 [] := rfl
theorem tbX8_told_137 {k : Instr → Nat → Nat → Nat → List Nat → Prop} : xse (xFind tbX8_told 137) k = k (.goto 9) 146 0 0 [] := rfl
theorem tbX8_told_140 {k : Instr → Nat → Nat → Nat → List Nat → Prop} : xse (xFind tbX8_told 140) k = k (.aload_n 0) 0 0 0 [] := rfl
theorem tbX8_told_141 {k : Instr → Nat → Nat → Nat → List Nat → Prop} : xse (xFind tbX8_told 141) k = k (.getfield 98) 9 36 2 [] := rfl
theorem tbX8_told_144 {k : Instr → Nat → Nat → Nat → List Nat → Prop} : xse (xFind tbX8_told 144) k = k (.iload_n 1) 1 0 0 [] := rfl
theorem tbX8_told_145 {k : Instr → Nat → Nat → Nat → List Nat → Prop} : xse (xFind tbX8_told 145) k = k (.iaload) 36 0 0 [] := rfl
theorem tbX8_told_146 {k : Instr → Nat → Nat → Nat → List Nat → Prop} : xse (xFind tbX8_told 146) k = k (.ireturn) 0 0 0 [] := rfl
theorem tbX8_told_147 {k : Instr → Nat → Nat → Nat → List Nat → Prop} : xse (xFind tbX8_told 147) k = k (.aload_n 0) 0 0 0 [] := rfl
theorem tbX8_told_148 {k : Instr → Nat → Nat → Nat → List Nat → Prop} : xse (xFind tbX8_told 148) k = k (.getfield 119) 9 43 2 [] := rfl
theorem tbX8_told_151 {k : Instr → Nat → Nat → Nat → List Nat → Prop} : xse (xFind tbX8_told 151) k = k (.iload_n 1) 1 0 0 [] := rfl
theorem tbX8_told_152 {k : Instr → Nat → Nat → Nat → List Nat → Prop} : xse (xFind tbX8_told 152) k = k (.iaload) 43 0 0 [] := rfl
theorem tbX8_told_153 {k : Instr → Nat → Nat → Nat → List Nat → Prop} : xse (xFind tbX8_told 153) k = k (.ireturn) 0 0 0 [] := rfl

def spX8_told (aM : Nat → Nat) : xSp mS := (fun av M => (0, 0), fun av M K => ∃ (b : Int32) (w : Int32), av = [.ref (aM 0), .int b, .int w] ∧ (vp_in b 6 ∧ mTk M b.toNatClampNeg ∧ K (rI (mTold M b w)) M))
theorem spcX8_told {av : List Value} {M : mS} {aM : Nat → Nat} : (spX8_told aM).1 av M = (0, 0) := rfl
theorem spwX8_told {M : mS} {aM : Nat → Nat} {K : xRes → mS → Prop} {b : Int32} {w : Int32} : (spX8_told aM).2 [.ref (aM 0), .int b, .int w] M K = (vp_in b 6 ∧ mTk M b.toNatClampNeg ∧ K (rI (mTold M b w)) M) :=
  propext ⟨fun h => by
    simp only [spX8_told] at h
    obtain ⟨_, _, e, h⟩ := h
    simp only [List.cons.injEq, Value.int.injEq, Value.ref.injEq, rf_eq, and_true, true_and] at e
    obtain ⟨rfl, rfl⟩ := e
    exact h, fun h => ⟨_, _, rfl, h⟩⟩

def callX8_told (aM : Nat → Nat) : Nat → Option (xSp mS) := fun n => match n with | 0 => some (spX8_stands aM) | 1 => some (spX8_weightOf aM) | 2 => some (spX8_draughtOf aM) | 3 => some (spX8_widthOf aM) | _ => none

theorem callX8_told_0 {aM : Nat → Nat} {k : xSp mS → Prop} : xcs (callX8_told aM 0) k = k (spX8_stands aM) := rfl

theorem callX8_told_1 {aM : Nat → Nat} {k : xSp mS → Prop} : xcs (callX8_told aM 1) k = k (spX8_weightOf aM) := rfl

theorem callX8_told_2 {aM : Nat → Nat} {k : xSp mS → Prop} : xcs (callX8_told aM 2) k = k (spX8_draughtOf aM) := rfl

theorem callX8_told_3 {aM : Nat → Nat} {k : xSp mS → Prop} : xcs (callX8_told aM 3) k = k (spX8_widthOf aM) := rfl

theorem crX8_told (l : Launch) (W9 : xWd) (aM : Nat → Nat) (hi : mInj aM) : xCallsOK l W9 (mI aM) (callX8_told aM) clX8_told RX8 wsX8_told 1 24 3 := by
  intro E A p e R s m args below meth c hI hF hL X
  exact List.forall_mem_cons.mpr ⟨⟨_, rfl, xCR_V X (by rw [hI]; exact (semX8_stands l W9 aM hi)) gX8_told_X8_stands rfl rfl (by decide +kernel) (by rw [hF, hL]; decide)⟩,
    List.forall_mem_cons.mpr ⟨⟨_, rfl, xCR_V X (by rw [hI]; exact (semX8_weightOf l W9 aM hi)) gX8_told_X8_weightOf rfl rfl (by decide +kernel) (by rw [hF, hL]; decide)⟩,
    List.forall_mem_cons.mpr ⟨⟨_, rfl, xCR_V X (by rw [hI]; exact (semX8_draughtOf l W9 aM hi)) gX8_told_X8_draughtOf rfl rfl (by decide +kernel) (by rw [hF, hL]; decide)⟩,
    List.forall_mem_cons.mpr ⟨⟨_, rfl, xCR_V X (by rw [hI]; exact (semX8_widthOf l W9 aM hi)) gX8_told_X8_widthOf rfl rfl (by decide +kernel) (by rw [hF, hL]; decide)⟩,
    fun _ h => nomatch h⟩⟩⟩⟩

set_option maxHeartbeats 4000000 in
set_option maxRecDepth 20000 in
theorem semX8_told (l : Launch) (W9 : xWd) (aM : Nat → Nat) (hi : mInj aM) : xSem l W9 (mI aM) yX8_told wsX8_told 1 24 (spX8_told aM) := by
  refine xSem_of (call := callX8_told aM) (thrf := fun _ => "") (mI_law hi) (by decide +kernel) rfl ckX8_told usX8_told (crX8_told l W9 aM hi) xThrOK_nil ?_ ?_
  · intro av M KF h
    obtain ⟨b, w, rfl, h⟩ := h
    exact ⟨by intro v hv; simp only [List.mem_cons, List.not_mem_nil, or_false] at hv; rcases hv with rfl | rfl | rfl <;> first | rfl | exact cat_rf, Nat.le_of_ble_eq_true rfl⟩
  intro av M KF h G hG
  obtain ⟨b, w, rfl, h⟩ := h
  rw [show (spX8_told aM).1 _ M = _ from spcX8_told] at hG
  try dsimp only at hG
  change G 0 [some (.ref (aM 0)), some (.int b), some (.int w)] [] M 0 0
  obtain ⟨h1, h2, h⟩ := h
  refine xgo0 hG (fun fu hfu => ?_)
  clear hG
  simp only [↓callX8_told_0, ↓callX8_told_1, ↓callX8_told_2, ↓callX8_told_3, ki_0, ki_m1, ↓ma_32, ↓ma_33, ↓ma_34, ↓ma_36, ↓ma_37, ↓ma_39, ↓ma_42, ↓ma_43, ↓mg_32, ↓mg_33, ↓mg_34, ↓mg_36, ↓mg_37, ↓mg_39, ↓mg_42, ↓mg_43, misa, ↓vm_aload_n, ↓vm_getfield, ↓vm_goto, ↓vm_iaload, ↓vm_iconst, ↓vm_ifCond_eq, ↓vm_iload_n, ↓vm_invokevirtual, ↓vm_ireturn, ↓vm_tableswitch, ↓xTs_cons, ↓xTs_nil, ↓xc_2, ↓tbX8_told_0, ↓tbX8_told_1, ↓tbX8_told_56, ↓tbX8_told_57, ↓tbX8_told_58, ↓tbX8_told_61, ↓tbX8_told_64, ↓tbX8_told_65, ↓tbX8_told_68, ↓tbX8_told_69, ↓tbX8_told_70, ↓tbX8_told_73, ↓tbX8_told_74, ↓tbX8_told_75, ↓tbX8_told_76, ↓tbX8_told_79, ↓tbX8_told_80, ↓tbX8_told_81, ↓tbX8_told_82, ↓tbX8_told_83, ↓tbX8_told_86, ↓tbX8_told_87, ↓tbX8_told_88, ↓tbX8_told_89, ↓tbX8_told_90, ↓tbX8_told_93, ↓tbX8_told_94, ↓tbX8_told_95, ↓tbX8_told_96, ↓tbX8_told_97, ↓tbX8_told_100, ↓tbX8_told_101, ↓tbX8_told_102, ↓tbX8_told_103, ↓tbX8_told_104, ↓tbX8_told_107, ↓tbX8_told_108, ↓tbX8_told_109, ↓tbX8_told_110, ↓tbX8_told_111, ↓tbX8_told_112, ↓tbX8_told_115, ↓tbX8_told_116, ↓tbX8_told_117, ↓tbX8_told_118, ↓tbX8_told_121, ↓tbX8_told_122, ↓tbX8_told_123, ↓tbX8_told_124, ↓tbX8_told_127, ↓tbX8_told_128, ↓tbX8_told_129, ↓tbX8_told_130, ↓tbX8_told_133, ↓tbX8_told_136, ↓tbX8_told_137, ↓tbX8_told_140, ↓tbX8_told_141, ↓tbX8_told_144, ↓tbX8_told_145, ↓tbX8_told_146, ↓tbX8_told_147, ↓tbX8_told_148, ↓tbX8_told_151, ↓tbX8_told_152, ↓tbX8_told_153, hfu, xstep0, xJ1_hit, xJ1_go, xJ2_hit1, xJ2_hit2, xJ2_go, ↓xif_t, ↓xif_f, seval, ↓xca_eq, ↓xre_l, ↓xre_r, xmask_t, xmask_f, xmask_nil, ↓xst_eq, xX_eq, eI_eq, eMc_eq, eMs_eq, eF_eq, eThr_eq, ↓xS1_mk, ↓xSI_mk, ↓xSR_mk, ↓xLI_0, ↓xLI_s, ↓xLR_0, ↓xLR_s, vRef_ref, vRef_null, vRef_rf, cat_int, cat_ref, cat_null, cat_rf, rf_some, rf_none, rf_null, rf_eq, rf_ref, ref_rf, ref_null, ref_ref, xOk_0, xOk_1, xOk_2r, xOk_2n, xOk_2f, vOpt_rf, vOpt_ref, vOpt_null, List.set_cons_zero, List.set_cons_succ, List.take_succ_cons, List.take_zero, List.drop_succ_cons, List.drop_zero, List.reverse_cons, List.reverse_nil, List.nil_append, List.cons_append, List.append_nil, List.length_cons, List.length_nil, List.map_cons, List.map_nil, List.sum_cons, List.sum_nil, Option.toList_some, Option.toList_none, xRecv_mk, true_and, and_true, true_implies, Nat.reduceAdd, Nat.reduceLeDiff, Nat.zero_le, Nat.le_refl, Nat.add_zero, Nat.zero_add, reduceIte, not_true_eq_false, not_false_eq_true, false_implies, and_self, implies_true, eq_self, Nat.reduceEqDiff, List.cons.injEq, xsn_1, xsn_2, false_and, and_false, or_false, false_or, or_true, true_or, xsn_3, xsn_4, mAst_1, mAst_2, mSet_1, mSet_2, bi_0, h1, h2, ti_0, ti_1, ti_2, ti_3, ti_4, ti_5, ti_6, ti_7, ti_8, ti_9, tlt_0, tgt_5, tgt_9, ↓spwX8_stands, spcX8_stands, ↓spwX8_weightOf, spcX8_weightOf, ↓spwX8_draughtOf, spcX8_draughtOf, ↓spwX8_widthOf, spcX8_widthOf]
  try simp only [xif_e]
  unfold mTold at h
  repeat' (first | with_reducible apply And.intro | with_reducible intro _)
  all_goals grind (splits := 30) [bi]

def tbX8_ofBoat : List (Nat × xHint) := [(0, .aload_n 0, 0, 0, 0, []), (1, .aload_n 0, 0, 0, 0, []), (2, .iload_n 1, 1, 0, 0, []), (3, .invokevirtual 247, 0, 2, 9, []), (6, .ifCond .eq 17, 23, 0, 0, []), (9, .iload_n 2, 2, 0, 0, []), (10, .iconst 0, 0, 0, 0, []), (11, .bipush 10, 0, 0, 0, []), (13, .invokestatic 159, 1, 3, 0, []), (16, .ifCond .eq 7, 23, 0, 0, []), (19, .iconst 0, 0, 0, 0, []), (20, .goto 4, 24, 0, 0, []), (23, .iconst 1, 0, 0, 0, []), (24, .invokevirtual 183, 2, 2, 9, []), (27, .ifCond .eq 12, 39, 0, 0, []), (30, .aload_n 0, 0, 0, 0, []), (31, .iload_n 1, 1, 0, 0, []), (32, .iload_n 2, 2, 0, 0, []), (33, .invokevirtual 341, 3, 3, 9, []), (36, .goto 4, 40, 0, 0, []), (39, .iconst 0, 0, 0, 0, []), (40, .ireturn, 0, 0, 0, [])]
def clX8_ofBoat : List (Instr × Nat × Nat × Nat) := [(.invokevirtual 247, 0, 2, 9), (.invokestatic 159, 1, 3, 0), (.invokevirtual 183, 2, 2, 9), (.invokevirtual 341, 3, 3, 9)]
def thX8_ofBoat : List (Nat × Nat) := []
theorem ckX8_ofBoat : tbX8_ofBoat.all (xRow RX8 cX8_ofBoat wsX8_ofBoat vwCl [] clX8_ofBoat thX8_ofBoat 3 (yX8_ofBoat.name == "<init>") (some .int)) = true := xRow_q 0xac030400a75501b61c1b2a0c0099b700b6040400a7030700999f00b80a10031c110099f700b61b2a2a 41 (by decide +kernel) (by decide +kernel)
theorem usX8_ofBoat : xUse wsX8_ofBoat vwCl [] = true := xUse_n
theorem tbX8_ofBoat_0 {k : Instr → Nat → Nat → Nat → List Nat → Prop} : xse (xFind tbX8_ofBoat 0) k = k (.aload_n 0) 0 0 0 [] := rfl
theorem tbX8_ofBoat_1 {k : Instr → Nat → Nat → Nat → List Nat → Prop} : xse (xFind tbX8_ofBoat 1) k = k (.aload_n 0) 0 0 0 [] := rfl
theorem tbX8_ofBoat_2 {k : Instr → Nat → Nat → Nat → List Nat → Prop} : xse (xFind tbX8_ofBoat 2) k = k (.iload_n 1) 1 0 0 [] := rfl
theorem tbX8_ofBoat_3 {k : Instr → Nat → Nat → Nat → List Nat → Prop} : xse (xFind tbX8_ofBoat 3) k = k (.invokevirtual 247) 0 2 9 [] := rfl
theorem tbX8_ofBoat_6 {k : Instr → Nat → Nat → Nat → List Nat → Prop} : xse (xFind tbX8_ofBoat 6) k = k (.ifCond .eq 17) 23 0 0 [] := rfl
theorem tbX8_ofBoat_9 {k : Instr → Nat → Nat → Nat → List Nat → Prop} : xse (xFind tbX8_ofBoat 9) k = k (.iload_n 2) 2 0 0 [] := rfl
theorem tbX8_ofBoat_10 {k : Instr → Nat → Nat → Nat → List Nat → Prop} : xse (xFind tbX8_ofBoat 10) k = k (.iconst 0) 0 0 0 [] := rfl
theorem tbX8_ofBoat_11 {k : Instr → Nat → Nat → Nat → List Nat → Prop} : xse (xFind tbX8_ofBoat 11) k = k (.bipush 10) 0 0 0 [] := rfl
theorem tbX8_ofBoat_13 {k : Instr → Nat → Nat → Nat → List Nat → Prop} : xse (xFind tbX8_ofBoat 13) k = k (.invokestatic 159) 1 3 0 [] := rfl
theorem tbX8_ofBoat_16 {k : Instr → Nat → Nat → Nat → List Nat → Prop} : xse (xFind tbX8_ofBoat 16) k = k (.ifCond .eq 7) 23 0 0 [] := rfl
theorem tbX8_ofBoat_19 {k : Instr → Nat → Nat → Nat → List Nat → Prop} : xse (xFind tbX8_ofBoat 19) k = k (.iconst 0) 0 0 0 [] := rfl
theorem tbX8_ofBoat_20 {k : Instr → Nat → Nat → Nat → List Nat → Prop} : xse (xFind tbX8_ofBoat 20) k = k (.goto 4) 24 0 0 [] := rfl
theorem tbX8_ofBoat_23 {k : Instr → Nat → Nat → Nat → List Nat → Prop} : xse (xFind tbX8_ofBoat 23) k = k (.iconst 1) 0 0 0 [] := rfl
theorem tbX8_ofBoat_24 {k : Instr → Nat → Nat → Nat → List Nat → Prop} : xse (xFind tbX8_ofBoat 24) k = k (.invokevirtual 183) 2 2 9 [] := rfl
theorem tbX8_ofBoat_27 {k : Instr → Nat → Nat → Nat → List Nat → Prop} : xse (xFind tbX8_ofBoat 27) k = k (.ifCond .eq 12) 39 0 0 [] := rfl
theorem tbX8_ofBoat_30 {k : Instr → Nat → Nat → Nat → List Nat → Prop} : xse (xFind tbX8_ofBoat 30) k = k (.aload_n 0) 0 0 0 [] := rfl
theorem tbX8_ofBoat_31 {k : Instr → Nat → Nat → Nat → List Nat → Prop} : xse (xFind tbX8_ofBoat 31) k = k (.iload_n 1) 1 0 0 [] := rfl
theorem tbX8_ofBoat_32 {k : Instr → Nat → Nat → Nat → List Nat → Prop} : xse (xFind tbX8_ofBoat 32) k = k (.iload_n 2) 2 0 0 [] := rfl
theorem tbX8_ofBoat_33 {k : Instr → Nat → Nat → Nat → List Nat → Prop} : xse (xFind tbX8_ofBoat 33) k = k (.invokevirtual 341) 3 3 9 [] := rfl
theorem tbX8_ofBoat_36 {k : Instr → Nat → Nat → Nat → List Nat → Prop} : xse (xFind tbX8_ofBoat 36) k = k (.goto 4) 40 0 0 [] := rfl
theorem tbX8_ofBoat_39 {k : Instr → Nat → Nat → Nat → List Nat → Prop} : xse (xFind tbX8_ofBoat 39) k = k (.iconst 0) 0 0 0 [] := rfl
theorem tbX8_ofBoat_40 {k : Instr → Nat → Nat → Nat → List Nat → Prop} : xse (xFind tbX8_ofBoat 40) k = k (.ireturn) 0 0 0 [] := rfl

def spX8_ofBoat (aM : Nat → Nat) : xSp mS := (fun av M => (0, 0), fun av M K => ∃ (b : Int32) (w : Int32), av = [.ref (aM 0), .int b, .int w] ∧ ((M.1 29 = nI (nBt M) ∧ nBt M ≤ 6) ∧ (iBt M b → mTk (mSet M 0 0) b.toNatClampNeg) ∧ K (rI (oOfBoat M b w).1) (oOfBoat M b w).2))
theorem spcX8_ofBoat {av : List Value} {M : mS} {aM : Nat → Nat} : (spX8_ofBoat aM).1 av M = (0, 0) := rfl
theorem spwX8_ofBoat {M : mS} {aM : Nat → Nat} {K : xRes → mS → Prop} {b : Int32} {w : Int32} : (spX8_ofBoat aM).2 [.ref (aM 0), .int b, .int w] M K = ((M.1 29 = nI (nBt M) ∧ nBt M ≤ 6) ∧ (iBt M b → mTk (mSet M 0 0) b.toNatClampNeg) ∧ K (rI (oOfBoat M b w).1) (oOfBoat M b w).2) :=
  propext ⟨fun h => by
    simp only [spX8_ofBoat] at h
    obtain ⟨_, _, e, h⟩ := h
    simp only [List.cons.injEq, Value.int.injEq, Value.ref.injEq, rf_eq, and_true, true_and] at e
    obtain ⟨rfl, rfl⟩ := e
    exact h, fun h => ⟨_, _, rfl, h⟩⟩

def callX8_ofBoat (aM : Nat → Nat) : Nat → Option (xSp mS) := fun n => match n with | 0 => some (spX8_isBoat aM) | 1 => some (spX8_in aM) | 2 => some (spX8_holds aM) | 3 => some (spX8_told aM) | _ => none

theorem callX8_ofBoat_0 {aM : Nat → Nat} {k : xSp mS → Prop} : xcs (callX8_ofBoat aM 0) k = k (spX8_isBoat aM) := rfl

theorem callX8_ofBoat_1 {aM : Nat → Nat} {k : xSp mS → Prop} : xcs (callX8_ofBoat aM 1) k = k (spX8_in aM) := rfl

theorem callX8_ofBoat_2 {aM : Nat → Nat} {k : xSp mS → Prop} : xcs (callX8_ofBoat aM 2) k = k (spX8_holds aM) := rfl

theorem callX8_ofBoat_3 {aM : Nat → Nat} {k : xSp mS → Prop} : xcs (callX8_ofBoat aM 3) k = k (spX8_told aM) := rfl

theorem crX8_ofBoat (l : Launch) (W9 : xWd) (aM : Nat → Nat) (hi : mInj aM) : xCallsOK l W9 (mI aM) (callX8_ofBoat aM) clX8_ofBoat RX8 wsX8_ofBoat 2 46 3 := by
  intro E A p e R s m args below meth c hI hF hL X
  exact List.forall_mem_cons.mpr ⟨⟨_, rfl, xCR_V X (by rw [hI]; exact (semX8_isBoat l W9 aM hi)) gX8_ofBoat_X8_isBoat rfl rfl (by decide +kernel) (by rw [hF, hL]; decide)⟩,
    List.forall_mem_cons.mpr ⟨⟨_, rfl, xCR_S X (by rw [hI]; exact (semX8_in l W9 aM hi)) gX8_ofBoat_X8_in rfl (by decide +kernel) (by rw [hF, hL]; decide)⟩,
    List.forall_mem_cons.mpr ⟨⟨_, rfl, xCR_V X (by rw [hI]; exact (semX8_holds l W9 aM hi)) gX8_ofBoat_X8_holds rfl rfl (by decide +kernel) (by rw [hF, hL]; decide)⟩,
    List.forall_mem_cons.mpr ⟨⟨_, rfl, xCR_V X (by rw [hI]; exact (semX8_told l W9 aM hi)) gX8_ofBoat_X8_told rfl rfl (by decide +kernel) (by rw [hF, hL]; decide)⟩,
    fun _ h => nomatch h⟩⟩⟩⟩

set_option maxHeartbeats 4000000 in
set_option maxRecDepth 20000 in
theorem semX8_ofBoat (l : Launch) (W9 : xWd) (aM : Nat → Nat) (hi : mInj aM) : xSem l W9 (mI aM) yX8_ofBoat wsX8_ofBoat 2 46 (spX8_ofBoat aM) := by
  refine xSem_of (call := callX8_ofBoat aM) (thrf := fun _ => "") (mI_law hi) (by decide +kernel) rfl ckX8_ofBoat usX8_ofBoat (crX8_ofBoat l W9 aM hi) xThrOK_nil ?_ ?_
  · intro av M KF h
    obtain ⟨b, w, rfl, h⟩ := h
    exact ⟨by intro v hv; simp only [List.mem_cons, List.not_mem_nil, or_false] at hv; rcases hv with rfl | rfl | rfl <;> first | rfl | exact cat_rf, Nat.le_of_ble_eq_true rfl⟩
  intro av M KF h G hG
  obtain ⟨b, w, rfl, h⟩ := h
  rw [show (spX8_ofBoat aM).1 _ M = _ from spcX8_ofBoat] at hG
  try dsimp only at hG
  change G 0 [some (.ref (aM 0)), some (.int b), some (.int w)] [] M 0 0
  obtain ⟨hn, hb, h⟩ := h
  refine xgo0 hG (fun fu hfu => ?_)
  clear hG
  simp only [↓callX8_ofBoat_0, ↓callX8_ofBoat_1, ↓callX8_ofBoat_2, ↓callX8_ofBoat_3, kb_10, kc_10, ki_0, ki_1, misa, ↓vm_aload_n, ↓vm_bipush, ↓vm_goto, ↓vm_iconst, ↓vm_ifCond_eq, ↓vm_iload_n, ↓vm_invokestatic, ↓vm_invokevirtual, ↓vm_ireturn, ↓xc_2, ↓xc_3, ↓tbX8_ofBoat_0, ↓tbX8_ofBoat_1, ↓tbX8_ofBoat_2, ↓tbX8_ofBoat_3, ↓tbX8_ofBoat_6, ↓tbX8_ofBoat_9, ↓tbX8_ofBoat_10, ↓tbX8_ofBoat_11, ↓tbX8_ofBoat_13, ↓tbX8_ofBoat_16, ↓tbX8_ofBoat_19, ↓tbX8_ofBoat_20, ↓tbX8_ofBoat_23, ↓tbX8_ofBoat_24, ↓tbX8_ofBoat_27, ↓tbX8_ofBoat_30, ↓tbX8_ofBoat_31, ↓tbX8_ofBoat_32, ↓tbX8_ofBoat_33, ↓tbX8_ofBoat_36, ↓tbX8_ofBoat_39, ↓tbX8_ofBoat_40, hfu, xstep0, xJ1_hit, xJ1_go, xJ2_hit1, xJ2_hit2, xJ2_go, ↓xif_t, ↓xif_f, seval, ↓xca_eq, ↓xre_l, ↓xre_r, xmask_t, xmask_f, xmask_nil, ↓xst_eq, xX_eq, eI_eq, eMc_eq, eMs_eq, eF_eq, eThr_eq, ↓xS1_mk, ↓xSI_mk, ↓xSR_mk, ↓xLI_0, ↓xLI_s, ↓xLR_0, ↓xLR_s, vRef_ref, vRef_null, vRef_rf, cat_int, cat_ref, cat_null, cat_rf, rf_some, rf_none, rf_null, rf_eq, rf_ref, ref_rf, ref_null, ref_ref, xOk_0, xOk_1, xOk_2r, xOk_2n, xOk_2f, vOpt_rf, vOpt_ref, vOpt_null, List.set_cons_zero, List.set_cons_succ, List.take_succ_cons, List.take_zero, List.drop_succ_cons, List.drop_zero, List.reverse_cons, List.reverse_nil, List.nil_append, List.cons_append, List.append_nil, List.length_cons, List.length_nil, List.map_cons, List.map_nil, List.sum_cons, List.sum_nil, Option.toList_some, Option.toList_none, xRecv_mk, true_and, and_true, true_implies, Nat.reduceAdd, Nat.reduceLeDiff, Nat.zero_le, Nat.le_refl, Nat.add_zero, Nat.zero_add, reduceIte, not_true_eq_false, not_false_eq_true, false_implies, and_self, implies_true, eq_self, Nat.reduceEqDiff, List.cons.injEq, xsn_1, xsn_2, false_and, and_false, or_false, false_or, or_true, true_or, xsn_3, xsn_4, mAst_1, mAst_2, mSet_1, mSet_2, bi_0, ↓spwX8_isBoat, spcX8_isBoat, ↓spwX8_in, spcX8_in, ↓spwX8_holds, spcX8_holds, ↓spwX8_told, spcX8_told]
  try simp only [xif_e]
  unfold oOfBoat at h
  unfold iBt at hb
  have h7 := @in_bt M b hn
  repeat' (first | with_reducible apply And.intro | with_reducible intro _)
  all_goals grind (splits := 30) [bi]

def tbX8_waited : List (Nat × xHint) := [(0, .aload_n 0, 0, 0, 0, []), (1, .aload_n 0, 0, 0, 0, []), (2, .iload_n 1, 1, 0, 0, []), (3, .invokevirtual 247, 0, 2, 9, []), (6, .ifCond .eq 17, 23, 0, 0, []), (9, .iload_n 2, 2, 0, 0, []), (10, .iconst 1, 0, 0, 0, []), (11, .bipush 9, 0, 0, 0, []), (13, .invokestatic 159, 1, 3, 0, []), (16, .ifCond .eq 7, 23, 0, 0, []), (19, .iconst 0, 0, 0, 0, []), (20, .goto 4, 24, 0, 0, []), (23, .iconst 1, 0, 0, 0, []), (24, .invokevirtual 183, 2, 2, 9, []), (27, .ifCond .eq 17, 44, 0, 0, []), (30, .aload_n 0, 0, 0, 0, []), (31, .getfield 122, 9, 44, 2, []), (34, .bipush 10, 0, 0, 0, []), (36, .iload_n 1, 1, 0, 0, []), (37, .imul, 0, 0, 0, []), (38, .iload_n 2, 2, 0, 0, []), (39, .iadd, 0, 0, 0, []), (40, .iaload, 44, 0, 0, []), (41, .goto 4, 45, 0, 0, []), (44, .iconst 0, 0, 0, 0, []), (45, .ireturn, 0, 0, 0, [])]
def clX8_waited : List (Instr × Nat × Nat × Nat) := [(.invokevirtual 247, 0, 2, 9), (.invokestatic 159, 1, 3, 0), (.invokevirtual 183, 2, 2, 9)]
def thX8_waited : List (Nat × Nat) := []
theorem ckX8_waited : tbX8_waited.all (xRow RX8 cX8_waited wsX8_waited vwCl [9] clX8_waited thX8_waited 3 (yX8_waited.name == "<init>") (some .int)) = true := xRow_q 0xac030400a72e601c681b0a107a00b42a110099b700b6040400a7030700999f00b80910041c110099f700b61b2a2a 46 (by decide +kernel) (by decide +kernel)
theorem usX8_waited : xUse wsX8_waited vwCl [9] = true := xUse_g rfl (lw_good lwl_X8_waited lwl_X80 (by decide +kernel)) xUse_n
theorem tbX8_waited_0 {k : Instr → Nat → Nat → Nat → List Nat → Prop} : xse (xFind tbX8_waited 0) k = k (.aload_n 0) 0 0 0 [] := rfl
theorem tbX8_waited_1 {k : Instr → Nat → Nat → Nat → List Nat → Prop} : xse (xFind tbX8_waited 1) k = k (.aload_n 0) 0 0 0 [] := rfl
theorem tbX8_waited_2 {k : Instr → Nat → Nat → Nat → List Nat → Prop} : xse (xFind tbX8_waited 2) k = k (.iload_n 1) 1 0 0 [] := rfl
theorem tbX8_waited_3 {k : Instr → Nat → Nat → Nat → List Nat → Prop} : xse (xFind tbX8_waited 3) k = k (.invokevirtual 247) 0 2 9 [] := rfl
theorem tbX8_waited_6 {k : Instr → Nat → Nat → Nat → List Nat → Prop} : xse (xFind tbX8_waited 6) k = k (.ifCond .eq 17) 23 0 0 [] := rfl
theorem tbX8_waited_9 {k : Instr → Nat → Nat → Nat → List Nat → Prop} : xse (xFind tbX8_waited 9) k = k (.iload_n 2) 2 0 0 [] := rfl
theorem tbX8_waited_10 {k : Instr → Nat → Nat → Nat → List Nat → Prop} : xse (xFind tbX8_waited 10) k = k (.iconst 1) 0 0 0 [] := rfl
theorem tbX8_waited_11 {k : Instr → Nat → Nat → Nat → List Nat → Prop} : xse (xFind tbX8_waited 11) k = k (.bipush 9) 0 0 0 [] := rfl
theorem tbX8_waited_13 {k : Instr → Nat → Nat → Nat → List Nat → Prop} : xse (xFind tbX8_waited 13) k = k (.invokestatic 159) 1 3 0 [] := rfl
theorem tbX8_waited_16 {k : Instr → Nat → Nat → Nat → List Nat → Prop} : xse (xFind tbX8_waited 16) k = k (.ifCond .eq 7) 23 0 0 [] := rfl
theorem tbX8_waited_19 {k : Instr → Nat → Nat → Nat → List Nat → Prop} : xse (xFind tbX8_waited 19) k = k (.iconst 0) 0 0 0 [] := rfl
theorem tbX8_waited_20 {k : Instr → Nat → Nat → Nat → List Nat → Prop} : xse (xFind tbX8_waited 20) k = k (.goto 4) 24 0 0 [] := rfl
theorem tbX8_waited_23 {k : Instr → Nat → Nat → Nat → List Nat → Prop} : xse (xFind tbX8_waited 23) k = k (.iconst 1) 0 0 0 [] := rfl
theorem tbX8_waited_24 {k : Instr → Nat → Nat → Nat → List Nat → Prop} : xse (xFind tbX8_waited 24) k = k (.invokevirtual 183) 2 2 9 [] := rfl
theorem tbX8_waited_27 {k : Instr → Nat → Nat → Nat → List Nat → Prop} : xse (xFind tbX8_waited 27) k = k (.ifCond .eq 17) 44 0 0 [] := rfl
theorem tbX8_waited_30 {k : Instr → Nat → Nat → Nat → List Nat → Prop} : xse (xFind tbX8_waited 30) k = k (.aload_n 0) 0 0 0 [] := rfl
theorem tbX8_waited_31 {k : Instr → Nat → Nat → Nat → List Nat → Prop} : xse (xFind tbX8_waited 31) k = k (.getfield 122) 9 44 2 [] := rfl
theorem tbX8_waited_34 {k : Instr → Nat → Nat → Nat → List Nat → Prop} : xse (xFind tbX8_waited 34) k = k (.bipush 10) 0 0 0 [] := rfl
theorem tbX8_waited_36 {k : Instr → Nat → Nat → Nat → List Nat → Prop} : xse (xFind tbX8_waited 36) k = k (.iload_n 1) 1 0 0 [] := rfl
theorem tbX8_waited_37 {k : Instr → Nat → Nat → Nat → List Nat → Prop} : xse (xFind tbX8_waited 37) k = k (.imul) 0 0 0 [] := rfl
theorem tbX8_waited_38 {k : Instr → Nat → Nat → Nat → List Nat → Prop} : xse (xFind tbX8_waited 38) k = k (.iload_n 2) 2 0 0 [] := rfl
theorem tbX8_waited_39 {k : Instr → Nat → Nat → Nat → List Nat → Prop} : xse (xFind tbX8_waited 39) k = k (.iadd) 0 0 0 [] := rfl
theorem tbX8_waited_40 {k : Instr → Nat → Nat → Nat → List Nat → Prop} : xse (xFind tbX8_waited 40) k = k (.iaload) 44 0 0 [] := rfl
theorem tbX8_waited_41 {k : Instr → Nat → Nat → Nat → List Nat → Prop} : xse (xFind tbX8_waited 41) k = k (.goto 4) 45 0 0 [] := rfl
theorem tbX8_waited_44 {k : Instr → Nat → Nat → Nat → List Nat → Prop} : xse (xFind tbX8_waited 44) k = k (.iconst 0) 0 0 0 [] := rfl
theorem tbX8_waited_45 {k : Instr → Nat → Nat → Nat → List Nat → Prop} : xse (xFind tbX8_waited 45) k = k (.ireturn) 0 0 0 [] := rfl

def spX8_waited (aM : Nat → Nat) : xSp mS := (fun av M => (0, 0), fun av M K => ∃ (b : Int32) (c : Int32), av = [.ref (aM 0), .int b, .int c] ∧ ((M.1 29 = nI (nBt M) ∧ nBt M ≤ 6) ∧ K (rI (oWaited M b c).1) (oWaited M b c).2))
theorem spcX8_waited {av : List Value} {M : mS} {aM : Nat → Nat} : (spX8_waited aM).1 av M = (0, 0) := rfl
theorem spwX8_waited {M : mS} {aM : Nat → Nat} {K : xRes → mS → Prop} {b : Int32} {c : Int32} : (spX8_waited aM).2 [.ref (aM 0), .int b, .int c] M K = ((M.1 29 = nI (nBt M) ∧ nBt M ≤ 6) ∧ K (rI (oWaited M b c).1) (oWaited M b c).2) :=
  propext ⟨fun h => by
    simp only [spX8_waited] at h
    obtain ⟨_, _, e, h⟩ := h
    simp only [List.cons.injEq, Value.int.injEq, Value.ref.injEq, rf_eq, and_true, true_and] at e
    obtain ⟨rfl, rfl⟩ := e
    exact h, fun h => ⟨_, _, rfl, h⟩⟩

def callX8_waited (aM : Nat → Nat) : Nat → Option (xSp mS) := fun n => match n with | 0 => some (spX8_isBoat aM) | 1 => some (spX8_in aM) | 2 => some (spX8_holds aM) | _ => none

theorem callX8_waited_0 {aM : Nat → Nat} {k : xSp mS → Prop} : xcs (callX8_waited aM 0) k = k (spX8_isBoat aM) := rfl

theorem callX8_waited_1 {aM : Nat → Nat} {k : xSp mS → Prop} : xcs (callX8_waited aM 1) k = k (spX8_in aM) := rfl

theorem callX8_waited_2 {aM : Nat → Nat} {k : xSp mS → Prop} : xcs (callX8_waited aM 2) k = k (spX8_holds aM) := rfl

theorem crX8_waited (l : Launch) (W9 : xWd) (aM : Nat → Nat) (hi : mInj aM) : xCallsOK l W9 (mI aM) (callX8_waited aM) clX8_waited RX8 wsX8_waited 2 43 3 := by
  intro E A p e R s m args below meth c hI hF hL X
  exact List.forall_mem_cons.mpr ⟨⟨_, rfl, xCR_V X (by rw [hI]; exact (semX8_isBoat l W9 aM hi)) gX8_waited_X8_isBoat rfl rfl (by decide +kernel) (by rw [hF, hL]; decide)⟩,
    List.forall_mem_cons.mpr ⟨⟨_, rfl, xCR_S X (by rw [hI]; exact (semX8_in l W9 aM hi)) gX8_waited_X8_in rfl (by decide +kernel) (by rw [hF, hL]; decide)⟩,
    List.forall_mem_cons.mpr ⟨⟨_, rfl, xCR_V X (by rw [hI]; exact (semX8_holds l W9 aM hi)) gX8_waited_X8_holds rfl rfl (by decide +kernel) (by rw [hF, hL]; decide)⟩,
    fun _ h => nomatch h⟩⟩⟩

set_option maxHeartbeats 4000000 in
set_option maxRecDepth 20000 in
theorem semX8_waited (l : Launch) (W9 : xWd) (aM : Nat → Nat) (hi : mInj aM) : xSem l W9 (mI aM) yX8_waited wsX8_waited 2 43 (spX8_waited aM) := by
  refine xSem_of (call := callX8_waited aM) (thrf := fun _ => "") (mI_law hi) (by decide +kernel) rfl ckX8_waited usX8_waited (crX8_waited l W9 aM hi) xThrOK_nil ?_ ?_
  · intro av M KF h
    obtain ⟨b, c, rfl, h⟩ := h
    exact ⟨by intro v hv; simp only [List.mem_cons, List.not_mem_nil, or_false] at hv; rcases hv with rfl | rfl | rfl <;> first | rfl | exact cat_rf, Nat.le_of_ble_eq_true rfl⟩
  intro av M KF h G hG
  obtain ⟨b, c, rfl, h⟩ := h
  rw [show (spX8_waited aM).1 _ M = _ from spcX8_waited] at hG
  try dsimp only at hG
  change G 0 [some (.ref (aM 0)), some (.int b), some (.int c)] [] M 0 0
  obtain ⟨hn, h⟩ := h
  refine xgo0 hG (fun fu hfu => ?_)
  clear hG
  simp only [↓callX8_waited_0, ↓callX8_waited_1, ↓callX8_waited_2, kb_10, kb_9, kc_10, kc_9, ki_0, ki_1, ↓ma_44, ↓mg_44, misa, ↓vm_aload_n, ↓vm_bipush, ↓vm_getfield, ↓vm_goto, ↓vm_iadd, ↓vm_iaload, ↓vm_iconst, ↓vm_ifCond_eq, ↓vm_iload_n, ↓vm_imul, ↓vm_invokestatic, ↓vm_invokevirtual, ↓vm_ireturn, ↓xc_2, ↓xc_3, ↓tbX8_waited_0, ↓tbX8_waited_1, ↓tbX8_waited_2, ↓tbX8_waited_3, ↓tbX8_waited_6, ↓tbX8_waited_9, ↓tbX8_waited_10, ↓tbX8_waited_11, ↓tbX8_waited_13, ↓tbX8_waited_16, ↓tbX8_waited_19, ↓tbX8_waited_20, ↓tbX8_waited_23, ↓tbX8_waited_24, ↓tbX8_waited_27, ↓tbX8_waited_30, ↓tbX8_waited_31, ↓tbX8_waited_34, ↓tbX8_waited_36, ↓tbX8_waited_37, ↓tbX8_waited_38, ↓tbX8_waited_39, ↓tbX8_waited_40, ↓tbX8_waited_41, ↓tbX8_waited_44, ↓tbX8_waited_45, hfu, xstep0, xJ1_hit, xJ1_go, xJ2_hit1, xJ2_hit2, xJ2_go, ↓xif_t, ↓xif_f, seval, ↓xca_eq, ↓xre_l, ↓xre_r, xmask_t, xmask_f, xmask_nil, ↓xst_eq, xX_eq, eI_eq, eMc_eq, eMs_eq, eF_eq, eThr_eq, ↓xS1_mk, ↓xSI_mk, ↓xSR_mk, ↓xLI_0, ↓xLI_s, ↓xLR_0, ↓xLR_s, vRef_ref, vRef_null, vRef_rf, cat_int, cat_ref, cat_null, cat_rf, rf_some, rf_none, rf_null, rf_eq, rf_ref, ref_rf, ref_null, ref_ref, xOk_0, xOk_1, xOk_2r, xOk_2n, xOk_2f, vOpt_rf, vOpt_ref, vOpt_null, List.set_cons_zero, List.set_cons_succ, List.take_succ_cons, List.take_zero, List.drop_succ_cons, List.drop_zero, List.reverse_cons, List.reverse_nil, List.nil_append, List.cons_append, List.append_nil, List.length_cons, List.length_nil, List.map_cons, List.map_nil, List.sum_cons, List.sum_nil, Option.toList_some, Option.toList_none, xRecv_mk, true_and, and_true, true_implies, Nat.reduceAdd, Nat.reduceLeDiff, Nat.zero_le, Nat.le_refl, Nat.add_zero, Nat.zero_add, reduceIte, not_true_eq_false, not_false_eq_true, false_implies, and_self, implies_true, eq_self, Nat.reduceEqDiff, List.cons.injEq, xsn_1, xsn_2, false_and, and_false, or_false, false_or, or_true, true_or, xsn_3, xsn_4, mAst_1, mAst_2, mSet_1, mSet_2, bi_0, ↓spwX8_isBoat, spcX8_isBoat, ↓spwX8_in, spcX8_in, ↓spwX8_holds, spcX8_holds]
  try simp only [xif_e]
  unfold oWaited at h
  have h7 := @in_bt M b hn
  have h8 := @in_1 c
  have h9 := @in_wt b c
  repeat' (first | with_reducible apply And.intro | with_reducible intro _)
  all_goals grind (splits := 30) [bi]

def tbX8_whereIs : List (Nat × xHint) := [(0, .aload_n 0, 0, 0, 0, []), (1, .iload_n 1, 1, 0, 0, []), (2, .invokevirtual 210, 0, 2, 9, []), (5, .ifCond .eq 12, 17, 0, 0, []), (8, .aload_n 0, 0, 0, 0, []), (9, .getfield 74, 9, 27, 2, []), (12, .iload_n 1, 1, 0, 0, []), (13, .iaload, 27, 0, 0, []), (14, .iconst 2, 0, 0, 0, []), (15, .idiv, 0, 0, 0, []), (16, .ireturn, 0, 0, 0, []), (17, .aload_n 0, 0, 0, 0, []), (18, .getfield 77, 9, 28, 2, []), (21, .iload_n 1, 1, 0, 0, []), (22, .iaload, 28, 0, 0, []), (23, .istore_n 2, 2, 0, 0, []), (24, .aload_n 0, 0, 0, 0, []), (25, .iload_n 2, 2, 0, 0, []), (26, .invokevirtual 250, 1, 2, 9, []), (29, .ifCond .eq 15, 44, 0, 0, []), (32, .bipush 10, 0, 0, 0, []), (34, .aload_n 0, 0, 0, 0, []), (35, .getfield 89, 9, 33, 2, []), (38, .iload_n 2, 2, 0, 0, []), (39, .iaload, 33, 0, 0, []), (40, .iadd, 0, 0, 0, []), (41, .goto 12, 53, 0, 0, []), (44, .bipush 20, 0, 0, 0, []), (46, .aload_n 0, 0, 0, 0, []), (47, .getfield 92, 9, 34, 2, []), (50, .iload_n 2, 2, 0, 0, []), (51, .iaload, 34, 0, 0, []), (52, .iadd, 0, 0, 0, []), (53, .ireturn, 0, 0, 0, [])]
def clX8_whereIs : List (Instr × Nat × Nat × Nat) := [(.invokevirtual 210, 0, 2, 9), (.invokevirtual 250, 1, 2, 9)]
def thX8_whereIs : List (Nat × Nat) := []
theorem ckX8_whereIs : tbX8_whereIs.all (xRow RX8 cX8_whereIs wsX8_whereIs vwCl [9] clX8_whereIs thX8_whereIs 3 (yX8_whereIs.name == "<init>") (some .int)) = true := xRow_q 0xac602e1c5c00b42a14100c00a7602e1c5900b42a0a100f0099fa00b61c2a3d2e1b4d00b42aac6c052e1b4a00b42a0c0099d200b61b2a 54 (by decide +kernel) (by decide +kernel)
theorem usX8_whereIs : xUse wsX8_whereIs vwCl [9] = true := xUse_g rfl (lw_good lwl_X8_whereIs lwl_X80 (by decide +kernel)) xUse_n
theorem tbX8_whereIs_0 {k : Instr → Nat → Nat → Nat → List Nat → Prop} : xse (xFind tbX8_whereIs 0) k = k (.aload_n 0) 0 0 0 [] := rfl
theorem tbX8_whereIs_1 {k : Instr → Nat → Nat → Nat → List Nat → Prop} : xse (xFind tbX8_whereIs 1) k = k (.iload_n 1) 1 0 0 [] := rfl
theorem tbX8_whereIs_2 {k : Instr → Nat → Nat → Nat → List Nat → Prop} : xse (xFind tbX8_whereIs 2) k = k (.invokevirtual 210) 0 2 9 [] := rfl
theorem tbX8_whereIs_5 {k : Instr → Nat → Nat → Nat → List Nat → Prop} : xse (xFind tbX8_whereIs 5) k = k (.ifCond .eq 12) 17 0 0 [] := rfl
theorem tbX8_whereIs_8 {k : Instr → Nat → Nat → Nat → List Nat → Prop} : xse (xFind tbX8_whereIs 8) k = k (.aload_n 0) 0 0 0 [] := rfl
theorem tbX8_whereIs_9 {k : Instr → Nat → Nat → Nat → List Nat → Prop} : xse (xFind tbX8_whereIs 9) k = k (.getfield 74) 9 27 2 [] := rfl
theorem tbX8_whereIs_12 {k : Instr → Nat → Nat → Nat → List Nat → Prop} : xse (xFind tbX8_whereIs 12) k = k (.iload_n 1) 1 0 0 [] := rfl
theorem tbX8_whereIs_13 {k : Instr → Nat → Nat → Nat → List Nat → Prop} : xse (xFind tbX8_whereIs 13) k = k (.iaload) 27 0 0 [] := rfl
theorem tbX8_whereIs_14 {k : Instr → Nat → Nat → Nat → List Nat → Prop} : xse (xFind tbX8_whereIs 14) k = k (.iconst 2) 0 0 0 [] := rfl
theorem tbX8_whereIs_15 {k : Instr → Nat → Nat → Nat → List Nat → Prop} : xse (xFind tbX8_whereIs 15) k = k (.idiv) 0 0 0 [] := rfl
theorem tbX8_whereIs_16 {k : Instr → Nat → Nat → Nat → List Nat → Prop} : xse (xFind tbX8_whereIs 16) k = k (.ireturn) 0 0 0 [] := rfl
theorem tbX8_whereIs_17 {k : Instr → Nat → Nat → Nat → List Nat → Prop} : xse (xFind tbX8_whereIs 17) k = k (.aload_n 0) 0 0 0 [] := rfl
theorem tbX8_whereIs_18 {k : Instr → Nat → Nat → Nat → List Nat → Prop} : xse (xFind tbX8_whereIs 18) k = k (.getfield 77) 9 28 2 [] := rfl
theorem tbX8_whereIs_21 {k : Instr → Nat → Nat → Nat → List Nat → Prop} : xse (xFind tbX8_whereIs 21) k = k (.iload_n 1) 1 0 0 [] := rfl
theorem tbX8_whereIs_22 {k : Instr → Nat → Nat → Nat → List Nat → Prop} : xse (xFind tbX8_whereIs 22) k = k (.iaload) 28 0 0 [] := rfl
theorem tbX8_whereIs_23 {k : Instr → Nat → Nat → Nat → List Nat → Prop} : xse (xFind tbX8_whereIs 23) k = k (.istore_n 2) 2 0 0 [] := rfl
theorem tbX8_whereIs_24 {k : Instr → Nat → Nat → Nat → List Nat → Prop} : xse (xFind tbX8_whereIs 24) k = k (.aload_n 0) 0 0 0 [] := rfl
theorem tbX8_whereIs_25 {k : Instr → Nat → Nat → Nat → List Nat → Prop} : xse (xFind tbX8_whereIs 25) k = k (.iload_n 2) 2 0 0 [] := rfl
theorem tbX8_whereIs_26 {k : Instr → Nat → Nat → Nat → List Nat → Prop} : xse (xFind tbX8_whereIs 26) k = k (.invokevirtual 250) 1 2 9 [] := rfl
theorem tbX8_whereIs_29 {k : Instr → Nat → Nat → Nat → List Nat → Prop} : xse (xFind tbX8_whereIs 29) k = k (.ifCond .eq 15) 44 0 0 [] := rfl
theorem tbX8_whereIs_32 {k : Instr → Nat → Nat → Nat → List Nat → Prop} : xse (xFind tbX8_whereIs 32) k = k (.bipush 10) 0 0 0 [] := rfl
theorem tbX8_whereIs_34 {k : Instr → Nat → Nat → Nat → List Nat → Prop} : xse (xFind tbX8_whereIs 34) k = k (.aload_n 0) 0 0 0 [] := rfl
theorem tbX8_whereIs_35 {k : Instr → Nat → Nat → Nat → List Nat → Prop} : xse (xFind tbX8_whereIs 35) k = k (.getfield 89) 9 33 2 [] := rfl
theorem tbX8_whereIs_38 {k : Instr → Nat → Nat → Nat → List Nat → Prop} : xse (xFind tbX8_whereIs 38) k = k (.iload_n 2) 2 0 0 [] := rfl
theorem tbX8_whereIs_39 {k : Instr → Nat → Nat → Nat → List Nat → Prop} : xse (xFind tbX8_whereIs 39) k = k (.iaload) 33 0 0 [] := rfl
theorem tbX8_whereIs_40 {k : Instr → Nat → Nat → Nat → List Nat → Prop} : xse (xFind tbX8_whereIs 40) k = k (.iadd) 0 0 0 [] := rfl
theorem tbX8_whereIs_41 {k : Instr → Nat → Nat → Nat → List Nat → Prop} : xse (xFind tbX8_whereIs 41) k = k (.goto 12) 53 0 0 [] := rfl
theorem tbX8_whereIs_44 {k : Instr → Nat → Nat → Nat → List Nat → Prop} : xse (xFind tbX8_whereIs 44) k = k (.bipush 20) 0 0 0 [] := rfl
theorem tbX8_whereIs_46 {k : Instr → Nat → Nat → Nat → List Nat → Prop} : xse (xFind tbX8_whereIs 46) k = k (.aload_n 0) 0 0 0 [] := rfl
theorem tbX8_whereIs_47 {k : Instr → Nat → Nat → Nat → List Nat → Prop} : xse (xFind tbX8_whereIs 47) k = k (.getfield 92) 9 34 2 [] := rfl
theorem tbX8_whereIs_50 {k : Instr → Nat → Nat → Nat → List Nat → Prop} : xse (xFind tbX8_whereIs 50) k = k (.iload_n 2) 2 0 0 [] := rfl
theorem tbX8_whereIs_51 {k : Instr → Nat → Nat → Nat → List Nat → Prop} : xse (xFind tbX8_whereIs 51) k = k (.iaload) 34 0 0 [] := rfl
theorem tbX8_whereIs_52 {k : Instr → Nat → Nat → Nat → List Nat → Prop} : xse (xFind tbX8_whereIs 52) k = k (.iadd) 0 0 0 [] := rfl
theorem tbX8_whereIs_53 {k : Instr → Nat → Nat → Nat → List Nat → Prop} : xse (xFind tbX8_whereIs 53) k = k (.ireturn) 0 0 0 [] := rfl

def spX8_whereIs (aM : Nat → Nat) : xSp mS := (fun av M => (0, 0), fun av M K => ∃ (g : Int32), av = [.ref (aM 0), .int g] ∧ (vp_in g 24 ∧ (¬ M.2 28 g.toNatClampNeg = -1 → vp_in (M.2 28 g.toNatClampNeg) 6) ∧ K (rI (mWh M g)) M))
theorem spcX8_whereIs {av : List Value} {M : mS} {aM : Nat → Nat} : (spX8_whereIs aM).1 av M = (0, 0) := rfl
theorem spwX8_whereIs {M : mS} {aM : Nat → Nat} {K : xRes → mS → Prop} {g : Int32} : (spX8_whereIs aM).2 [.ref (aM 0), .int g] M K = (vp_in g 24 ∧ (¬ M.2 28 g.toNatClampNeg = -1 → vp_in (M.2 28 g.toNatClampNeg) 6) ∧ K (rI (mWh M g)) M) :=
  propext ⟨fun h => by
    simp only [spX8_whereIs] at h
    obtain ⟨_, e, h⟩ := h
    simp only [List.cons.injEq, Value.int.injEq, Value.ref.injEq, rf_eq, and_true, true_and] at e
    obtain rfl := e
    exact h, fun h => ⟨_, rfl, h⟩⟩

def callX8_whereIs (aM : Nat → Nat) : Nat → Option (xSp mS) := fun n => match n with | 0 => some (spX8_isTied aM) | 1 => some (spX8_stands aM) | _ => none

theorem callX8_whereIs_0 {aM : Nat → Nat} {k : xSp mS → Prop} : xcs (callX8_whereIs aM 0) k = k (spX8_isTied aM) := rfl

theorem callX8_whereIs_1 {aM : Nat → Nat} {k : xSp mS → Prop} : xcs (callX8_whereIs aM 1) k = k (spX8_stands aM) := rfl

theorem crX8_whereIs (l : Launch) (W9 : xWd) (aM : Nat → Nat) (hi : mInj aM) : xCallsOK l W9 (mI aM) (callX8_whereIs aM) clX8_whereIs RX8 wsX8_whereIs 1 21 3 := by
  intro E A p e R s m args below meth c hI hF hL X
  exact List.forall_mem_cons.mpr ⟨⟨_, rfl, xCR_V X (by rw [hI]; exact (semX8_isTied l W9 aM hi)) gX8_whereIs_X8_isTied rfl rfl (by decide +kernel) (by rw [hF, hL]; decide)⟩,
    List.forall_mem_cons.mpr ⟨⟨_, rfl, xCR_V X (by rw [hI]; exact (semX8_stands l W9 aM hi)) gX8_whereIs_X8_stands rfl rfl (by decide +kernel) (by rw [hF, hL]; decide)⟩,
    fun _ h => nomatch h⟩⟩

set_option maxHeartbeats 4000000 in
set_option maxRecDepth 20000 in
theorem semX8_whereIs (l : Launch) (W9 : xWd) (aM : Nat → Nat) (hi : mInj aM) : xSem l W9 (mI aM) yX8_whereIs wsX8_whereIs 1 21 (spX8_whereIs aM) := by
  refine xSem_of (call := callX8_whereIs aM) (thrf := fun _ => "") (mI_law hi) (by decide +kernel) rfl ckX8_whereIs usX8_whereIs (crX8_whereIs l W9 aM hi) xThrOK_nil ?_ ?_
  · intro av M KF h
    obtain ⟨g, rfl, h⟩ := h
    exact ⟨by intro v hv; simp only [List.mem_cons, List.not_mem_nil, or_false] at hv; rcases hv with rfl | rfl <;> first | rfl | exact cat_rf, Nat.le_of_ble_eq_true rfl⟩
  intro av M KF h G hG
  obtain ⟨g, rfl, h⟩ := h
  rw [show (spX8_whereIs aM).1 _ M = _ from spcX8_whereIs] at hG
  try dsimp only at hG
  change G 0 [some (.ref (aM 0)), some (.int g), none] [] M 0 0
  obtain ⟨h1, h2, h⟩ := h
  refine xgo0 hG (fun fu hfu => ?_)
  clear hG
  simp only [↓callX8_whereIs_0, ↓callX8_whereIs_1, kb_10, kb_20, kc_10, kc_20, ki_2, ↓ma_27, ↓ma_28, ↓ma_33, ↓ma_34, ↓mg_27, ↓mg_28, ↓mg_33, ↓mg_34, misa, ↓vm_aload_n, ↓vm_bipush, ↓vm_getfield, ↓vm_goto, ↓vm_iadd, ↓vm_iaload, ↓vm_iconst, ↓vm_idiv, ↓vm_ifCond_eq, ↓vm_iload_n, ↓vm_invokevirtual, ↓vm_ireturn, ↓vm_istore_n, ↓xc_2, ↓tbX8_whereIs_0, ↓tbX8_whereIs_1, ↓tbX8_whereIs_2, ↓tbX8_whereIs_5, ↓tbX8_whereIs_8, ↓tbX8_whereIs_9, ↓tbX8_whereIs_12, ↓tbX8_whereIs_13, ↓tbX8_whereIs_14, ↓tbX8_whereIs_15, ↓tbX8_whereIs_16, ↓tbX8_whereIs_17, ↓tbX8_whereIs_18, ↓tbX8_whereIs_21, ↓tbX8_whereIs_22, ↓tbX8_whereIs_23, ↓tbX8_whereIs_24, ↓tbX8_whereIs_25, ↓tbX8_whereIs_26, ↓tbX8_whereIs_29, ↓tbX8_whereIs_32, ↓tbX8_whereIs_34, ↓tbX8_whereIs_35, ↓tbX8_whereIs_38, ↓tbX8_whereIs_39, ↓tbX8_whereIs_40, ↓tbX8_whereIs_41, ↓tbX8_whereIs_44, ↓tbX8_whereIs_46, ↓tbX8_whereIs_47, ↓tbX8_whereIs_50, ↓tbX8_whereIs_51, ↓tbX8_whereIs_52, ↓tbX8_whereIs_53, hfu, xstep0, xJ1_hit, xJ1_go, xJ2_hit1, xJ2_hit2, xJ2_go, ↓xif_t, ↓xif_f, seval, ↓xca_eq, ↓xre_l, ↓xre_r, xmask_t, xmask_f, xmask_nil, ↓xst_eq, xX_eq, eI_eq, eMc_eq, eMs_eq, eF_eq, eThr_eq, ↓xS1_mk, ↓xSI_mk, ↓xSR_mk, ↓xLI_0, ↓xLI_s, ↓xLR_0, ↓xLR_s, vRef_ref, vRef_null, vRef_rf, cat_int, cat_ref, cat_null, cat_rf, rf_some, rf_none, rf_null, rf_eq, rf_ref, ref_rf, ref_null, ref_ref, xOk_0, xOk_1, xOk_2r, xOk_2n, xOk_2f, vOpt_rf, vOpt_ref, vOpt_null, List.set_cons_zero, List.set_cons_succ, List.take_succ_cons, List.take_zero, List.drop_succ_cons, List.drop_zero, List.reverse_cons, List.reverse_nil, List.nil_append, List.cons_append, List.append_nil, List.length_cons, List.length_nil, List.map_cons, List.map_nil, List.sum_cons, List.sum_nil, Option.toList_some, Option.toList_none, xRecv_mk, true_and, and_true, true_implies, Nat.reduceAdd, Nat.reduceLeDiff, Nat.zero_le, Nat.le_refl, Nat.add_zero, Nat.zero_add, reduceIte, not_true_eq_false, not_false_eq_true, false_implies, and_self, implies_true, eq_self, Nat.reduceEqDiff, List.cons.injEq, xsn_1, xsn_2, false_and, and_false, or_false, false_or, or_true, true_or, xsn_3, xsn_4, mAst_1, mAst_2, mSet_1, mSet_2, bi_0, h1, ↓spwX8_isTied, spcX8_isTied, ↓spwX8_stands, spcX8_stands]
  try simp only [xif_e]
  unfold mWh at h
  repeat' (first | with_reducible apply And.intro | with_reducible intro _)
  all_goals grind (splits := 30) [bi]

def tbX8_ofBarge : List (Nat × xHint) := [(0, .aload_n 0, 0, 0, 0, []), (1, .aload_n 0, 0, 0, 0, []), (2, .iload_n 1, 1, 0, 0, []), (3, .invokevirtual 234, 0, 2, 9, []), (6, .ifCond .eq 17, 23, 0, 0, []), (9, .iload_n 2, 2, 0, 0, []), (10, .iconst 0, 0, 0, 0, []), (11, .bipush 6, 0, 0, 0, []), (13, .invokestatic 159, 1, 3, 0, []), (16, .ifCond .eq 7, 23, 0, 0, []), (19, .iconst 0, 0, 0, 0, []), (20, .goto 4, 24, 0, 0, []), (23, .iconst 1, 0, 0, 0, []), (24, .invokevirtual 183, 2, 2, 9, []), (27, .ifCond .ne 5, 32, 0, 0, []), (30, .iconst 0, 0, 0, 0, []), (31, .ireturn, 0, 0, 0, []), (32, .iload_n 2, 2, 0, 0, []), (33, .tableswitch 93 0 5 #[39, 45, 52, 59, 66, 87], 126, 0, 0, [72, 78, 85, 92, 99, 120]), (72, .aload_n 0, 0, 0, 0, []), (73, .iload_n 1, 1, 0, 0, []), (74, .invokevirtual 344, 3, 2, 9, []), (77, .ireturn, 0, 0, 0, []), (78, .aload_n 0, 0, 0, 0, []), (79, .getfield 65, 9, 24, 2, []), (82, .iload_n 1, 1, 0, 0, []), (83, .iaload, 24, 0, 0, []), (84, .ireturn, 0, 0, 0, []), (85, .aload_n 0, 0, 0, 0, []), (86, .getfield 68, 9, 25, 2, []), (89, .iload_n 1, 1, 0, 0, []), (90, .iaload, 25, 0, 0, []), (91, .ireturn, 0, 0, 0, []), (92, .aload_n 0, 0, 0, 0, []), (93, .getfield 71, 9, 26, 2, []), (96, .iload_n 1, 1, 0, 0, []), (97, .iaload, 26, 0, 0, []), (98, .ireturn, 0, 0, 0, []), (99, .aload_n 0, 0, 0, 0, []), (100, .iload_n 1, 1, 0, 0, []), (101, .invokevirtual 210, 4, 2, 9, []), (104, .ifCond .eq 14, 118, 0, 0, []), (107, .aload_n 0, 0, 0, 0, []), (108, .getfield 74, 9, 27, 2, []), (111, .iload_n 1, 1, 0, 0, []), (112, .iaload, 27, 0, 0, []), (113, .iconst 2, 0, 0, 0, []), (114, .irem, 0, 0, 0, []), (115, .goto 4, 119, 0, 0, []), (118, .iconst (-1), 0, 0, 0, []), (119, .ireturn, 0, 0, 0, []), (120, .aload_n 0, 0, 0, 0, []), (121, .iload_n 1, 1, 0, 0, []), (122, .invokevirtual 213, 5, 2, 9, []), (125, .ireturn, 0, 0, 0, []), (126, .aload_n 0, 0, 0, 0, []), (127, .iload_n 1, 1, 0, 0, []), (128, .invokevirtual 216, 6, 2, 9, []), (131, .ireturn, 0, 0, 0, [])]
def clX8_ofBarge : List (Instr × Nat × Nat × Nat) := [(.invokevirtual 234, 0, 2, 9), (.invokestatic 159, 1, 3, 0), (.invokevirtual 183, 2, 2, 9), (.invokevirtual 344, 3, 2, 9), (.invokevirtual 210, 4, 2, 9), (.invokevirtual 213, 5, 2, 9), (.invokevirtual 216, 6, 2, 9)]
def thX8_ofBarge : List (Nat × Nat) := []
theorem ckX8_ofBarge : tbX8_ofBarge.all (xRow RX8 cX8_ofBarge wsX8_ofBarge vwCl [9] clX8_ofBarge thX8_ofBarge 3 (yX8_ofBarge.name == "<init>") (some .int)) = true := xRow_q 0xacd800b61b2aacd500b61b2aac020400a770052e1b4a00b42a0e0099d200b61b2aac2e1b4700b42aac2e1b4400b42aac2e1b4100b42aac5801b61b2a57000000420000003b000000340000002d0000002700000005000000000000005d0000000000aa1cac0305009ab700b6040400a7030700999f00b80610031c110099ea00b61b2a2a 132 (by decide +kernel) (by decide +kernel)
theorem usX8_ofBarge : xUse wsX8_ofBarge vwCl [9] = true := xUse_g rfl (lw_good lwl_X8_ofBarge lwl_X80 (by decide +kernel)) xUse_n
theorem tbX8_ofBarge_0 {k : Instr → Nat → Nat → Nat → List Nat → Prop} : xse (xFind tbX8_ofBarge 0) k = k (.aload_n 0) 0 0 0 [] := rfl
theorem tbX8_ofBarge_1 {k : Instr → Nat → Nat → Nat → List Nat → Prop} : xse (xFind tbX8_ofBarge 1) k = k (.aload_n 0) 0 0 0 [] := rfl
theorem tbX8_ofBarge_2 {k : Instr → Nat → Nat → Nat → List Nat → Prop} : xse (xFind tbX8_ofBarge 2) k = k (.iload_n 1) 1 0 0 [] := rfl
theorem tbX8_ofBarge_3 {k : Instr → Nat → Nat → Nat → List Nat → Prop} : xse (xFind tbX8_ofBarge 3) k = k (.invokevirtual 234) 0 2 9 [] := rfl
theorem tbX8_ofBarge_6 {k : Instr → Nat → Nat → Nat → List Nat → Prop} : xse (xFind tbX8_ofBarge 6) k = k (.ifCond .eq 17) 23 0 0 [] := rfl
theorem tbX8_ofBarge_9 {k : Instr → Nat → Nat → Nat → List Nat → Prop} : xse (xFind tbX8_ofBarge 9) k = k (.iload_n 2) 2 0 0 [] := rfl
theorem tbX8_ofBarge_10 {k : Instr → Nat → Nat → Nat → List Nat → Prop} : xse (xFind tbX8_ofBarge 10) k = k (.iconst 0) 0 0 0 [] := rfl
theorem tbX8_ofBarge_11 {k : Instr → Nat → Nat → Nat → List Nat → Prop} : xse (xFind tbX8_ofBarge 11) k = k (.bipush 6) 0 0 0 [] := rfl
theorem tbX8_ofBarge_13 {k : Instr → Nat → Nat → Nat → List Nat → Prop} : xse (xFind tbX8_ofBarge 13) k = k (.invokestatic 159) 1 3 0 [] := rfl
theorem tbX8_ofBarge_16 {k : Instr → Nat → Nat → Nat → List Nat → Prop} : xse (xFind tbX8_ofBarge 16) k = k (.ifCond .eq 7) 23 0 0 [] := rfl
theorem tbX8_ofBarge_19 {k : Instr → Nat → Nat → Nat → List Nat → Prop} : xse (xFind tbX8_ofBarge 19) k = k (.iconst 0) 0 0 0 [] := rfl
theorem tbX8_ofBarge_20 {k : Instr → Nat → Nat → Nat → List Nat → Prop} : xse (xFind tbX8_ofBarge 20) k = k (.goto 4) 24 0 0 [] := rfl
theorem tbX8_ofBarge_23 {k : Instr → Nat → Nat → Nat → List Nat → Prop} : xse (xFind tbX8_ofBarge 23) k = k (.iconst 1) 0 0 0 [] := rfl
theorem tbX8_ofBarge_24 {k : Instr → Nat → Nat → Nat → List Nat → Prop} : xse (xFind tbX8_ofBarge 24) k = k (.invokevirtual 183) 2 2 9 [] := rfl
theorem tbX8_ofBarge_27 {k : Instr → Nat → Nat → Nat → List Nat → Prop} : xse (xFind tbX8_ofBarge 27) k = k (.ifCond .ne 5) 32 0 0 [] := rfl
theorem tbX8_ofBarge_30 {k : Instr → Nat → Nat → Nat → List Nat → Prop} : xse (xFind tbX8_ofBarge 30) k = k (.iconst 0) 0 0 0 [] := rfl
theorem tbX8_ofBarge_31 {k : Instr → Nat → Nat → Nat → List Nat → Prop} : xse (xFind tbX8_ofBarge 31) k = k (.ireturn) 0 0 0 [] := rfl
theorem tbX8_ofBarge_32 {k : Instr → Nat → Nat → Nat → List Nat → Prop} : xse (xFind tbX8_ofBarge 32) k = k (.iload_n 2) 2 0 0 [] := rfl
theorem tbX8_ofBarge_33 {k : Instr → Nat → Nat → Nat → List Nat → Prop} : xse (xFind tbX8_ofBarge 33) k = k (.tableswitch 93 0 5 #[39, 45, 52, 59, 66, 87]) 126 0 0 [72, 78, 85, 92, 99, 120] := rfl
theorem tbX8_ofBarge_72 {k : Instr → Nat → Nat → Nat → List Nat → Prop} : xse (xFind tbX8_ofBarge 72) k = k (.aload_n 0) 0 0 0 [] := rfl
theorem tbX8_ofBarge_73 {k : Instr → Nat → Nat → Nat → List Nat → Prop} : xse (xFind tbX8_ofBarge 73) k = k (.iload_n 1) 1 0 0 [] := rfl
theorem tbX8_ofBarge_74 {k : Instr → Nat → Nat → Nat → List Nat → Prop} : xse (xFind tbX8_ofBarge 74) k = k (.invokevirtual 344) 3 2 9 [] := rfl
theorem tbX8_ofBarge_77 {k : Instr → Nat → Nat → Nat → List Nat → Prop} : xse (xFind tbX8_ofBarge 77) k = k (.ireturn) 0 0 0 [] := rfl
theorem tbX8_ofBarge_78 {k : Instr → Nat → Nat → Nat → List Nat → Prop} : xse (xFind tbX8_ofBarge 78) k = k (.aload_n 0) 0 0 0 [] := rfl
theorem tbX8_ofBarge_79 {k : Instr → Nat → Nat → Nat → List Nat → Prop} : xse (xFind tbX8_ofBarge 79) k = k (.getfield 65) 9 24 2 [] := rfl
theorem tbX8_ofBarge_82 {k : Instr → Nat → Nat → Nat → List Nat → Prop} : xse (xFind tbX8_ofBarge 82) k = k (.iload_n 1) 1 0 0 [] := rfl
theorem tbX8_ofBarge_83 {k : Instr → Nat → Nat → Nat → List Nat → Prop} : xse (xFind tbX8_ofBarge 83) k = k (.iaload) 24 0 0 [] := rfl
theorem tbX8_ofBarge_84 {k : Instr → Nat → Nat → Nat → List Nat → Prop} : xse (xFind tbX8_ofBarge 84) k = k (.ireturn) 0 0 0 [] := rfl
theorem tbX8_ofBarge_85 {k : Instr → Nat → Nat → Nat → List Nat → Prop} : xse (xFind tbX8_ofBarge 85) k = k (.aload_n 0) 0 0 0 [] := rfl
theorem tbX8_ofBarge_86 {k : Instr → Nat → Nat → Nat → List Nat → Prop} : xse (xFind tbX8_ofBarge 86) k = k (.getfield 68) 9 25 2 [] := rfl
theorem tbX8_ofBarge_89 {k : Instr → Nat → Nat → Nat → List Nat → Prop} : xse (xFind tbX8_ofBarge 89) k = k (.iload_n 1) 1 0 0 [] := rfl
theorem tbX8_ofBarge_90 {k : Instr → Nat → Nat → Nat → List Nat → Prop} : xse (xFind tbX8_ofBarge 90) k = k (.iaload) 25 0 0 [] := rfl
theorem tbX8_ofBarge_91 {k : Instr → Nat → Nat → Nat → List Nat → Prop} : xse (xFind tbX8_ofBarge 91) k = k (.ireturn) 0 0 0 [] := rfl
theorem tbX8_ofBarge_92 {k : Instr → Nat → Nat → Nat → List Nat → Prop} : xse (xFind tbX8_ofBarge 92) k = k (.aload_n 0) 0 0 0 [] := rfl
theorem tbX8_ofBarge_93 {k : Instr → Nat → Nat → Nat → List Nat → Prop} : xse (xFind tbX8_ofBarge 93) k = k (.getfield 71) 9 26 2 [] := rfl
theorem tbX8_ofBarge_96 {k : Instr → Nat → Nat → Nat → List Nat → Prop} : xse (xFind tbX8_ofBarge 96) k = k (.iload_n 1) 1 0 0 [] := rfl
theorem tbX8_ofBarge_97 {k : Instr → Nat → Nat → Nat → List Nat → Prop} : xse (xFind tbX8_ofBarge 97) k = k (.iaload) 26 0 0 [] := rfl
theorem tbX8_ofBarge_98 {k : Instr → Nat → Nat → Nat → List Nat → Prop} : xse (xFind tbX8_ofBarge 98) k = k (.ireturn) 0 0 0 [] := rfl
theorem tbX8_ofBarge_99 {k : Instr → Nat → Nat → Nat → List Nat → Prop} : xse (xFind tbX8_ofBarge 99) k = k (.aload_n 0) 0 0 0 [] := rfl
theorem tbX8_ofBarge_100 {k : Instr → Nat → Nat → Nat → List Nat → Prop} : xse (xFind tbX8_ofBarge 100) k = k (.iload_n 1) 1 0 0 [] := rfl
theorem tbX8_ofBarge_101 {k : Instr → Nat → Nat → Nat → List Nat → Prop} : xse (xFind tbX8_ofBarge 101) k = k (.invokevirtual 210) 4 2 9 [] := rfl
theorem tbX8_ofBarge_104 {k : Instr → Nat → Nat → Nat → List Nat → Prop} : xse (xFind tbX8_ofBarge 104) k = k (.ifCond .eq 14) 118 0 0 [] := rfl
theorem tbX8_ofBarge_107 {k : Instr → Nat → Nat → Nat → List Nat → Prop} : xse (xFind tbX8_ofBarge 107) k = k (.aload_n 0) 0 0 0 [] := rfl
theorem tbX8_ofBarge_108 {k : Instr → Nat → Nat → Nat → List Nat → Prop} : xse (xFind tbX8_ofBarge 108) k = k (.getfield 74) 9 27 2 [] := rfl
theorem tbX8_ofBarge_111 {k : Instr → Nat → Nat → Nat → List Nat → Prop} : xse (xFind tbX8_ofBarge 111) k = k (.iload_n 1) 1 0 0 [] := rfl
theorem tbX8_ofBarge_112 {k : Instr → Nat → Nat → Nat → List Nat → Prop} : xse (xFind tbX8_ofBarge 112) k = k (.iaload) 27 0 0 [] := rfl
theorem tbX8_ofBarge_113 {k : Instr → Nat → Nat → Nat → List Nat → Prop} : xse (xFind tbX8_ofBarge 113) k = k (.iconst 2) 0 0 0 [] := rfl
theorem tbX8_ofBarge_114 {k : Instr → Nat → Nat → Nat → List Nat → Prop} : xse (xFind tbX8_ofBarge 114) k = k (.irem) 0 0 0 [] := rfl
theorem tbX8_ofBarge_115 {k : Instr → Nat → Nat → Nat → List Nat → Prop} : xse (xFind tbX8_ofBarge 115) k = k (.goto 4) 119 0 0 [] := rfl
theorem tbX8_ofBarge_118 {k : Instr → Nat → Nat → Nat → List Nat → Prop} : xse (xFind tbX8_ofBarge 118) k = k (.iconst (-1)) 0 0 0 [] := rfl
theorem tbX8_ofBarge_119 {k : Instr → Nat → Nat → Nat → List Nat → Prop} : xse (xFind tbX8_ofBarge 119) k = k (.ireturn) 0 0 0 [] := rfl
theorem tbX8_ofBarge_120 {k : Instr → Nat → Nat → Nat → List Nat → Prop} : xse (xFind tbX8_ofBarge 120) k = k (.aload_n 0) 0 0 0 [] := rfl
theorem tbX8_ofBarge_121 {k : Instr → Nat → Nat → Nat → List Nat → Prop} : xse (xFind tbX8_ofBarge 121) k = k (.iload_n 1) 1 0 0 [] := rfl
theorem tbX8_ofBarge_122 {k : Instr → Nat → Nat → Nat → List Nat → Prop} : xse (xFind tbX8_ofBarge 122) k = k (.invokevirtual 213) 5 2 9 [] := rfl
theorem tbX8_ofBarge_125 {k : Instr → Nat → Nat → Nat → List Nat → Prop} : xse (xFind tbX8_ofBarge 125) k = k (.ireturn) 0 0 0 [] := rfl
theorem tbX8_ofBarge_126 {k : Instr → Nat → Nat → Nat → List Nat → Prop} : xse (xFind tbX8_ofBarge 126) k = k (.aload_n 0) 0 0 0 [] := rfl
theorem tbX8_ofBarge_127 {k : Instr → Nat → Nat → Nat → List Nat → Prop} : xse (xFind tbX8_ofBarge 127) k = k (.iload_n 1) 1 0 0 [] := rfl
theorem tbX8_ofBarge_128 {k : Instr → Nat → Nat → Nat → List Nat → Prop} : xse (xFind tbX8_ofBarge 128) k = k (.invokevirtual 216) 6 2 9 [] := rfl
theorem tbX8_ofBarge_131 {k : Instr → Nat → Nat → Nat → List Nat → Prop} : xse (xFind tbX8_ofBarge 131) k = k (.ireturn) 0 0 0 [] := rfl

def spX8_ofBarge (aM : Nat → Nat) : xSp mS := (fun av M => (0, 0), fun av M K => ∃ (g : Int32) (w : Int32), av = [.ref (aM 0), .int g, .int w] ∧ ((M.1 22 = nI (nBg M) ∧ nBg M ≤ 24) ∧ (iBg M g → mPl (mSet M 0 0) g (mPlc (mSet M 0 0) g)) ∧ (iBg M g → ¬ M.2 28 g.toNatClampNeg = -1 → vp_in (M.2 28 g.toNatClampNeg) 6) ∧ K (rI (oOfBarge M g w).1) (oOfBarge M g w).2))
theorem spcX8_ofBarge {av : List Value} {M : mS} {aM : Nat → Nat} : (spX8_ofBarge aM).1 av M = (0, 0) := rfl
theorem spwX8_ofBarge {M : mS} {aM : Nat → Nat} {K : xRes → mS → Prop} {g : Int32} {w : Int32} : (spX8_ofBarge aM).2 [.ref (aM 0), .int g, .int w] M K = ((M.1 22 = nI (nBg M) ∧ nBg M ≤ 24) ∧ (iBg M g → mPl (mSet M 0 0) g (mPlc (mSet M 0 0) g)) ∧ (iBg M g → ¬ M.2 28 g.toNatClampNeg = -1 → vp_in (M.2 28 g.toNatClampNeg) 6) ∧ K (rI (oOfBarge M g w).1) (oOfBarge M g w).2) :=
  propext ⟨fun h => by
    simp only [spX8_ofBarge] at h
    obtain ⟨_, _, e, h⟩ := h
    simp only [List.cons.injEq, Value.int.injEq, Value.ref.injEq, rf_eq, and_true, true_and] at e
    obtain ⟨rfl, rfl⟩ := e
    exact h, fun h => ⟨_, _, rfl, h⟩⟩

def callX8_ofBarge (aM : Nat → Nat) : Nat → Option (xSp mS) := fun n => match n with | 0 => some (spX8_isBarge aM) | 1 => some (spX8_in aM) | 2 => some (spX8_holds aM) | 3 => some (spX8_whereIs aM) | 4 => some (spX8_isTied aM) | 5 => some (spX8_placeOf aM) | 6 => some (spX8_outside aM) | _ => none

theorem callX8_ofBarge_0 {aM : Nat → Nat} {k : xSp mS → Prop} : xcs (callX8_ofBarge aM 0) k = k (spX8_isBarge aM) := rfl

theorem callX8_ofBarge_1 {aM : Nat → Nat} {k : xSp mS → Prop} : xcs (callX8_ofBarge aM 1) k = k (spX8_in aM) := rfl

theorem callX8_ofBarge_2 {aM : Nat → Nat} {k : xSp mS → Prop} : xcs (callX8_ofBarge aM 2) k = k (spX8_holds aM) := rfl

theorem callX8_ofBarge_3 {aM : Nat → Nat} {k : xSp mS → Prop} : xcs (callX8_ofBarge aM 3) k = k (spX8_whereIs aM) := rfl

theorem callX8_ofBarge_4 {aM : Nat → Nat} {k : xSp mS → Prop} : xcs (callX8_ofBarge aM 4) k = k (spX8_isTied aM) := rfl

theorem callX8_ofBarge_5 {aM : Nat → Nat} {k : xSp mS → Prop} : xcs (callX8_ofBarge aM 5) k = k (spX8_placeOf aM) := rfl

theorem callX8_ofBarge_6 {aM : Nat → Nat} {k : xSp mS → Prop} : xcs (callX8_ofBarge aM 6) k = k (spX8_outside aM) := rfl

theorem crX8_ofBarge (l : Launch) (W9 : xWd) (aM : Nat → Nat) (hi : mInj aM) : xCallsOK l W9 (mI aM) (callX8_ofBarge aM) clX8_ofBarge RX8 wsX8_ofBarge 3 65 3 := by
  intro E A p e R s m args below meth c hI hF hL X
  exact List.forall_mem_cons.mpr ⟨⟨_, rfl, xCR_V X (by rw [hI]; exact (semX8_isBarge l W9 aM hi)) gX8_ofBarge_X8_isBarge rfl rfl (by decide +kernel) (by rw [hF, hL]; decide)⟩,
    List.forall_mem_cons.mpr ⟨⟨_, rfl, xCR_S X (by rw [hI]; exact (semX8_in l W9 aM hi)) gX8_ofBarge_X8_in rfl (by decide +kernel) (by rw [hF, hL]; decide)⟩,
    List.forall_mem_cons.mpr ⟨⟨_, rfl, xCR_V X (by rw [hI]; exact (semX8_holds l W9 aM hi)) gX8_ofBarge_X8_holds rfl rfl (by decide +kernel) (by rw [hF, hL]; decide)⟩,
    List.forall_mem_cons.mpr ⟨⟨_, rfl, xCR_V X (by rw [hI]; exact (semX8_whereIs l W9 aM hi)) gX8_ofBarge_X8_whereIs rfl rfl (by decide +kernel) (by rw [hF, hL]; decide)⟩,
    List.forall_mem_cons.mpr ⟨⟨_, rfl, xCR_V X (by rw [hI]; exact (semX8_isTied l W9 aM hi)) gX8_ofBarge_X8_isTied rfl rfl (by decide +kernel) (by rw [hF, hL]; decide)⟩,
    List.forall_mem_cons.mpr ⟨⟨_, rfl, xCR_V X (by rw [hI]; exact (semX8_placeOf l W9 aM hi)) gX8_ofBarge_X8_placeOf rfl rfl (by decide +kernel) (by rw [hF, hL]; decide)⟩,
    List.forall_mem_cons.mpr ⟨⟨_, rfl, xCR_V X (by rw [hI]; exact (semX8_outside l W9 aM hi)) gX8_ofBarge_X8_outside rfl rfl (by decide +kernel) (by rw [hF, hL]; decide)⟩,
    fun _ h => nomatch h⟩⟩⟩⟩⟩⟩⟩

set_option maxHeartbeats 4000000 in
set_option maxRecDepth 20000 in
theorem semX8_ofBarge (l : Launch) (W9 : xWd) (aM : Nat → Nat) (hi : mInj aM) : xSem l W9 (mI aM) yX8_ofBarge wsX8_ofBarge 3 65 (spX8_ofBarge aM) := by
  refine xSem_of (call := callX8_ofBarge aM) (thrf := fun _ => "") (mI_law hi) (by decide +kernel) rfl ckX8_ofBarge usX8_ofBarge (crX8_ofBarge l W9 aM hi) xThrOK_nil ?_ ?_
  · intro av M KF h
    obtain ⟨g, w, rfl, h⟩ := h
    exact ⟨by intro v hv; simp only [List.mem_cons, List.not_mem_nil, or_false] at hv; rcases hv with rfl | rfl | rfl <;> first | rfl | exact cat_rf, Nat.le_of_ble_eq_true rfl⟩
  intro av M KF h G hG
  obtain ⟨g, w, rfl, h⟩ := h
  rw [show (spX8_ofBarge aM).1 _ M = _ from spcX8_ofBarge] at hG
  try dsimp only at hG
  change G 0 [some (.ref (aM 0)), some (.int g), some (.int w)] [] M 0 0
  obtain ⟨hn, hp, ht, h⟩ := h
  refine xgo0 hG (fun fu hfu => ?_)
  clear hG
  simp only [↓callX8_ofBarge_0, ↓callX8_ofBarge_1, ↓callX8_ofBarge_2, ↓callX8_ofBarge_3, ↓callX8_ofBarge_4, ↓callX8_ofBarge_5, ↓callX8_ofBarge_6, kb_6, kc_6, ki_0, ki_1, ki_2, ki_m1, ↓ma_24, ↓ma_25, ↓ma_26, ↓ma_27, ↓mg_24, ↓mg_25, ↓mg_26, ↓mg_27, misa, ↓vm_aload_n, ↓vm_bipush, ↓vm_getfield, ↓vm_goto, ↓vm_iaload, ↓vm_iconst, ↓vm_ifCond_eq, ↓vm_ifCond_ne, ↓vm_iload_n, ↓vm_invokestatic, ↓vm_invokevirtual, ↓vm_irem, ↓vm_ireturn, ↓vm_tableswitch, ↓xTs_cons, ↓xTs_nil, ↓xc_2, ↓xc_3, ↓tbX8_ofBarge_0, ↓tbX8_ofBarge_1, ↓tbX8_ofBarge_2, ↓tbX8_ofBarge_3, ↓tbX8_ofBarge_6, ↓tbX8_ofBarge_9, ↓tbX8_ofBarge_10, ↓tbX8_ofBarge_11, ↓tbX8_ofBarge_13, ↓tbX8_ofBarge_16, ↓tbX8_ofBarge_19, ↓tbX8_ofBarge_20, ↓tbX8_ofBarge_23, ↓tbX8_ofBarge_24, ↓tbX8_ofBarge_27, ↓tbX8_ofBarge_30, ↓tbX8_ofBarge_31, ↓tbX8_ofBarge_32, ↓tbX8_ofBarge_33, ↓tbX8_ofBarge_72, ↓tbX8_ofBarge_73, ↓tbX8_ofBarge_74, ↓tbX8_ofBarge_77, ↓tbX8_ofBarge_78, ↓tbX8_ofBarge_79, ↓tbX8_ofBarge_82, ↓tbX8_ofBarge_83, ↓tbX8_ofBarge_84, ↓tbX8_ofBarge_85, ↓tbX8_ofBarge_86, ↓tbX8_ofBarge_89, ↓tbX8_ofBarge_90, ↓tbX8_ofBarge_91, ↓tbX8_ofBarge_92, ↓tbX8_ofBarge_93, ↓tbX8_ofBarge_96, ↓tbX8_ofBarge_97, ↓tbX8_ofBarge_98, ↓tbX8_ofBarge_99, ↓tbX8_ofBarge_100, ↓tbX8_ofBarge_101, ↓tbX8_ofBarge_104, ↓tbX8_ofBarge_107, ↓tbX8_ofBarge_108, ↓tbX8_ofBarge_111, ↓tbX8_ofBarge_112, ↓tbX8_ofBarge_113, ↓tbX8_ofBarge_114, ↓tbX8_ofBarge_115, ↓tbX8_ofBarge_118, ↓tbX8_ofBarge_119, ↓tbX8_ofBarge_120, ↓tbX8_ofBarge_121, ↓tbX8_ofBarge_122, ↓tbX8_ofBarge_125, ↓tbX8_ofBarge_126, ↓tbX8_ofBarge_127, ↓tbX8_ofBarge_128, ↓tbX8_ofBarge_131, hfu, xstep0, xJ1_hit, xJ1_go, xJ2_hit1, xJ2_hit2, xJ2_go, ↓xif_t, ↓xif_f, seval, ↓xca_eq, ↓xre_l, ↓xre_r, xmask_t, xmask_f, xmask_nil, ↓xst_eq, xX_eq, eI_eq, eMc_eq, eMs_eq, eF_eq, eThr_eq, ↓xS1_mk, ↓xSI_mk, ↓xSR_mk, ↓xLI_0, ↓xLI_s, ↓xLR_0, ↓xLR_s, vRef_ref, vRef_null, vRef_rf, cat_int, cat_ref, cat_null, cat_rf, rf_some, rf_none, rf_null, rf_eq, rf_ref, ref_rf, ref_null, ref_ref, xOk_0, xOk_1, xOk_2r, xOk_2n, xOk_2f, vOpt_rf, vOpt_ref, vOpt_null, List.set_cons_zero, List.set_cons_succ, List.take_succ_cons, List.take_zero, List.drop_succ_cons, List.drop_zero, List.reverse_cons, List.reverse_nil, List.nil_append, List.cons_append, List.append_nil, List.length_cons, List.length_nil, List.map_cons, List.map_nil, List.sum_cons, List.sum_nil, Option.toList_some, Option.toList_none, xRecv_mk, true_and, and_true, true_implies, Nat.reduceAdd, Nat.reduceLeDiff, Nat.zero_le, Nat.le_refl, Nat.add_zero, Nat.zero_add, reduceIte, not_true_eq_false, not_false_eq_true, false_implies, and_self, implies_true, eq_self, Nat.reduceEqDiff, List.cons.injEq, xsn_1, xsn_2, false_and, and_false, or_false, false_or, or_true, true_or, xsn_3, xsn_4, mAst_1, mAst_2, mSet_1, mSet_2, bi_0, ti_0, ti_1, ti_2, ti_3, ti_4, ti_5, ti_6, ti_7, ti_8, ti_9, tlt_0, tgt_5, tgt_9, ↓spwX8_isBarge, spcX8_isBarge, ↓spwX8_in, spcX8_in, ↓spwX8_holds, spcX8_holds, ↓spwX8_whereIs, spcX8_whereIs, ↓spwX8_isTied, spcX8_isTied, ↓spwX8_placeOf, spcX8_placeOf, ↓spwX8_outside, spcX8_outside]
  try simp only [xif_e]
  unfold oOfBarge mTell at h
  simp only [mSet_2] at h
  unfold iBg at hp ht
  have h7 := @in_bg M g hn
  repeat' (first | with_reducible apply And.intro | with_reducible intro _)
  all_goals grind (splits := 30) [bi]

def tbX8_placeAnew : List (Nat × xHint) := [(0, .aload_n 0, 0, 0, 0, []), (1, .aload_n 0, 0, 0, 0, []), (2, .iload_n 1, 1, 0, 0, []), (3, .invokevirtual 234, 0, 2, 9, []), (6, .ifCond .eq 7, 13, 0, 0, []), (9, .iconst 0, 0, 0, 0, []), (10, .goto 4, 14, 0, 0, []), (13, .iconst 1, 0, 0, 0, []), (14, .invokevirtual 183, 1, 2, 9, []), (17, .ifCond .eq 11, 28, 0, 0, []), (20, .aload_n 0, 0, 0, 0, []), (21, .iload_n 1, 1, 0, 0, []), (22, .invokevirtual 344, 2, 2, 9, []), (25, .goto 4, 29, 0, 0, []), (28, .iconst 0, 0, 0, 0, []), (29, .ireturn, 0, 0, 0, [])]
def clX8_placeAnew : List (Instr × Nat × Nat × Nat) := [(.invokevirtual 234, 0, 2, 9), (.invokevirtual 183, 1, 2, 9), (.invokevirtual 344, 2, 2, 9)]
def thX8_placeAnew : List (Nat × Nat) := []
theorem ckX8_placeAnew : tbX8_placeAnew.all (xRow RX8 cX8_placeAnew wsX8_placeAnew vwCl [] clX8_placeAnew thX8_placeAnew 2 (yX8_placeAnew.name == "<init>") (some .int)) = true := xRow_q 0xac030400a75801b61b2a0b0099b700b6040400a703070099ea00b61b2a2a 30 (by decide +kernel) (by decide +kernel)
theorem usX8_placeAnew : xUse wsX8_placeAnew vwCl [] = true := xUse_n
theorem tbX8_placeAnew_0 {k : Instr → Nat → Nat → Nat → List Nat → Prop} : xse (xFind tbX8_placeAnew 0) k = k (.aload_n 0) 0 0 0 [] := rfl
theorem tbX8_placeAnew_1 {k : Instr → Nat → Nat → Nat → List Nat → Prop} : xse (xFind tbX8_placeAnew 1) k = k (.aload_n 0) 0 0 0 [] := rfl
theorem tbX8_placeAnew_2 {k : Instr → Nat → Nat → Nat → List Nat → Prop} : xse (xFind tbX8_placeAnew 2) k = k (.iload_n 1) 1 0 0 [] := rfl
theorem tbX8_placeAnew_3 {k : Instr → Nat → Nat → Nat → List Nat → Prop} : xse (xFind tbX8_placeAnew 3) k = k (.invokevirtual 234) 0 2 9 [] := rfl
theorem tbX8_placeAnew_6 {k : Instr → Nat → Nat → Nat → List Nat → Prop} : xse (xFind tbX8_placeAnew 6) k = k (.ifCond .eq 7) 13 0 0 [] := rfl
theorem tbX8_placeAnew_9 {k : Instr → Nat → Nat → Nat → List Nat → Prop} : xse (xFind tbX8_placeAnew 9) k = k (.iconst 0) 0 0 0 [] := rfl
theorem tbX8_placeAnew_10 {k : Instr → Nat → Nat → Nat → List Nat → Prop} : xse (xFind tbX8_placeAnew 10) k = k (.goto 4) 14 0 0 [] := rfl
theorem tbX8_placeAnew_13 {k : Instr → Nat → Nat → Nat → List Nat → Prop} : xse (xFind tbX8_placeAnew 13) k = k (.iconst 1) 0 0 0 [] := rfl
theorem tbX8_placeAnew_14 {k : Instr → Nat → Nat → Nat → List Nat → Prop} : xse (xFind tbX8_placeAnew 14) k = k (.invokevirtual 183) 1 2 9 [] := rfl
theorem tbX8_placeAnew_17 {k : Instr → Nat → Nat → Nat → List Nat → Prop} : xse (xFind tbX8_placeAnew 17) k = k (.ifCond .eq 11) 28 0 0 [] := rfl
theorem tbX8_placeAnew_20 {k : Instr → Nat → Nat → Nat → List Nat → Prop} : xse (xFind tbX8_placeAnew 20) k = k (.aload_n 0) 0 0 0 [] := rfl
theorem tbX8_placeAnew_21 {k : Instr → Nat → Nat → Nat → List Nat → Prop} : xse (xFind tbX8_placeAnew 21) k = k (.iload_n 1) 1 0 0 [] := rfl
theorem tbX8_placeAnew_22 {k : Instr → Nat → Nat → Nat → List Nat → Prop} : xse (xFind tbX8_placeAnew 22) k = k (.invokevirtual 344) 2 2 9 [] := rfl
theorem tbX8_placeAnew_25 {k : Instr → Nat → Nat → Nat → List Nat → Prop} : xse (xFind tbX8_placeAnew 25) k = k (.goto 4) 29 0 0 [] := rfl
theorem tbX8_placeAnew_28 {k : Instr → Nat → Nat → Nat → List Nat → Prop} : xse (xFind tbX8_placeAnew 28) k = k (.iconst 0) 0 0 0 [] := rfl
theorem tbX8_placeAnew_29 {k : Instr → Nat → Nat → Nat → List Nat → Prop} : xse (xFind tbX8_placeAnew 29) k = k (.ireturn) 0 0 0 [] := rfl

def spX8_placeAnew (aM : Nat → Nat) : xSp mS := (fun av M => (0, 0), fun av M K => ∃ (g : Int32), av = [.ref (aM 0), .int g] ∧ ((M.1 22 = nI (nBg M) ∧ nBg M ≤ 24) ∧ (iBg M g → ¬ M.2 28 g.toNatClampNeg = -1 → vp_in (M.2 28 g.toNatClampNeg) 6) ∧ K (rI (oPlaceAnew M g).1) (oPlaceAnew M g).2))
theorem spcX8_placeAnew {av : List Value} {M : mS} {aM : Nat → Nat} : (spX8_placeAnew aM).1 av M = (0, 0) := rfl
theorem spwX8_placeAnew {M : mS} {aM : Nat → Nat} {K : xRes → mS → Prop} {g : Int32} : (spX8_placeAnew aM).2 [.ref (aM 0), .int g] M K = ((M.1 22 = nI (nBg M) ∧ nBg M ≤ 24) ∧ (iBg M g → ¬ M.2 28 g.toNatClampNeg = -1 → vp_in (M.2 28 g.toNatClampNeg) 6) ∧ K (rI (oPlaceAnew M g).1) (oPlaceAnew M g).2) :=
  propext ⟨fun h => by
    simp only [spX8_placeAnew] at h
    obtain ⟨_, e, h⟩ := h
    simp only [List.cons.injEq, Value.int.injEq, Value.ref.injEq, rf_eq, and_true, true_and] at e
    obtain rfl := e
    exact h, fun h => ⟨_, rfl, h⟩⟩

def callX8_placeAnew (aM : Nat → Nat) : Nat → Option (xSp mS) := fun n => match n with | 0 => some (spX8_isBarge aM) | 1 => some (spX8_holds aM) | 2 => some (spX8_whereIs aM) | _ => none

theorem callX8_placeAnew_0 {aM : Nat → Nat} {k : xSp mS → Prop} : xcs (callX8_placeAnew aM 0) k = k (spX8_isBarge aM) := rfl

theorem callX8_placeAnew_1 {aM : Nat → Nat} {k : xSp mS → Prop} : xcs (callX8_placeAnew aM 1) k = k (spX8_holds aM) := rfl

theorem callX8_placeAnew_2 {aM : Nat → Nat} {k : xSp mS → Prop} : xcs (callX8_placeAnew aM 2) k = k (spX8_whereIs aM) := rfl

theorem crX8_placeAnew (l : Launch) (W9 : xWd) (aM : Nat → Nat) (hi : mInj aM) : xCallsOK l W9 (mI aM) (callX8_placeAnew aM) clX8_placeAnew RX8 wsX8_placeAnew 2 43 2 := by
  intro E A p e R s m args below meth c hI hF hL X
  exact List.forall_mem_cons.mpr ⟨⟨_, rfl, xCR_V X (by rw [hI]; exact (semX8_isBarge l W9 aM hi)) gX8_placeAnew_X8_isBarge rfl rfl (by decide +kernel) (by rw [hF, hL]; decide)⟩,
    List.forall_mem_cons.mpr ⟨⟨_, rfl, xCR_V X (by rw [hI]; exact (semX8_holds l W9 aM hi)) gX8_placeAnew_X8_holds rfl rfl (by decide +kernel) (by rw [hF, hL]; decide)⟩,
    List.forall_mem_cons.mpr ⟨⟨_, rfl, xCR_V X (by rw [hI]; exact (semX8_whereIs l W9 aM hi)) gX8_placeAnew_X8_whereIs rfl rfl (by decide +kernel) (by rw [hF, hL]; decide)⟩,
    fun _ h => nomatch h⟩⟩⟩

set_option maxHeartbeats 4000000 in
set_option maxRecDepth 20000 in
theorem semX8_placeAnew (l : Launch) (W9 : xWd) (aM : Nat → Nat) (hi : mInj aM) : xSem l W9 (mI aM) yX8_placeAnew wsX8_placeAnew 2 43 (spX8_placeAnew aM) := by
  refine xSem_of (call := callX8_placeAnew aM) (thrf := fun _ => "") (mI_law hi) (by decide +kernel) rfl ckX8_placeAnew usX8_placeAnew (crX8_placeAnew l W9 aM hi) xThrOK_nil ?_ ?_
  · intro av M KF h
    obtain ⟨g, rfl, h⟩ := h
    exact ⟨by intro v hv; simp only [List.mem_cons, List.not_mem_nil, or_false] at hv; rcases hv with rfl | rfl <;> first | rfl | exact cat_rf, Nat.le_of_ble_eq_true rfl⟩
  intro av M KF h G hG
  obtain ⟨g, rfl, h⟩ := h
  rw [show (spX8_placeAnew aM).1 _ M = _ from spcX8_placeAnew] at hG
  try dsimp only at hG
  change G 0 [some (.ref (aM 0)), some (.int g)] [] M 0 0
  obtain ⟨hn, ht, h⟩ := h
  refine xgo0 hG (fun fu hfu => ?_)
  clear hG
  simp only [↓callX8_placeAnew_0, ↓callX8_placeAnew_1, ↓callX8_placeAnew_2, ki_0, ki_1, misa, ↓vm_aload_n, ↓vm_goto, ↓vm_iconst, ↓vm_ifCond_eq, ↓vm_iload_n, ↓vm_invokevirtual, ↓vm_ireturn, ↓xc_2, ↓tbX8_placeAnew_0, ↓tbX8_placeAnew_1, ↓tbX8_placeAnew_2, ↓tbX8_placeAnew_3, ↓tbX8_placeAnew_6, ↓tbX8_placeAnew_9, ↓tbX8_placeAnew_10, ↓tbX8_placeAnew_13, ↓tbX8_placeAnew_14, ↓tbX8_placeAnew_17, ↓tbX8_placeAnew_20, ↓tbX8_placeAnew_21, ↓tbX8_placeAnew_22, ↓tbX8_placeAnew_25, ↓tbX8_placeAnew_28, ↓tbX8_placeAnew_29, hfu, xstep0, xJ1_hit, xJ1_go, xJ2_hit1, xJ2_hit2, xJ2_go, ↓xif_t, ↓xif_f, seval, ↓xca_eq, ↓xre_l, ↓xre_r, xmask_t, xmask_f, xmask_nil, ↓xst_eq, xX_eq, eI_eq, eMc_eq, eMs_eq, eF_eq, eThr_eq, ↓xS1_mk, ↓xSI_mk, ↓xSR_mk, ↓xLI_0, ↓xLI_s, ↓xLR_0, ↓xLR_s, vRef_ref, vRef_null, vRef_rf, cat_int, cat_ref, cat_null, cat_rf, rf_some, rf_none, rf_null, rf_eq, rf_ref, ref_rf, ref_null, ref_ref, xOk_0, xOk_1, xOk_2r, xOk_2n, xOk_2f, vOpt_rf, vOpt_ref, vOpt_null, List.set_cons_zero, List.set_cons_succ, List.take_succ_cons, List.take_zero, List.drop_succ_cons, List.drop_zero, List.reverse_cons, List.reverse_nil, List.nil_append, List.cons_append, List.append_nil, List.length_cons, List.length_nil, List.map_cons, List.map_nil, List.sum_cons, List.sum_nil, Option.toList_some, Option.toList_none, xRecv_mk, true_and, and_true, true_implies, Nat.reduceAdd, Nat.reduceLeDiff, Nat.zero_le, Nat.le_refl, Nat.add_zero, Nat.zero_add, reduceIte, not_true_eq_false, not_false_eq_true, false_implies, and_self, implies_true, eq_self, Nat.reduceEqDiff, List.cons.injEq, xsn_1, xsn_2, false_and, and_false, or_false, false_or, or_true, true_or, xsn_3, xsn_4, mAst_1, mAst_2, mSet_1, mSet_2, bi_0, ↓spwX8_isBarge, spcX8_isBarge, ↓spwX8_holds, spcX8_holds, ↓spwX8_whereIs, spcX8_whereIs]
  try simp only [xif_e]
  unfold oPlaceAnew at h
  unfold iBg at ht
  have h7 := @in_bg M g hn
  repeat' (first | with_reducible apply And.intro | with_reducible intro _)
  all_goals grind (splits := 30) [bi]

def tbX8_ofContract : List (Nat × xHint) := [(0, .aload_n 0, 0, 0, 0, []), (1, .aload_n 0, 0, 0, 0, []), (2, .iload_n 1, 1, 0, 0, []), (3, .invokevirtual 207, 0, 2, 9, []), (6, .ifCond .eq 16, 22, 0, 0, []), (9, .iload_n 2, 2, 0, 0, []), (10, .iconst 0, 0, 0, 0, []), (11, .iconst 5, 0, 0, 0, []), (12, .invokestatic 159, 1, 3, 0, []), (15, .ifCond .eq 7, 22, 0, 0, []), (18, .iconst 0, 0, 0, 0, []), (19, .goto 4, 23, 0, 0, []), (22, .iconst 1, 0, 0, 0, []), (23, .invokevirtual 183, 2, 2, 9, []), (26, .ifCond .ne 5, 31, 0, 0, []), (29, .iconst 0, 0, 0, 0, []), (30, .ireturn, 0, 0, 0, []), (31, .iload_n 2, 2, 0, 0, []), (32, .iconst 3, 0, 0, 0, []), (33, .if_icmp .ge 35, 68, 0, 0, []), (36, .iload_n 2, 2, 0, 0, []), (37, .ifCond .ne 11, 48, 0, 0, []), (40, .aload_n 0, 0, 0, 0, []), (41, .iload_n 1, 1, 0, 0, []), (42, .invokevirtual 231, 3, 2, 9, []), (45, .goto 22, 67, 0, 0, []), (48, .iload_n 2, 2, 0, 0, []), (49, .iconst 1, 0, 0, 0, []), (50, .if_icmp .ne 11, 61, 0, 0, []), (53, .aload_n 0, 0, 0, 0, []), (54, .iload_n 1, 1, 0, 0, []), (55, .invokevirtual 219, 4, 2, 9, []), (58, .goto 9, 67, 0, 0, []), (61, .aload_n 0, 0, 0, 0, []), (62, .getfield 146, 9, 53, 2, []), (65, .iload_n 1, 1, 0, 0, []), (66, .iaload, 53, 0, 0, []), (67, .ireturn, 0, 0, 0, []), (68, .iload_n 2, 2, 0, 0, []), (69, .iconst 3, 0, 0, 0, []), (70, .if_icmp .ne 12, 82, 0, 0, []), (73, .aload_n 0, 0, 0, 0, []), (74, .getfield 149, 9, 54, 2, []), (77, .iload_n 1, 1, 0, 0, []), (78, .iaload, 54, 0, 0, []), (79, .goto 23, 102, 0, 0, []), (82, .iload_n 2, 2, 0, 0, []), (83, .iconst 4, 0, 0, 0, []), (84, .if_icmp .ne 12, 96, 0, 0, []), (87, .aload_n 0, 0, 0, 0, []), (88, .getfield 134, 9, 49, 2, []), (91, .iload_n 1, 1, 0, 0, []), (92, .iaload, 49, 0, 0, []), (93, .goto 9, 102, 0, 0, []), (96, .aload_n 0, 0, 0, 0, []), (97, .getfield 152, 9, 55, 2, []), (100, .iload_n 1, 1, 0, 0, []), (101, .iaload, 55, 0, 0, []), (102, .ireturn, 0, 0, 0, [])]
def clX8_ofContract : List (Instr × Nat × Nat × Nat) := [(.invokevirtual 207, 0, 2, 9), (.invokestatic 159, 1, 3, 0), (.invokevirtual 183, 2, 2, 9), (.invokevirtual 231, 3, 2, 9), (.invokevirtual 219, 4, 2, 9)]
def thX8_ofContract : List (Nat × Nat) := []
theorem ckX8_ofContract : tbX8_ofContract.all (xRow RX8 cX8_ofContract wsX8_ofContract vwCl [9] clX8_ofContract thX8_ofContract 3 (yX8_ofContract.name == "<init>") (some .int)) = true := xRow_q 0xac2e1b9800b42a0900a72e1b8600b42a0c00a0071c1700a72e1b9500b42a0c00a0061cac2e1b9200b42a0900a7db00b61b2a0b00a0041c1600a7e700b61b2a0b009a1c2300a2061cac0305009ab700b6040400a7030700999f00b808031c100099cf00b61b2a2a 103 (by decide +kernel) (by decide +kernel)
theorem usX8_ofContract : xUse wsX8_ofContract vwCl [9] = true := xUse_g rfl (lw_good lwl_X8_ofContract lwl_X80 (by decide +kernel)) xUse_n
theorem tbX8_ofContract_0 {k : Instr → Nat → Nat → Nat → List Nat → Prop} : xse (xFind tbX8_ofContract 0) k = k (.aload_n 0) 0 0 0 [] := rfl
theorem tbX8_ofContract_1 {k : Instr → Nat → Nat → Nat → List Nat → Prop} : xse (xFind tbX8_ofContract 1) k = k (.aload_n 0) 0 0 0 [] := rfl
theorem tbX8_ofContract_2 {k : Instr → Nat → Nat → Nat → List Nat → Prop} : xse (xFind tbX8_ofContract 2) k = k (.iload_n 1) 1 0 0 [] := rfl
theorem tbX8_ofContract_3 {k : Instr → Nat → Nat → Nat → List Nat → Prop} : xse (xFind tbX8_ofContract 3) k = k (.invokevirtual 207) 0 2 9 [] := rfl
theorem tbX8_ofContract_6 {k : Instr → Nat → Nat → Nat → List Nat → Prop} : xse (xFind tbX8_ofContract 6) k = k (.ifCond .eq 16) 22 0 0 [] := rfl
theorem tbX8_ofContract_9 {k : Instr → Nat → Nat → Nat → List Nat → Prop} : xse (xFind tbX8_ofContract 9) k = k (.iload_n 2) 2 0 0 [] := rfl
theorem tbX8_ofContract_10 {k : Instr → Nat → Nat → Nat → List Nat → Prop} : xse (xFind tbX8_ofContract 10) k = k (.iconst 0) 0 0 0 [] := rfl
theorem tbX8_ofContract_11 {k : Instr → Nat → Nat → Nat → List Nat → Prop} : xse (xFind tbX8_ofContract 11) k = k (.iconst 5) 0 0 0 [] := rfl
theorem tbX8_ofContract_12 {k : Instr → Nat → Nat → Nat → List Nat → Prop} : xse (xFind tbX8_ofContract 12) k = k (.invokestatic 159) 1 3 0 [] := rfl
theorem tbX8_ofContract_15 {k : Instr → Nat → Nat → Nat → List Nat → Prop} : xse (xFind tbX8_ofContract 15) k = k (.ifCond .eq 7) 22 0 0 [] := rfl
theorem tbX8_ofContract_18 {k : Instr → Nat → Nat → Nat → List Nat → Prop} : xse (xFind tbX8_ofContract 18) k = k (.iconst 0) 0 0 0 [] := rfl
theorem tbX8_ofContract_19 {k : Instr → Nat → Nat → Nat → List Nat → Prop} : xse (xFind tbX8_ofContract 19) k = k (.goto 4) 23 0 0 [] := rfl
theorem tbX8_ofContract_22 {k : Instr → Nat → Nat → Nat → List Nat → Prop} : xse (xFind tbX8_ofContract 22) k = k (.iconst 1) 0 0 0 [] := rfl
theorem tbX8_ofContract_23 {k : Instr → Nat → Nat → Nat → List Nat → Prop} : xse (xFind tbX8_ofContract 23) k = k (.invokevirtual 183) 2 2 9 [] := rfl
theorem tbX8_ofContract_26 {k : Instr → Nat → Nat → Nat → List Nat → Prop} : xse (xFind tbX8_ofContract 26) k = k (.ifCond .ne 5) 31 0 0 [] := rfl
theorem tbX8_ofContract_29 {k : Instr → Nat → Nat → Nat → List Nat → Prop} : xse (xFind tbX8_ofContract 29) k = k (.iconst 0) 0 0 0 [] := rfl
theorem tbX8_ofContract_30 {k : Instr → Nat → Nat → Nat → List Nat → Prop} : xse (xFind tbX8_ofContract 30) k = k (.ireturn) 0 0 0 [] := rfl
theorem tbX8_ofContract_31 {k : Instr → Nat → Nat → Nat → List Nat → Prop} : xse (xFind tbX8_ofContract 31) k = k (.iload_n 2) 2 0 0 [] := rfl
theorem tbX8_ofContract_32 {k : Instr → Nat → Nat → Nat → List Nat → Prop} : xse (xFind tbX8_ofContract 32) k = k (.iconst 3) 0 0 0 [] := rfl
theorem tbX8_ofContract_33 {k : Instr → Nat → Nat → Nat → List Nat → Prop} : xse (xFind tbX8_ofContract 33) k = k (.if_icmp .ge 35) 68 0 0 [] := rfl
theorem tbX8_ofContract_36 {k : Instr → Nat → Nat → Nat → List Nat → Prop} : xse (xFind tbX8_ofContract 36) k = k (.iload_n 2) 2 0 0 [] := rfl
theorem tbX8_ofContract_37 {k : Instr → Nat → Nat → Nat → List Nat → Prop} : xse (xFind tbX8_ofContract 37) k = k (.ifCond .ne 11) 48 0 0 [] := rfl
theorem tbX8_ofContract_40 {k : Instr → Nat → Nat → Nat → List Nat → Prop} : xse (xFind tbX8_ofContract 40) k = k (.aload_n 0) 0 0 0 [] := rfl
theorem tbX8_ofContract_41 {k : Instr → Nat → Nat → Nat → List Nat → Prop} : xse (xFind tbX8_ofContract 41) k = k (.iload_n 1) 1 0 0 [] := rfl
theorem tbX8_ofContract_42 {k : Instr → Nat → Nat → Nat → List Nat → Prop} : xse (xFind tbX8_ofContract 42) k = k (.invokevirtual 231) 3 2 9 [] := rfl
theorem tbX8_ofContract_45 {k : Instr → Nat → Nat → Nat → List Nat → Prop} : xse (xFind tbX8_ofContract 45) k = k (.goto 22) 67 0 0 [] := rfl
theorem tbX8_ofContract_48 {k : Instr → Nat → Nat → Nat → List Nat → Prop} : xse (xFind tbX8_ofContract 48) k = k (.iload_n 2) 2 0 0 [] := rfl
theorem tbX8_ofContract_49 {k : Instr → Nat → Nat → Nat → List Nat → Prop} : xse (xFind tbX8_ofContract 49) k = k (.iconst 1) 0 0 0 [] := rfl
theorem tbX8_ofContract_50 {k : Instr → Nat → Nat → Nat → List Nat → Prop} : xse (xFind tbX8_ofContract 50) k = k (.if_icmp .ne 11) 61 0 0 [] := rfl
theorem tbX8_ofContract_53 {k : Instr → Nat → Nat → Nat → List Nat → Prop} : xse (xFind tbX8_ofContract 53) k = k (.aload_n 0) 0 0 0 [] := rfl
theorem tbX8_ofContract_54 {k : Instr → Nat → Nat → Nat → List Nat → Prop} : xse (xFind tbX8_ofContract 54) k = k (.iload_n 1) 1 0 0 [] := rfl
theorem tbX8_ofContract_55 {k : Instr → Nat → Nat → Nat → List Nat → Prop} : xse (xFind tbX8_ofContract 55) k = k (.invokevirtual 219) 4 2 9 [] := rfl
theorem tbX8_ofContract_58 {k : Instr → Nat → Nat → Nat → List Nat → Prop} : xse (xFind tbX8_ofContract 58) k = k (.goto 9) 67 0 0 [] := rfl
theorem tbX8_ofContract_61 {k : Instr → Nat → Nat → Nat → List Nat → Prop} : xse (xFind tbX8_ofContract 61) k = k (.aload_n 0) 0 0 0 [] := rfl
theorem tbX8_ofContract_62 {k : Instr → Nat → Nat → Nat → List Nat → Prop} : xse (xFind tbX8_ofContract 62) k = k (.getfield 146) 9 53 2 [] := rfl
theorem tbX8_ofContract_65 {k : Instr → Nat → Nat → Nat → List Nat → Prop} : xse (xFind tbX8_ofContract 65) k = k (.iload_n 1) 1 0 0 [] := rfl
theorem tbX8_ofContract_66 {k : Instr → Nat → Nat → Nat → List Nat → Prop} : xse (xFind tbX8_ofContract 66) k = k (.iaload) 53 0 0 [] := rfl
theorem tbX8_ofContract_67 {k : Instr → Nat → Nat → Nat → List Nat → Prop} : xse (xFind tbX8_ofContract 67) k = k (.ireturn) 0 0 0 [] := rfl
theorem tbX8_ofContract_68 {k : Instr → Nat → Nat → Nat → List Nat → Prop} : xse (xFind tbX8_ofContract 68) k = k (.iload_n 2) 2 0 0 [] := rfl
theorem tbX8_ofContract_69 {k : Instr → Nat → Nat → Nat → List Nat → Prop} : xse (xFind tbX8_ofContract 69) k = k (.iconst 3) 0 0 0 [] := rfl
theorem tbX8_ofContract_70 {k : Instr → Nat → Nat → Nat → List Nat → Prop} : xse (xFind tbX8_ofContract 70) k = k (.if_icmp .ne 12) 82 0 0 [] := rfl
theorem tbX8_ofContract_73 {k : Instr → Nat → Nat → Nat → List Nat → Prop} : xse (xFind tbX8_ofContract 73) k = k (.aload_n 0) 0 0 0 [] := rfl
theorem tbX8_ofContract_74 {k : Instr → Nat → Nat → Nat → List Nat → Prop} : xse (xFind tbX8_ofContract 74) k = k (.getfield 149) 9 54 2 [] := rfl
theorem tbX8_ofContract_77 {k : Instr → Nat → Nat → Nat → List Nat → Prop} : xse (xFind tbX8_ofContract 77) k = k (.iload_n 1) 1 0 0 [] := rfl
theorem tbX8_ofContract_78 {k : Instr → Nat → Nat → Nat → List Nat → Prop} : xse (xFind tbX8_ofContract 78) k = k (.iaload) 54 0 0 [] := rfl
theorem tbX8_ofContract_79 {k : Instr → Nat → Nat → Nat → List Nat → Prop} : xse (xFind tbX8_ofContract 79) k = k (.goto 23) 102 0 0 [] := rfl
theorem tbX8_ofContract_82 {k : Instr → Nat → Nat → Nat → List Nat → Prop} : xse (xFind tbX8_ofContract 82) k = k (.iload_n 2) 2 0 0 [] := rfl
theorem tbX8_ofContract_83 {k : Instr → Nat → Nat → Nat → List Nat → Prop} : xse (xFind tbX8_ofContract 83) k = k (.iconst 4) 0 0 0 [] := rfl
theorem tbX8_ofContract_84 {k : Instr → Nat → Nat → Nat → List Nat → Prop} : xse (xFind tbX8_ofContract 84) k = k (.if_icmp .ne 12) 96 0 0 [] := rfl
theorem tbX8_ofContract_87 {k : Instr → Nat → Nat → Nat → List Nat → Prop} : xse (xFind tbX8_ofContract 87) k = k (.aload_n 0) 0 0 0 [] := rfl
theorem tbX8_ofContract_88 {k : Instr → Nat → Nat → Nat → List Nat → Prop} : xse (xFind tbX8_ofContract 88) k = k (.getfield 134) 9 49 2 [] := rfl
theorem tbX8_ofContract_91 {k : Instr → Nat → Nat → Nat → List Nat → Prop} : xse (xFind tbX8_ofContract 91) k = k (.iload_n 1) 1 0 0 [] := rfl
theorem tbX8_ofContract_92 {k : Instr → Nat → Nat → Nat → List Nat → Prop} : xse (xFind tbX8_ofContract 92) k = k (.iaload) 49 0 0 [] := rfl
theorem tbX8_ofContract_93 {k : Instr → Nat → Nat → Nat → List Nat → Prop} : xse (xFind tbX8_ofContract 93) k = k (.goto 9) 102 0 0 [] := rfl
theorem tbX8_ofContract_96 {k : Instr → Nat → Nat → Nat → List Nat → Prop} : xse (xFind tbX8_ofContract 96) k = k (.aload_n 0) 0 0 0 [] := rfl
theorem tbX8_ofContract_97 {k : Instr → Nat → Nat → Nat → List Nat → Prop} : xse (xFind tbX8_ofContract 97) k = k (.getfield 152) 9 55 2 [] := rfl
theorem tbX8_ofContract_100 {k : Instr → Nat → Nat → Nat → List Nat → Prop} : xse (xFind tbX8_ofContract 100) k = k (.iload_n 1) 1 0 0 [] := rfl
theorem tbX8_ofContract_101 {k : Instr → Nat → Nat → Nat → List Nat → Prop} : xse (xFind tbX8_ofContract 101) k = k (.iaload) 55 0 0 [] := rfl
theorem tbX8_ofContract_102 {k : Instr → Nat → Nat → Nat → List Nat → Prop} : xse (xFind tbX8_ofContract 102) k = k (.ireturn) 0 0 0 [] := rfl

def spX8_ofContract (aM : Nat → Nat) : xSp mS := (fun av M => (0, 0), fun av M K => ∃ (c : Int32) (w : Int32), av = [.ref (aM 0), .int c, .int w] ∧ ((M.1 46 = nI (nCo M) ∧ nCo M ≤ 12) ∧ ((mSet M 0 0).1 22 = nI (nBg (mSet M 0 0)) ∧ nBg (mSet M 0 0) ≤ 24) ∧ K (rI (oOfContract M c w).1) (oOfContract M c w).2))
theorem spcX8_ofContract {av : List Value} {M : mS} {aM : Nat → Nat} : (spX8_ofContract aM).1 av M = (0, 0) := rfl
theorem spwX8_ofContract {M : mS} {aM : Nat → Nat} {K : xRes → mS → Prop} {c : Int32} {w : Int32} : (spX8_ofContract aM).2 [.ref (aM 0), .int c, .int w] M K = ((M.1 46 = nI (nCo M) ∧ nCo M ≤ 12) ∧ ((mSet M 0 0).1 22 = nI (nBg (mSet M 0 0)) ∧ nBg (mSet M 0 0) ≤ 24) ∧ K (rI (oOfContract M c w).1) (oOfContract M c w).2) :=
  propext ⟨fun h => by
    simp only [spX8_ofContract] at h
    obtain ⟨_, _, e, h⟩ := h
    simp only [List.cons.injEq, Value.int.injEq, Value.ref.injEq, rf_eq, and_true, true_and] at e
    obtain ⟨rfl, rfl⟩ := e
    exact h, fun h => ⟨_, _, rfl, h⟩⟩

def callX8_ofContract (aM : Nat → Nat) : Nat → Option (xSp mS) := fun n => match n with | 0 => some (spX8_isContract aM) | 1 => some (spX8_in aM) | 2 => some (spX8_holds aM) | 3 => some (spX8_open aM) | 4 => some (spX8_inBarges aM) | _ => none

theorem callX8_ofContract_0 {aM : Nat → Nat} {k : xSp mS → Prop} : xcs (callX8_ofContract aM 0) k = k (spX8_isContract aM) := rfl

theorem callX8_ofContract_1 {aM : Nat → Nat} {k : xSp mS → Prop} : xcs (callX8_ofContract aM 1) k = k (spX8_in aM) := rfl

theorem callX8_ofContract_2 {aM : Nat → Nat} {k : xSp mS → Prop} : xcs (callX8_ofContract aM 2) k = k (spX8_holds aM) := rfl

theorem callX8_ofContract_3 {aM : Nat → Nat} {k : xSp mS → Prop} : xcs (callX8_ofContract aM 3) k = k (spX8_open aM) := rfl

theorem callX8_ofContract_4 {aM : Nat → Nat} {k : xSp mS → Prop} : xcs (callX8_ofContract aM 4) k = k (spX8_inBarges aM) := rfl

theorem crX8_ofContract (l : Launch) (W9 : xWd) (aM : Nat → Nat) (hi : mInj aM) : xCallsOK l W9 (mI aM) (callX8_ofContract aM) clX8_ofContract RX8 wsX8_ofContract 2 44 3 := by
  intro E A p e R s m args below meth c hI hF hL X
  exact List.forall_mem_cons.mpr ⟨⟨_, rfl, xCR_V X (by rw [hI]; exact (semX8_isContract l W9 aM hi)) gX8_ofContract_X8_isContract rfl rfl (by decide +kernel) (by rw [hF, hL]; decide)⟩,
    List.forall_mem_cons.mpr ⟨⟨_, rfl, xCR_S X (by rw [hI]; exact (semX8_in l W9 aM hi)) gX8_ofContract_X8_in rfl (by decide +kernel) (by rw [hF, hL]; decide)⟩,
    List.forall_mem_cons.mpr ⟨⟨_, rfl, xCR_V X (by rw [hI]; exact (semX8_holds l W9 aM hi)) gX8_ofContract_X8_holds rfl rfl (by decide +kernel) (by rw [hF, hL]; decide)⟩,
    List.forall_mem_cons.mpr ⟨⟨_, rfl, xCR_V X (by rw [hI]; exact (semX8_open l W9 aM hi)) gX8_ofContract_X8_open rfl rfl (by decide +kernel) (by rw [hF, hL]; decide)⟩,
    List.forall_mem_cons.mpr ⟨⟨_, rfl, xCR_V X (by rw [hI]; exact (semX8_inBarges l W9 aM hi)) gX8_ofContract_X8_inBarges rfl rfl (by decide +kernel) (by rw [hF, hL]; decide)⟩,
    fun _ h => nomatch h⟩⟩⟩⟩⟩

set_option maxHeartbeats 4000000 in
set_option maxRecDepth 20000 in
theorem semX8_ofContract (l : Launch) (W9 : xWd) (aM : Nat → Nat) (hi : mInj aM) : xSem l W9 (mI aM) yX8_ofContract wsX8_ofContract 2 44 (spX8_ofContract aM) := by
  refine xSem_of (call := callX8_ofContract aM) (thrf := fun _ => "") (mI_law hi) (by decide +kernel) rfl ckX8_ofContract usX8_ofContract (crX8_ofContract l W9 aM hi) xThrOK_nil ?_ ?_
  · intro av M KF h
    obtain ⟨c, w, rfl, h⟩ := h
    exact ⟨by intro v hv; simp only [List.mem_cons, List.not_mem_nil, or_false] at hv; rcases hv with rfl | rfl | rfl <;> first | rfl | exact cat_rf, Nat.le_of_ble_eq_true rfl⟩
  intro av M KF h G hG
  obtain ⟨c, w, rfl, h⟩ := h
  rw [show (spX8_ofContract aM).1 _ M = _ from spcX8_ofContract] at hG
  try dsimp only at hG
  change G 0 [some (.ref (aM 0)), some (.int c), some (.int w)] [] M 0 0
  obtain ⟨hn, hg, h⟩ := h
  refine xgo0 hG (fun fu hfu => ?_)
  clear hG
  simp only [↓callX8_ofContract_0, ↓callX8_ofContract_1, ↓callX8_ofContract_2, ↓callX8_ofContract_3, ↓callX8_ofContract_4, ki_0, ki_1, ki_3, ki_4, ki_5, ↓ma_49, ↓ma_53, ↓ma_54, ↓ma_55, ↓mg_49, ↓mg_53, ↓mg_54, ↓mg_55, misa, ↓vm_aload_n, ↓vm_getfield, ↓vm_goto, ↓vm_iaload, ↓vm_iconst, ↓vm_ifCond_eq, ↓vm_ifCond_ne, ↓vm_if_icmp_ge, ↓vm_if_icmp_ne, ↓vm_iload_n, ↓vm_invokestatic, ↓vm_invokevirtual, ↓vm_ireturn, ↓xc_2, ↓xc_3, ↓tbX8_ofContract_0, ↓tbX8_ofContract_1, ↓tbX8_ofContract_2, ↓tbX8_ofContract_3, ↓tbX8_ofContract_6, ↓tbX8_ofContract_9, ↓tbX8_ofContract_10, ↓tbX8_ofContract_11, ↓tbX8_ofContract_12, ↓tbX8_ofContract_15, ↓tbX8_ofContract_18, ↓tbX8_ofContract_19, ↓tbX8_ofContract_22, ↓tbX8_ofContract_23, ↓tbX8_ofContract_26, ↓tbX8_ofContract_29, ↓tbX8_ofContract_30, ↓tbX8_ofContract_31, ↓tbX8_ofContract_32, ↓tbX8_ofContract_33, ↓tbX8_ofContract_36, ↓tbX8_ofContract_37, ↓tbX8_ofContract_40, ↓tbX8_ofContract_41, ↓tbX8_ofContract_42, ↓tbX8_ofContract_45, ↓tbX8_ofContract_48, ↓tbX8_ofContract_49, ↓tbX8_ofContract_50, ↓tbX8_ofContract_53, ↓tbX8_ofContract_54, ↓tbX8_ofContract_55, ↓tbX8_ofContract_58, ↓tbX8_ofContract_61, ↓tbX8_ofContract_62, ↓tbX8_ofContract_65, ↓tbX8_ofContract_66, ↓tbX8_ofContract_67, ↓tbX8_ofContract_68, ↓tbX8_ofContract_69, ↓tbX8_ofContract_70, ↓tbX8_ofContract_73, ↓tbX8_ofContract_74, ↓tbX8_ofContract_77, ↓tbX8_ofContract_78, ↓tbX8_ofContract_79, ↓tbX8_ofContract_82, ↓tbX8_ofContract_83, ↓tbX8_ofContract_84, ↓tbX8_ofContract_87, ↓tbX8_ofContract_88, ↓tbX8_ofContract_91, ↓tbX8_ofContract_92, ↓tbX8_ofContract_93, ↓tbX8_ofContract_96, ↓tbX8_ofContract_97, ↓tbX8_ofContract_100, ↓tbX8_ofContract_101, ↓tbX8_ofContract_102, hfu, xstep0, xJ1_hit, xJ1_go, xJ2_hit1, xJ2_hit2, xJ2_go, ↓xif_t, ↓xif_f, seval, ↓xca_eq, ↓xre_l, ↓xre_r, xmask_t, xmask_f, xmask_nil, ↓xst_eq, xX_eq, eI_eq, eMc_eq, eMs_eq, eF_eq, eThr_eq, ↓xS1_mk, ↓xSI_mk, ↓xSR_mk, ↓xLI_0, ↓xLI_s, ↓xLR_0, ↓xLR_s, vRef_ref, vRef_null, vRef_rf, cat_int, cat_ref, cat_null, cat_rf, rf_some, rf_none, rf_null, rf_eq, rf_ref, ref_rf, ref_null, ref_ref, xOk_0, xOk_1, xOk_2r, xOk_2n, xOk_2f, vOpt_rf, vOpt_ref, vOpt_null, List.set_cons_zero, List.set_cons_succ, List.take_succ_cons, List.take_zero, List.drop_succ_cons, List.drop_zero, List.reverse_cons, List.reverse_nil, List.nil_append, List.cons_append, List.append_nil, List.length_cons, List.length_nil, List.map_cons, List.map_nil, List.sum_cons, List.sum_nil, Option.toList_some, Option.toList_none, xRecv_mk, true_and, and_true, true_implies, Nat.reduceAdd, Nat.reduceLeDiff, Nat.zero_le, Nat.le_refl, Nat.add_zero, Nat.zero_add, reduceIte, not_true_eq_false, not_false_eq_true, false_implies, and_self, implies_true, eq_self, Nat.reduceEqDiff, List.cons.injEq, xsn_1, xsn_2, false_and, and_false, or_false, false_or, or_true, true_or, xsn_3, xsn_4, mAst_1, mAst_2, mSet_1, mSet_2, bi_0, ↓spwX8_isContract, spcX8_isContract, ↓spwX8_in, spcX8_in, ↓spwX8_holds, spcX8_holds, ↓spwX8_open, spcX8_open, ↓spwX8_inBarges, spcX8_inBarges]
  try simp only [xif_e]
  unfold oOfContract mTelc at h
  simp only [mSet_2] at h
  have hg2 : M.1 22 = nI (nBg (mSet M 0 0)) ∧ nBg (mSet M 0 0) ≤ 24 := hg
  have h7 := @in_co M c hn
  repeat' (first | with_reducible apply And.intro | with_reducible intro _)
  all_goals grind (splits := 30) [bi]

def tbX8_all : List (Nat × xHint) := [(0, .aload_n 0, 0, 0, 0, []), (1, .iload_n 1, 1, 0, 0, []), (2, .iconst 0, 0, 0, 0, []), (3, .bipush 6, 0, 0, 0, []), (5, .invokestatic 159, 0, 3, 0, []), (8, .ifCond .eq 7, 15, 0, 0, []), (11, .iconst 0, 0, 0, 0, []), (12, .goto 4, 16, 0, 0, []), (15, .iconst 1, 0, 0, 0, []), (16, .invokevirtual 183, 1, 2, 9, []), (19, .ifCond .ne 5, 24, 0, 0, []), (22, .iconst 0, 0, 0, 0, []), (23, .ireturn, 0, 0, 0, []), (24, .iload_n 1, 1, 0, 0, []), (25, .iconst 2, 0, 0, 0, []), (26, .if_icmp .lt 14, 40, 0, 0, []), (29, .iload_n 1, 1, 0, 0, []), (30, .iconst 2, 0, 0, 0, []), (31, .if_icmp .le 61, 92, 0, 0, []), (34, .iload_n 1, 1, 0, 0, []), (35, .bipush 6, 0, 0, 0, []), (37, .if_icmp .ge 55, 92, 0, 0, []), (40, .iload_n 1, 1, 0, 0, []), (41, .ifCond .ne 10, 51, 0, 0, []), (44, .aload_n 0, 0, 0, 0, []), (45, .getfield 228, 9, 1, 0, []), (48, .goto 43, 91, 0, 0, []), (51, .iload_n 1, 1, 0, 0, []), (52, .iconst 1, 0, 0, 0, []), (53, .if_icmp .ne 10, 63, 0, 0, []), (56, .aload_n 0, 0, 0, 0, []), (57, .getfield 186, 9, 2, 0, []), (60, .goto 31, 91, 0, 0, []), (63, .iload_n 1, 1, 0, 0, []), (64, .iconst 3, 0, 0, 0, []), (65, .if_icmp .ne 10, 75, 0, 0, []), (68, .aload_n 0, 0, 0, 0, []), (69, .getfield 265, 9, 56, 0, []), (72, .goto 19, 91, 0, 0, []), (75, .iload_n 1, 1, 0, 0, []), (76, .iconst 4, 0, 0, 0, []), (77, .if_icmp .ne 10, 87, 0, 0, []), (80, .aload_n 0, 0, 0, 0, []), (81, .getfield 244, 9, 57, 0, []), (84, .goto 7, 91, 0, 0, []), (87, .aload_n 0, 0, 0, 0, []), (88, .getfield 253, 9, 58, 0, []), (91, .ireturn, 0, 0, 0, []), (92, .iconst 0, 0, 0, 0, []), (93, .istore_n 2, 2, 0, 0, []), (94, .iconst 0, 0, 0, 0, []), (95, .istore_n 3, 3, 0, 0, []), (96, .iload_n 3, 3, 0, 0, []), (97, .bipush 12, 0, 0, 0, []), (99, .if_icmp .ge 23, 122, 0, 0, []), (102, .iload_n 1, 1, 0, 0, []), (103, .iconst 2, 0, 0, 0, []), (104, .if_icmp .ne 18, 122, 0, 0, []), (107, .iload_n 2, 2, 0, 0, []), (108, .aload_n 0, 0, 0, 0, []), (109, .getfield 149, 9, 54, 2, []), (112, .iload_n 3, 3, 0, 0, []), (113, .iaload, 54, 0, 0, []), (114, .iadd, 0, 0, 0, []), (115, .istore_n 2, 2, 0, 0, []), (116, .iinc 3 1, 3, 0, 0, []), (119, .goto (-23), 96, 0, 0, []), (122, .iconst 0, 0, 0, 0, []), (123, .istore_n 3, 3, 0, 0, []), (124, .iload_n 3, 3, 0, 0, []), (125, .bipush 60, 0, 0, 0, []), (127, .if_icmp .ge 24, 151, 0, 0, []), (130, .iload_n 1, 1, 0, 0, []), (131, .bipush 6, 0, 0, 0, []), (133, .if_icmp .ne 18, 151, 0, 0, []), (136, .iload_n 2, 2, 0, 0, []), (137, .aload_n 0, 0, 0, 0, []), (138, .getfield 122, 9, 44, 2, []), (141, .iload_n 3, 3, 0, 0, []), (142, .iaload, 44, 0, 0, []), (143, .iadd, 0, 0, 0, []), (144, .istore_n 2, 2, 0, 0, []), (145, .iinc 3 1, 3, 0, 0, []), (148, .goto (-24), 124, 0, 0, []), (151, .iload_n 2, 2, 0, 0, []), (152, .ireturn, 0, 0, 0, [])]
def clX8_all : List (Instr × Nat × Nat × Nat) := [(.invokestatic 159, 0, 3, 0), (.invokevirtual 183, 1, 2, 9)]
def thX8_all : List (Nat × Nat) := []
theorem ckX8_all : tbX8_all.all (xRow RX8 cX8_all wsX8_all vwCl [9] clX8_all thX8_all 4 (yX8_all.name == "<init>") (some .int)) = true := xRow_q 0xac1ce8ffa70103843d602e1d7a00b42a1c1200a006101b1800a23c101d3e03e9ffa70103843d602e1d9500b42a1c1200a0051b1700a20c101d3e033d03acfd00b42a0700a7f400b42a0a00a0071b1300a70901b42a0a00a0061b1f00a7ba00b42a0a00a0041b2b00a7e400b42a0a009a1b3700a206101b3d00a4051b0e00a1051bac0305009ab700b6040400a7030700999f00b80610031b2a 153 (by decide +kernel) (by decide +kernel)
theorem usX8_all : xUse wsX8_all vwCl [9] = true := xUse_g rfl (lw_good lwl_X8_all lwl_X80 (by decide +kernel)) xUse_n
theorem tbX8_all_0 {k : Instr → Nat → Nat → Nat → List Nat → Prop} : xse (xFind tbX8_all 0) k = k (.aload_n 0) 0 0 0 [] := rfl
theorem tbX8_all_1 {k : Instr → Nat → Nat → Nat → List Nat → Prop} : xse (xFind tbX8_all 1) k = k (.iload_n 1) 1 0 0 [] := rfl
theorem tbX8_all_2 {k : Instr → Nat → Nat → Nat → List Nat → Prop} : xse (xFind tbX8_all 2) k = k (.iconst 0) 0 0 0 [] := rfl
theorem tbX8_all_3 {k : Instr → Nat → Nat → Nat → List Nat → Prop} : xse (xFind tbX8_all 3) k = k (.bipush 6) 0 0 0 [] := rfl
theorem tbX8_all_5 {k : Instr → Nat → Nat → Nat → List Nat → Prop} : xse (xFind tbX8_all 5) k = k (.invokestatic 159) 0 3 0 [] := rfl
theorem tbX8_all_8 {k : Instr → Nat → Nat → Nat → List Nat → Prop} : xse (xFind tbX8_all 8) k = k (.ifCond .eq 7) 15 0 0 [] := rfl
theorem tbX8_all_11 {k : Instr → Nat → Nat → Nat → List Nat → Prop} : xse (xFind tbX8_all 11) k = k (.iconst 0) 0 0 0 [] := rfl
theorem tbX8_all_12 {k : Instr → Nat → Nat → Nat → List Nat → Prop} : xse (xFind tbX8_all 12) k = k (.goto 4) 16 0 0 [] := rfl
theorem tbX8_all_15 {k : Instr → Nat → Nat → Nat → List Nat → Prop} : xse (xFind tbX8_all 15) k = k (.iconst 1) 0 0 0 [] := rfl
theorem tbX8_all_16 {k : Instr → Nat → Nat → Nat → List Nat → Prop} : xse (xFind tbX8_all 16) k = k (.invokevirtual 183) 1 2 9 [] := rfl
theorem tbX8_all_19 {k : Instr → Nat → Nat → Nat → List Nat → Prop} : xse (xFind tbX8_all 19) k = k (.ifCond .ne 5) 24 0 0 [] := rfl
theorem tbX8_all_22 {k : Instr → Nat → Nat → Nat → List Nat → Prop} : xse (xFind tbX8_all 22) k = k (.iconst 0) 0 0 0 [] := rfl
theorem tbX8_all_23 {k : Instr → Nat → Nat → Nat → List Nat → Prop} : xse (xFind tbX8_all 23) k = k (.ireturn) 0 0 0 [] := rfl
theorem tbX8_all_24 {k : Instr → Nat → Nat → Nat → List Nat → Prop} : xse (xFind tbX8_all 24) k = k (.iload_n 1) 1 0 0 [] := rfl
theorem tbX8_all_25 {k : Instr → Nat → Nat → Nat → List Nat → Prop} : xse (xFind tbX8_all 25) k = k (.iconst 2) 0 0 0 [] := rfl
theorem tbX8_all_26 {k : Instr → Nat → Nat → Nat → List Nat → Prop} : xse (xFind tbX8_all 26) k = k (.if_icmp .lt 14) 40 0 0 [] := rfl
theorem tbX8_all_29 {k : Instr → Nat → Nat → Nat → List Nat → Prop} : xse (xFind tbX8_all 29) k = k (.iload_n 1) 1 0 0 [] := rfl
theorem tbX8_all_30 {k : Instr → Nat → Nat → Nat → List Nat → Prop} : xse (xFind tbX8_all 30) k = k (.iconst 2) 0 0 0 [] := rfl
theorem tbX8_all_31 {k : Instr → Nat → Nat → Nat → List Nat → Prop} : xse (xFind tbX8_all 31) k = k (.if_icmp .le 61) 92 0 0 [] := rfl
theorem tbX8_all_34 {k : Instr → Nat → Nat → Nat → List Nat → Prop} : xse (xFind tbX8_all 34) k = k (.iload_n 1) 1 0 0 [] := rfl
theorem tbX8_all_35 {k : Instr → Nat → Nat → Nat → List Nat → Prop} : xse (xFind tbX8_all 35) k = k (.bipush 6) 0 0 0 [] := rfl
theorem tbX8_all_37 {k : Instr → Nat → Nat → Nat → List Nat → Prop} : xse (xFind tbX8_all 37) k = k (.if_icmp .ge 55) 92 0 0 [] := rfl
theorem tbX8_all_40 {k : Instr → Nat → Nat → Nat → List Nat → Prop} : xse (xFind tbX8_all 40) k = k (.iload_n 1) 1 0 0 [] := rfl
theorem tbX8_all_41 {k : Instr → Nat → Nat → Nat → List Nat → Prop} : xse (xFind tbX8_all 41) k = k (.ifCond .ne 10) 51 0 0 [] := rfl
theorem tbX8_all_44 {k : Instr → Nat → Nat → Nat → List Nat → Prop} : xse (xFind tbX8_all 44) k = k (.aload_n 0) 0 0 0 [] := rfl
theorem tbX8_all_45 {k : Instr → Nat → Nat → Nat → List Nat → Prop} : xse (xFind tbX8_all 45) k = k (.getfield 228) 9 1 0 [] := rfl
theorem tbX8_all_48 {k : Instr → Nat → Nat → Nat → List Nat → Prop} : xse (xFind tbX8_all 48) k = k (.goto 43) 91 0 0 [] := rfl
theorem tbX8_all_51 {k : Instr → Nat → Nat → Nat → List Nat → Prop} : xse (xFind tbX8_all 51) k = k (.iload_n 1) 1 0 0 [] := rfl
theorem tbX8_all_52 {k : Instr → Nat → Nat → Nat → List Nat → Prop} : xse (xFind tbX8_all 52) k = k (.iconst 1) 0 0 0 [] := rfl
theorem tbX8_all_53 {k : Instr → Nat → Nat → Nat → List Nat → Prop} : xse (xFind tbX8_all 53) k = k (.if_icmp .ne 10) 63 0 0 [] := rfl
theorem tbX8_all_56 {k : Instr → Nat → Nat → Nat → List Nat → Prop} : xse (xFind tbX8_all 56) k = k (.aload_n 0) 0 0 0 [] := rfl
theorem tbX8_all_57 {k : Instr → Nat → Nat → Nat → List Nat → Prop} : xse (xFind tbX8_all 57) k = k (.getfield 186) 9 2 0 [] := rfl
theorem tbX8_all_60 {k : Instr → Nat → Nat → Nat → List Nat → Prop} : xse (xFind tbX8_all 60) k = k (.goto 31) 91 0 0 [] := rfl
theorem tbX8_all_63 {k : Instr → Nat → Nat → Nat → List Nat → Prop} : xse (xFind tbX8_all 63) k = k (.iload_n 1) 1 0 0 [] := rfl
theorem tbX8_all_64 {k : Instr → Nat → Nat → Nat → List Nat → Prop} : xse (xFind tbX8_all 64) k = k (.iconst 3) 0 0 0 [] := rfl
theorem tbX8_all_65 {k : Instr → Nat → Nat → Nat → List Nat → Prop} : xse (xFind tbX8_all 65) k = k (.if_icmp .ne 10) 75 0 0 [] := rfl
theorem tbX8_all_68 {k : Instr → Nat → Nat → Nat → List Nat → Prop} : xse (xFind tbX8_all 68) k = k (.aload_n 0) 0 0 0 [] := rfl
theorem tbX8_all_69 {k : Instr → Nat → Nat → Nat → List Nat → Prop} : xse (xFind tbX8_all 69) k = k (.getfield 265) 9 56 0 [] := rfl
theorem tbX8_all_72 {k : Instr → Nat → Nat → Nat → List Nat → Prop} : xse (xFind tbX8_all 72) k = k (.goto 19) 91 0 0 [] := rfl
theorem tbX8_all_75 {k : Instr → Nat → Nat → Nat → List Nat → Prop} : xse (xFind tbX8_all 75) k = k (.iload_n 1) 1 0 0 [] := rfl
theorem tbX8_all_76 {k : Instr → Nat → Nat → Nat → List Nat → Prop} : xse (xFind tbX8_all 76) k = k (.iconst 4) 0 0 0 [] := rfl
theorem tbX8_all_77 {k : Instr → Nat → Nat → Nat → List Nat → Prop} : xse (xFind tbX8_all 77) k = k (.if_icmp .ne 10) 87 0 0 [] := rfl
theorem tbX8_all_80 {k : Instr → Nat → Nat → Nat → List Nat → Prop} : xse (xFind tbX8_all 80) k = k (.aload_n 0) 0 0 0 [] := rfl
theorem tbX8_all_81 {k : Instr → Nat → Nat → Nat → List Nat → Prop} : xse (xFind tbX8_all 81) k = k (.getfield 244) 9 57 0 [] := rfl
theorem tbX8_all_84 {k : Instr → Nat → Nat → Nat → List Nat → Prop} : xse (xFind tbX8_all 84) k = k (.goto 7) 91 0 0 [] := rfl
theorem tbX8_all_87 {k : Instr → Nat → Nat → Nat → List Nat → Prop} : xse (xFind tbX8_all 87) k = k (.aload_n 0) 0 0 0 [] := rfl
theorem tbX8_all_88 {k : Instr → Nat → Nat → Nat → List Nat → Prop} : xse (xFind tbX8_all 88) k = k (.getfield 253) 9 58 0 [] := rfl
theorem tbX8_all_91 {k : Instr → Nat → Nat → Nat → List Nat → Prop} : xse (xFind tbX8_all 91) k = k (.ireturn) 0 0 0 [] := rfl
theorem tbX8_all_92 {k : Instr → Nat → Nat → Nat → List Nat → Prop} : xse (xFind tbX8_all 92) k = k (.iconst 0) 0 0 0 [] := rfl
theorem tbX8_all_93 {k : Instr → Nat → Nat → Nat → List Nat → Prop} : xse (xFind tbX8_all 93) k = k (.istore_n 2) 2 0 0 [] := rfl
theorem tbX8_all_94 {k : Instr → Nat → Nat → Nat → List Nat → Prop} : xse (xFind tbX8_all 94) k = k (.iconst 0) 0 0 0 [] := rfl
theorem tbX8_all_95 {k : Instr → Nat → Nat → Nat → List Nat → Prop} : xse (xFind tbX8_all 95) k = k (.istore_n 3) 3 0 0 [] := rfl
theorem tbX8_all_96 {k : Instr → Nat → Nat → Nat → List Nat → Prop} : xse (xFind tbX8_all 96) k = k (.iload_n 3) 3 0 0 [] := rfl
theorem tbX8_all_97 {k : Instr → Nat → Nat → Nat → List Nat → Prop} : xse (xFind tbX8_all 97) k = k (.bipush 12) 0 0 0 [] := rfl
theorem tbX8_all_99 {k : Instr → Nat → Nat → Nat → List Nat → Prop} : xse (xFind tbX8_all 99) k = k (.if_icmp .ge 23) 122 0 0 [] := rfl
theorem tbX8_all_102 {k : Instr → Nat → Nat → Nat → List Nat → Prop} : xse (xFind tbX8_all 102) k = k (.iload_n 1) 1 0 0 [] := rfl
theorem tbX8_all_103 {k : Instr → Nat → Nat → Nat → List Nat → Prop} : xse (xFind tbX8_all 103) k = k (.iconst 2) 0 0 0 [] := rfl
theorem tbX8_all_104 {k : Instr → Nat → Nat → Nat → List Nat → Prop} : xse (xFind tbX8_all 104) k = k (.if_icmp .ne 18) 122 0 0 [] := rfl
theorem tbX8_all_107 {k : Instr → Nat → Nat → Nat → List Nat → Prop} : xse (xFind tbX8_all 107) k = k (.iload_n 2) 2 0 0 [] := rfl
theorem tbX8_all_108 {k : Instr → Nat → Nat → Nat → List Nat → Prop} : xse (xFind tbX8_all 108) k = k (.aload_n 0) 0 0 0 [] := rfl
theorem tbX8_all_109 {k : Instr → Nat → Nat → Nat → List Nat → Prop} : xse (xFind tbX8_all 109) k = k (.getfield 149) 9 54 2 [] := rfl
theorem tbX8_all_112 {k : Instr → Nat → Nat → Nat → List Nat → Prop} : xse (xFind tbX8_all 112) k = k (.iload_n 3) 3 0 0 [] := rfl
theorem tbX8_all_113 {k : Instr → Nat → Nat → Nat → List Nat → Prop} : xse (xFind tbX8_all 113) k = k (.iaload) 54 0 0 [] := rfl
theorem tbX8_all_114 {k : Instr → Nat → Nat → Nat → List Nat → Prop} : xse (xFind tbX8_all 114) k = k (.iadd) 0 0 0 [] := rfl
theorem tbX8_all_115 {k : Instr → Nat → Nat → Nat → List Nat → Prop} : xse (xFind tbX8_all 115) k = k (.istore_n 2) 2 0 0 [] := rfl
theorem tbX8_all_116 {k : Instr → Nat → Nat → Nat → List Nat → Prop} : xse (xFind tbX8_all 116) k = k (.iinc 3 1) 3 0 0 [] := rfl
theorem tbX8_all_119 {k : Instr → Nat → Nat → Nat → List Nat → Prop} : xse (xFind tbX8_all 119) k = k (.goto (-23)) 96 0 0 [] := rfl
theorem tbX8_all_122 {k : Instr → Nat → Nat → Nat → List Nat → Prop} : xse (xFind tbX8_all 122) k = k (.iconst 0) 0 0 0 [] := rfl
theorem tbX8_all_123 {k : Instr → Nat → Nat → Nat → List Nat → Prop} : xse (xFind tbX8_all 123) k = k (.istore_n 3) 3 0 0 [] := rfl
theorem tbX8_all_124 {k : Instr → Nat → Nat → Nat → List Nat → Prop} : xse (xFind tbX8_all 124) k = k (.iload_n 3) 3 0 0 [] := rfl
theorem tbX8_all_125 {k : Instr → Nat → Nat → Nat → List Nat → Prop} : xse (xFind tbX8_all 125) k = k (.bipush 60) 0 0 0 [] := rfl
theorem tbX8_all_127 {k : Instr → Nat → Nat → Nat → List Nat → Prop} : xse (xFind tbX8_all 127) k = k (.if_icmp .ge 24) 151 0 0 [] := rfl
theorem tbX8_all_130 {k : Instr → Nat → Nat → Nat → List Nat → Prop} : xse (xFind tbX8_all 130) k = k (.iload_n 1) 1 0 0 [] := rfl
theorem tbX8_all_131 {k : Instr → Nat → Nat → Nat → List Nat → Prop} : xse (xFind tbX8_all 131) k = k (.bipush 6) 0 0 0 [] := rfl
theorem tbX8_all_133 {k : Instr → Nat → Nat → Nat → List Nat → Prop} : xse (xFind tbX8_all 133) k = k (.if_icmp .ne 18) 151 0 0 [] := rfl
theorem tbX8_all_136 {k : Instr → Nat → Nat → Nat → List Nat → Prop} : xse (xFind tbX8_all 136) k = k (.iload_n 2) 2 0 0 [] := rfl
theorem tbX8_all_137 {k : Instr → Nat → Nat → Nat → List Nat → Prop} : xse (xFind tbX8_all 137) k = k (.aload_n 0) 0 0 0 [] := rfl
theorem tbX8_all_138 {k : Instr → Nat → Nat → Nat → List Nat → Prop} : xse (xFind tbX8_all 138) k = k (.getfield 122) 9 44 2 [] := rfl
theorem tbX8_all_141 {k : Instr → Nat → Nat → Nat → List Nat → Prop} : xse (xFind tbX8_all 141) k = k (.iload_n 3) 3 0 0 [] := rfl
theorem tbX8_all_142 {k : Instr → Nat → Nat → Nat → List Nat → Prop} : xse (xFind tbX8_all 142) k = k (.iaload) 44 0 0 [] := rfl
theorem tbX8_all_143 {k : Instr → Nat → Nat → Nat → List Nat → Prop} : xse (xFind tbX8_all 143) k = k (.iadd) 0 0 0 [] := rfl
theorem tbX8_all_144 {k : Instr → Nat → Nat → Nat → List Nat → Prop} : xse (xFind tbX8_all 144) k = k (.istore_n 2) 2 0 0 [] := rfl
theorem tbX8_all_145 {k : Instr → Nat → Nat → Nat → List Nat → Prop} : xse (xFind tbX8_all 145) k = k (.iinc 3 1) 3 0 0 [] := rfl
theorem tbX8_all_148 {k : Instr → Nat → Nat → Nat → List Nat → Prop} : xse (xFind tbX8_all 148) k = k (.goto (-24)) 124 0 0 [] := rfl
theorem tbX8_all_151 {k : Instr → Nat → Nat → Nat → List Nat → Prop} : xse (xFind tbX8_all 151) k = k (.iload_n 2) 2 0 0 [] := rfl
theorem tbX8_all_152 {k : Instr → Nat → Nat → Nat → List Nat → Prop} : xse (xFind tbX8_all 152) k = k (.ireturn) 0 0 0 [] := rfl

def spX8_all (aM : Nat → Nat) : xSp mS := (fun av M => (0, 0), fun av M K => ∃ (w : Int32), av = [.ref (aM 0), .int w] ∧ (K (rI (oAll M w).1) (oAll M w).2))
theorem spcX8_all {av : List Value} {M : mS} {aM : Nat → Nat} : (spX8_all aM).1 av M = (0, 0) := rfl
theorem spwX8_all {M : mS} {aM : Nat → Nat} {K : xRes → mS → Prop} {w : Int32} : (spX8_all aM).2 [.ref (aM 0), .int w] M K = (K (rI (oAll M w).1) (oAll M w).2) :=
  propext ⟨fun h => by
    simp only [spX8_all] at h
    obtain ⟨_, e, h⟩ := h
    simp only [List.cons.injEq, Value.int.injEq, Value.ref.injEq, rf_eq, and_true, true_and] at e
    obtain rfl := e
    exact h, fun h => ⟨_, rfl, h⟩⟩

def callX8_all (aM : Nat → Nat) : Nat → Option (xSp mS) := fun n => match n with | 0 => some (spX8_in aM) | 1 => some (spX8_holds aM) | _ => none

theorem callX8_all_0 {aM : Nat → Nat} {k : xSp mS → Prop} : xcs (callX8_all aM 0) k = k (spX8_in aM) := rfl

theorem callX8_all_1 {aM : Nat → Nat} {k : xSp mS → Prop} : xcs (callX8_all aM 1) k = k (spX8_holds aM) := rfl

theorem crX8_all (l : Launch) (W9 : xWd) (aM : Nat → Nat) (hi : mInj aM) : xCallsOK l W9 (mI aM) (callX8_all aM) clX8_all RX8 wsX8_all 1 22 4 := by
  intro E A p e R s m args below meth c hI hF hL X
  exact List.forall_mem_cons.mpr ⟨⟨_, rfl, xCR_S X (by rw [hI]; exact (semX8_in l W9 aM hi)) gX8_all_X8_in rfl (by decide +kernel) (by rw [hF, hL]; decide)⟩,
    List.forall_mem_cons.mpr ⟨⟨_, rfl, xCR_V X (by rw [hI]; exact (semX8_holds l W9 aM hi)) gX8_all_X8_holds rfl rfl (by decide +kernel) (by rw [hF, hL]; decide)⟩,
    fun _ h => nomatch h⟩⟩

set_option maxHeartbeats 4000000 in
set_option maxRecDepth 20000 in
theorem semX8_all (l : Launch) (W9 : xWd) (aM : Nat → Nat) (hi : mInj aM) : xSem l W9 (mI aM) yX8_all wsX8_all 1 22 (spX8_all aM) := by
  refine xSem_of (call := callX8_all aM) (thrf := fun _ => "") (mI_law hi) (by decide +kernel) rfl ckX8_all usX8_all (crX8_all l W9 aM hi) xThrOK_nil ?_ ?_
  · intro av M KF h
    obtain ⟨w, rfl, h⟩ := h
    exact ⟨by intro v hv; simp only [List.mem_cons, List.not_mem_nil, or_false] at hv; rcases hv with rfl | rfl <;> first | rfl | exact cat_rf, Nat.le_of_ble_eq_true rfl⟩
  intro av M KF h G hG
  obtain ⟨w, rfl, h⟩ := h
  rw [show (spX8_all aM).1 _ M = _ from spcX8_all] at hG
  try dsimp only at hG
  change G 0 [some (.ref (aM 0)), some (.int w), none, none] [] M 0 0

  by_cases hw : w = 2
  · subst hw
    have h : KF (rI (mSum (M.2 54) 12)) (mSet M 0 0) := h
    have l1 := xloop hG 96 [true, true, true, true] (fun j lv st S cs ss => lv = [some (.ref (aM 0)), some (.int 2), some (.int (mSum (M.2 54) j)), some (.int (nI j))] ∧ st = [] ∧ mSet M 0 0 = S ∧ cs = 0 ∧ ss = 0) 12 (by
        rintro j hj lv st S cs ss ⟨rfl, rfl, rfl, rfl, rfl⟩ fu hfu
        have e0 : ((12 : Int32) ≤ nI j) = False := ge_nI hj (show 12 < 1000 by omega)
        simp only [↓callX8_all_0, ↓callX8_all_1, kb_12, kb_6, kb_60, kc_12, kc_6, kc_60, ki_0, ki_1, ki_2, ki_3, ki_4, ↓ma_44, ↓ma_54, ↓mg_1, ↓mg_2, ↓mg_44, ↓mg_54, ↓mg_56, ↓mg_57, ↓mg_58, misa, ↓vm_aload_n, ↓vm_bipush, ↓vm_getfield, ↓vm_goto, ↓vm_iadd, ↓vm_iaload, ↓vm_iconst, ↓vm_ifCond_eq, ↓vm_ifCond_ne, ↓vm_if_icmp_ge, ↓vm_if_icmp_le, ↓vm_if_icmp_lt, ↓vm_if_icmp_ne, ↓vm_iinc, ↓vm_iload_n, ↓vm_invokestatic, ↓vm_invokevirtual, ↓vm_ireturn, ↓vm_istore_n, ↓xc_2, ↓xc_3, ↓tbX8_all_0, ↓tbX8_all_1, ↓tbX8_all_2, ↓tbX8_all_3, ↓tbX8_all_5, ↓tbX8_all_8, ↓tbX8_all_11, ↓tbX8_all_12, ↓tbX8_all_15, ↓tbX8_all_16, ↓tbX8_all_19, ↓tbX8_all_22, ↓tbX8_all_23, ↓tbX8_all_24, ↓tbX8_all_25, ↓tbX8_all_26, ↓tbX8_all_29, ↓tbX8_all_30, ↓tbX8_all_31, ↓tbX8_all_34, ↓tbX8_all_35, ↓tbX8_all_37, ↓tbX8_all_40, ↓tbX8_all_41, ↓tbX8_all_44, ↓tbX8_all_45, ↓tbX8_all_48, ↓tbX8_all_51, ↓tbX8_all_52, ↓tbX8_all_53, ↓tbX8_all_56, ↓tbX8_all_57, ↓tbX8_all_60, ↓tbX8_all_63, ↓tbX8_all_64, ↓tbX8_all_65, ↓tbX8_all_68, ↓tbX8_all_69, ↓tbX8_all_72, ↓tbX8_all_75, ↓tbX8_all_76, ↓tbX8_all_77, ↓tbX8_all_80, ↓tbX8_all_81, ↓tbX8_all_84, ↓tbX8_all_87, ↓tbX8_all_88, ↓tbX8_all_91, ↓tbX8_all_92, ↓tbX8_all_93, ↓tbX8_all_94, ↓tbX8_all_95, ↓tbX8_all_96, ↓tbX8_all_97, ↓tbX8_all_99, ↓tbX8_all_102, ↓tbX8_all_103, ↓tbX8_all_104, ↓tbX8_all_107, ↓tbX8_all_108, ↓tbX8_all_109, ↓tbX8_all_112, ↓tbX8_all_113, ↓tbX8_all_114, ↓tbX8_all_115, ↓tbX8_all_116, ↓tbX8_all_119, ↓tbX8_all_122, ↓tbX8_all_123, ↓tbX8_all_124, ↓tbX8_all_125, ↓tbX8_all_127, ↓tbX8_all_130, ↓tbX8_all_131, ↓tbX8_all_133, ↓tbX8_all_136, ↓tbX8_all_137, ↓tbX8_all_138, ↓tbX8_all_141, ↓tbX8_all_142, ↓tbX8_all_143, ↓tbX8_all_144, ↓tbX8_all_145, ↓tbX8_all_148, ↓tbX8_all_151, ↓tbX8_all_152, hfu, xstep0, xJ1_hit, xJ1_go, xJ2_hit1, xJ2_hit2, xJ2_go, ↓xif_t, ↓xif_f, seval, ↓xca_eq, ↓xre_l, ↓xre_r, xmask_t, xmask_f, xmask_nil, ↓xst_eq, xX_eq, eI_eq, eMc_eq, eMs_eq, eF_eq, eThr_eq, ↓xS1_mk, ↓xSI_mk, ↓xSR_mk, ↓xLI_0, ↓xLI_s, ↓xLR_0, ↓xLR_s, vRef_ref, vRef_null, vRef_rf, cat_int, cat_ref, cat_null, cat_rf, rf_some, rf_none, rf_null, rf_eq, rf_ref, ref_rf, ref_null, ref_ref, xOk_0, xOk_1, xOk_2r, xOk_2n, xOk_2f, vOpt_rf, vOpt_ref, vOpt_null, List.set_cons_zero, List.set_cons_succ, List.take_succ_cons, List.take_zero, List.drop_succ_cons, List.drop_zero, List.reverse_cons, List.reverse_nil, List.nil_append, List.cons_append, List.append_nil, List.length_cons, List.length_nil, List.map_cons, List.map_nil, List.sum_cons, List.sum_nil, Option.toList_some, Option.toList_none, xRecv_mk, true_and, and_true, true_implies, Nat.reduceAdd, Nat.reduceLeDiff, Nat.zero_le, Nat.le_refl, Nat.add_zero, Nat.zero_add, reduceIte, not_true_eq_false, not_false_eq_true, false_implies, and_self, implies_true, eq_self, Nat.reduceEqDiff, List.cons.injEq, xsn_1, xsn_2, false_and, and_false, or_false, false_or, or_true, true_or, xsn_3, xsn_4, mAst_1, mAst_2, mSet_1, mSet_2, bi_0, ↓spwX8_in, spcX8_in, ↓spwX8_holds, spcX8_holds, e0, xin_nI hj (show 12 ≤ 1000 by omega), ix_nI (show j < 1000 by omega), nI1]
        try simp only [xif_e]
        repeat' (first | rfl | apply And.intro)) (by
        rintro lv st S cs ss ⟨rfl, rfl, rfl, rfl, rfl⟩ fu hfu
        have e0 : ((12 : Int32) ≤ nI 12) = True := eq_true (Int32.le_refl _)
        simp only [↓callX8_all_0, ↓callX8_all_1, kb_12, kb_6, kb_60, kc_12, kc_6, kc_60, ki_0, ki_1, ki_2, ki_3, ki_4, ↓ma_44, ↓ma_54, ↓mg_1, ↓mg_2, ↓mg_44, ↓mg_54, ↓mg_56, ↓mg_57, ↓mg_58, misa, ↓vm_aload_n, ↓vm_bipush, ↓vm_getfield, ↓vm_goto, ↓vm_iadd, ↓vm_iaload, ↓vm_iconst, ↓vm_ifCond_eq, ↓vm_ifCond_ne, ↓vm_if_icmp_ge, ↓vm_if_icmp_le, ↓vm_if_icmp_lt, ↓vm_if_icmp_ne, ↓vm_iinc, ↓vm_iload_n, ↓vm_invokestatic, ↓vm_invokevirtual, ↓vm_ireturn, ↓vm_istore_n, ↓xc_2, ↓xc_3, ↓tbX8_all_0, ↓tbX8_all_1, ↓tbX8_all_2, ↓tbX8_all_3, ↓tbX8_all_5, ↓tbX8_all_8, ↓tbX8_all_11, ↓tbX8_all_12, ↓tbX8_all_15, ↓tbX8_all_16, ↓tbX8_all_19, ↓tbX8_all_22, ↓tbX8_all_23, ↓tbX8_all_24, ↓tbX8_all_25, ↓tbX8_all_26, ↓tbX8_all_29, ↓tbX8_all_30, ↓tbX8_all_31, ↓tbX8_all_34, ↓tbX8_all_35, ↓tbX8_all_37, ↓tbX8_all_40, ↓tbX8_all_41, ↓tbX8_all_44, ↓tbX8_all_45, ↓tbX8_all_48, ↓tbX8_all_51, ↓tbX8_all_52, ↓tbX8_all_53, ↓tbX8_all_56, ↓tbX8_all_57, ↓tbX8_all_60, ↓tbX8_all_63, ↓tbX8_all_64, ↓tbX8_all_65, ↓tbX8_all_68, ↓tbX8_all_69, ↓tbX8_all_72, ↓tbX8_all_75, ↓tbX8_all_76, ↓tbX8_all_77, ↓tbX8_all_80, ↓tbX8_all_81, ↓tbX8_all_84, ↓tbX8_all_87, ↓tbX8_all_88, ↓tbX8_all_91, ↓tbX8_all_92, ↓tbX8_all_93, ↓tbX8_all_94, ↓tbX8_all_95, ↓tbX8_all_96, ↓tbX8_all_97, ↓tbX8_all_99, ↓tbX8_all_102, ↓tbX8_all_103, ↓tbX8_all_104, ↓tbX8_all_107, ↓tbX8_all_108, ↓tbX8_all_109, ↓tbX8_all_112, ↓tbX8_all_113, ↓tbX8_all_114, ↓tbX8_all_115, ↓tbX8_all_116, ↓tbX8_all_119, ↓tbX8_all_122, ↓tbX8_all_123, ↓tbX8_all_124, ↓tbX8_all_125, ↓tbX8_all_127, ↓tbX8_all_130, ↓tbX8_all_131, ↓tbX8_all_133, ↓tbX8_all_136, ↓tbX8_all_137, ↓tbX8_all_138, ↓tbX8_all_141, ↓tbX8_all_142, ↓tbX8_all_143, ↓tbX8_all_144, ↓tbX8_all_145, ↓tbX8_all_148, ↓tbX8_all_151, ↓tbX8_all_152, hfu, xstep0, xJ1_hit, xJ1_go, xJ2_hit1, xJ2_hit2, xJ2_go, ↓xif_t, ↓xif_f, seval, ↓xca_eq, ↓xre_l, ↓xre_r, xmask_t, xmask_f, xmask_nil, ↓xst_eq, xX_eq, eI_eq, eMc_eq, eMs_eq, eF_eq, eThr_eq, ↓xS1_mk, ↓xSI_mk, ↓xSR_mk, ↓xLI_0, ↓xLI_s, ↓xLR_0, ↓xLR_s, vRef_ref, vRef_null, vRef_rf, cat_int, cat_ref, cat_null, cat_rf, rf_some, rf_none, rf_null, rf_eq, rf_ref, ref_rf, ref_null, ref_ref, xOk_0, xOk_1, xOk_2r, xOk_2n, xOk_2f, vOpt_rf, vOpt_ref, vOpt_null, List.set_cons_zero, List.set_cons_succ, List.take_succ_cons, List.take_zero, List.drop_succ_cons, List.drop_zero, List.reverse_cons, List.reverse_nil, List.nil_append, List.cons_append, List.append_nil, List.length_cons, List.length_nil, List.map_cons, List.map_nil, List.sum_cons, List.sum_nil, Option.toList_some, Option.toList_none, xRecv_mk, true_and, and_true, true_implies, Nat.reduceAdd, Nat.reduceLeDiff, Nat.zero_le, Nat.le_refl, Nat.add_zero, Nat.zero_add, reduceIte, not_true_eq_false, not_false_eq_true, false_implies, and_self, implies_true, eq_self, Nat.reduceEqDiff, List.cons.injEq, xsn_1, xsn_2, false_and, and_false, or_false, false_or, or_true, true_or, xsn_3, xsn_4, mAst_1, mAst_2, mSet_1, mSet_2, bi_0, ↓spwX8_in, spcX8_in, ↓spwX8_holds, spcX8_holds, e0]
        try simp only [xif_e]
        exact h)
    refine xgo hG (mb := [true, true, true, true]) (l1 0 (Nat.zero_le _)) (pc := 0) (fun fu hfu => ?_)
    simp only [↓callX8_all_0, ↓callX8_all_1, kb_12, kb_6, kb_60, kc_12, kc_6, kc_60, ki_0, ki_1, ki_2, ki_3, ki_4, ↓ma_44, ↓ma_54, ↓mg_1, ↓mg_2, ↓mg_44, ↓mg_54, ↓mg_56, ↓mg_57, ↓mg_58, misa, ↓vm_aload_n, ↓vm_bipush, ↓vm_getfield, ↓vm_goto, ↓vm_iadd, ↓vm_iaload, ↓vm_iconst, ↓vm_ifCond_eq, ↓vm_ifCond_ne, ↓vm_if_icmp_ge, ↓vm_if_icmp_le, ↓vm_if_icmp_lt, ↓vm_if_icmp_ne, ↓vm_iinc, ↓vm_iload_n, ↓vm_invokestatic, ↓vm_invokevirtual, ↓vm_ireturn, ↓vm_istore_n, ↓xc_2, ↓xc_3, ↓tbX8_all_0, ↓tbX8_all_1, ↓tbX8_all_2, ↓tbX8_all_3, ↓tbX8_all_5, ↓tbX8_all_8, ↓tbX8_all_11, ↓tbX8_all_12, ↓tbX8_all_15, ↓tbX8_all_16, ↓tbX8_all_19, ↓tbX8_all_22, ↓tbX8_all_23, ↓tbX8_all_24, ↓tbX8_all_25, ↓tbX8_all_26, ↓tbX8_all_29, ↓tbX8_all_30, ↓tbX8_all_31, ↓tbX8_all_34, ↓tbX8_all_35, ↓tbX8_all_37, ↓tbX8_all_40, ↓tbX8_all_41, ↓tbX8_all_44, ↓tbX8_all_45, ↓tbX8_all_48, ↓tbX8_all_51, ↓tbX8_all_52, ↓tbX8_all_53, ↓tbX8_all_56, ↓tbX8_all_57, ↓tbX8_all_60, ↓tbX8_all_63, ↓tbX8_all_64, ↓tbX8_all_65, ↓tbX8_all_68, ↓tbX8_all_69, ↓tbX8_all_72, ↓tbX8_all_75, ↓tbX8_all_76, ↓tbX8_all_77, ↓tbX8_all_80, ↓tbX8_all_81, ↓tbX8_all_84, ↓tbX8_all_87, ↓tbX8_all_88, ↓tbX8_all_91, ↓tbX8_all_92, ↓tbX8_all_93, ↓tbX8_all_94, ↓tbX8_all_95, ↓tbX8_all_96, ↓tbX8_all_97, ↓tbX8_all_99, ↓tbX8_all_102, ↓tbX8_all_103, ↓tbX8_all_104, ↓tbX8_all_107, ↓tbX8_all_108, ↓tbX8_all_109, ↓tbX8_all_112, ↓tbX8_all_113, ↓tbX8_all_114, ↓tbX8_all_115, ↓tbX8_all_116, ↓tbX8_all_119, ↓tbX8_all_122, ↓tbX8_all_123, ↓tbX8_all_124, ↓tbX8_all_125, ↓tbX8_all_127, ↓tbX8_all_130, ↓tbX8_all_131, ↓tbX8_all_133, ↓tbX8_all_136, ↓tbX8_all_137, ↓tbX8_all_138, ↓tbX8_all_141, ↓tbX8_all_142, ↓tbX8_all_143, ↓tbX8_all_144, ↓tbX8_all_145, ↓tbX8_all_148, ↓tbX8_all_151, ↓tbX8_all_152, hfu, xstep0, xJ1_hit, xJ1_go, xJ2_hit1, xJ2_hit2, xJ2_go, ↓xif_t, ↓xif_f, seval, ↓xca_eq, ↓xre_l, ↓xre_r, xmask_t, xmask_f, xmask_nil, ↓xst_eq, xX_eq, eI_eq, eMc_eq, eMs_eq, eF_eq, eThr_eq, ↓xS1_mk, ↓xSI_mk, ↓xSR_mk, ↓xLI_0, ↓xLI_s, ↓xLR_0, ↓xLR_s, vRef_ref, vRef_null, vRef_rf, cat_int, cat_ref, cat_null, cat_rf, rf_some, rf_none, rf_null, rf_eq, rf_ref, ref_rf, ref_null, ref_ref, xOk_0, xOk_1, xOk_2r, xOk_2n, xOk_2f, vOpt_rf, vOpt_ref, vOpt_null, List.set_cons_zero, List.set_cons_succ, List.take_succ_cons, List.take_zero, List.drop_succ_cons, List.drop_zero, List.reverse_cons, List.reverse_nil, List.nil_append, List.cons_append, List.append_nil, List.length_cons, List.length_nil, List.map_cons, List.map_nil, List.sum_cons, List.sum_nil, Option.toList_some, Option.toList_none, xRecv_mk, true_and, and_true, true_implies, Nat.reduceAdd, Nat.reduceLeDiff, Nat.zero_le, Nat.le_refl, Nat.add_zero, Nat.zero_add, reduceIte, not_true_eq_false, not_false_eq_true, false_implies, and_self, implies_true, eq_self, Nat.reduceEqDiff, List.cons.injEq, xsn_1, xsn_2, false_and, and_false, or_false, false_or, or_true, true_or, xsn_3, xsn_4, mAst_1, mAst_2, mSet_1, mSet_2, bi_0, ↓spwX8_in, spcX8_in, ↓spwX8_holds, spcX8_holds]
    try simp only [xif_e]
    repeat' (first | rfl | apply And.intro)
  · by_cases hw6 : w = 6
    · subst hw6
      have h : KF (rI (mSum (M.2 44) 60)) (mSet M 0 0) := h
      have l2 := xloop hG 124 [true, true, true, true] (fun j lv st S cs ss => lv = [some (.ref (aM 0)), some (.int 6), some (.int (mSum (M.2 44) j)), some (.int (nI j))] ∧ st = [] ∧ mSet M 0 0 = S ∧ cs = 0 ∧ ss = 0) 60 (by
          rintro j hj lv st S cs ss ⟨rfl, rfl, rfl, rfl, rfl⟩ fu hfu
          have e0 : ((60 : Int32) ≤ nI j) = False := ge_nI hj (show 60 < 1000 by omega)
          simp only [↓callX8_all_0, ↓callX8_all_1, kb_12, kb_6, kb_60, kc_12, kc_6, kc_60, ki_0, ki_1, ki_2, ki_3, ki_4, ↓ma_44, ↓ma_54, ↓mg_1, ↓mg_2, ↓mg_44, ↓mg_54, ↓mg_56, ↓mg_57, ↓mg_58, misa, ↓vm_aload_n, ↓vm_bipush, ↓vm_getfield, ↓vm_goto, ↓vm_iadd, ↓vm_iaload, ↓vm_iconst, ↓vm_ifCond_eq, ↓vm_ifCond_ne, ↓vm_if_icmp_ge, ↓vm_if_icmp_le, ↓vm_if_icmp_lt, ↓vm_if_icmp_ne, ↓vm_iinc, ↓vm_iload_n, ↓vm_invokestatic, ↓vm_invokevirtual, ↓vm_ireturn, ↓vm_istore_n, ↓xc_2, ↓xc_3, ↓tbX8_all_0, ↓tbX8_all_1, ↓tbX8_all_2, ↓tbX8_all_3, ↓tbX8_all_5, ↓tbX8_all_8, ↓tbX8_all_11, ↓tbX8_all_12, ↓tbX8_all_15, ↓tbX8_all_16, ↓tbX8_all_19, ↓tbX8_all_22, ↓tbX8_all_23, ↓tbX8_all_24, ↓tbX8_all_25, ↓tbX8_all_26, ↓tbX8_all_29, ↓tbX8_all_30, ↓tbX8_all_31, ↓tbX8_all_34, ↓tbX8_all_35, ↓tbX8_all_37, ↓tbX8_all_40, ↓tbX8_all_41, ↓tbX8_all_44, ↓tbX8_all_45, ↓tbX8_all_48, ↓tbX8_all_51, ↓tbX8_all_52, ↓tbX8_all_53, ↓tbX8_all_56, ↓tbX8_all_57, ↓tbX8_all_60, ↓tbX8_all_63, ↓tbX8_all_64, ↓tbX8_all_65, ↓tbX8_all_68, ↓tbX8_all_69, ↓tbX8_all_72, ↓tbX8_all_75, ↓tbX8_all_76, ↓tbX8_all_77, ↓tbX8_all_80, ↓tbX8_all_81, ↓tbX8_all_84, ↓tbX8_all_87, ↓tbX8_all_88, ↓tbX8_all_91, ↓tbX8_all_92, ↓tbX8_all_93, ↓tbX8_all_94, ↓tbX8_all_95, ↓tbX8_all_96, ↓tbX8_all_97, ↓tbX8_all_99, ↓tbX8_all_102, ↓tbX8_all_103, ↓tbX8_all_104, ↓tbX8_all_107, ↓tbX8_all_108, ↓tbX8_all_109, ↓tbX8_all_112, ↓tbX8_all_113, ↓tbX8_all_114, ↓tbX8_all_115, ↓tbX8_all_116, ↓tbX8_all_119, ↓tbX8_all_122, ↓tbX8_all_123, ↓tbX8_all_124, ↓tbX8_all_125, ↓tbX8_all_127, ↓tbX8_all_130, ↓tbX8_all_131, ↓tbX8_all_133, ↓tbX8_all_136, ↓tbX8_all_137, ↓tbX8_all_138, ↓tbX8_all_141, ↓tbX8_all_142, ↓tbX8_all_143, ↓tbX8_all_144, ↓tbX8_all_145, ↓tbX8_all_148, ↓tbX8_all_151, ↓tbX8_all_152, hfu, xstep0, xJ1_hit, xJ1_go, xJ2_hit1, xJ2_hit2, xJ2_go, ↓xif_t, ↓xif_f, seval, ↓xca_eq, ↓xre_l, ↓xre_r, xmask_t, xmask_f, xmask_nil, ↓xst_eq, xX_eq, eI_eq, eMc_eq, eMs_eq, eF_eq, eThr_eq, ↓xS1_mk, ↓xSI_mk, ↓xSR_mk, ↓xLI_0, ↓xLI_s, ↓xLR_0, ↓xLR_s, vRef_ref, vRef_null, vRef_rf, cat_int, cat_ref, cat_null, cat_rf, rf_some, rf_none, rf_null, rf_eq, rf_ref, ref_rf, ref_null, ref_ref, xOk_0, xOk_1, xOk_2r, xOk_2n, xOk_2f, vOpt_rf, vOpt_ref, vOpt_null, List.set_cons_zero, List.set_cons_succ, List.take_succ_cons, List.take_zero, List.drop_succ_cons, List.drop_zero, List.reverse_cons, List.reverse_nil, List.nil_append, List.cons_append, List.append_nil, List.length_cons, List.length_nil, List.map_cons, List.map_nil, List.sum_cons, List.sum_nil, Option.toList_some, Option.toList_none, xRecv_mk, true_and, and_true, true_implies, Nat.reduceAdd, Nat.reduceLeDiff, Nat.zero_le, Nat.le_refl, Nat.add_zero, Nat.zero_add, reduceIte, not_true_eq_false, not_false_eq_true, false_implies, and_self, implies_true, eq_self, Nat.reduceEqDiff, List.cons.injEq, xsn_1, xsn_2, false_and, and_false, or_false, false_or, or_true, true_or, xsn_3, xsn_4, mAst_1, mAst_2, mSet_1, mSet_2, bi_0, ↓spwX8_in, spcX8_in, ↓spwX8_holds, spcX8_holds, e0, xin_nI hj (show 60 ≤ 1000 by omega), ix_nI (show j < 1000 by omega), nI1]
          try simp only [xif_e]
          repeat' (first | rfl | apply And.intro)) (by
          rintro lv st S cs ss ⟨rfl, rfl, rfl, rfl, rfl⟩ fu hfu
          have e0 : ((60 : Int32) ≤ nI 60) = True := eq_true (Int32.le_refl _)
          simp only [↓callX8_all_0, ↓callX8_all_1, kb_12, kb_6, kb_60, kc_12, kc_6, kc_60, ki_0, ki_1, ki_2, ki_3, ki_4, ↓ma_44, ↓ma_54, ↓mg_1, ↓mg_2, ↓mg_44, ↓mg_54, ↓mg_56, ↓mg_57, ↓mg_58, misa, ↓vm_aload_n, ↓vm_bipush, ↓vm_getfield, ↓vm_goto, ↓vm_iadd, ↓vm_iaload, ↓vm_iconst, ↓vm_ifCond_eq, ↓vm_ifCond_ne, ↓vm_if_icmp_ge, ↓vm_if_icmp_le, ↓vm_if_icmp_lt, ↓vm_if_icmp_ne, ↓vm_iinc, ↓vm_iload_n, ↓vm_invokestatic, ↓vm_invokevirtual, ↓vm_ireturn, ↓vm_istore_n, ↓xc_2, ↓xc_3, ↓tbX8_all_0, ↓tbX8_all_1, ↓tbX8_all_2, ↓tbX8_all_3, ↓tbX8_all_5, ↓tbX8_all_8, ↓tbX8_all_11, ↓tbX8_all_12, ↓tbX8_all_15, ↓tbX8_all_16, ↓tbX8_all_19, ↓tbX8_all_22, ↓tbX8_all_23, ↓tbX8_all_24, ↓tbX8_all_25, ↓tbX8_all_26, ↓tbX8_all_29, ↓tbX8_all_30, ↓tbX8_all_31, ↓tbX8_all_34, ↓tbX8_all_35, ↓tbX8_all_37, ↓tbX8_all_40, ↓tbX8_all_41, ↓tbX8_all_44, ↓tbX8_all_45, ↓tbX8_all_48, ↓tbX8_all_51, ↓tbX8_all_52, ↓tbX8_all_53, ↓tbX8_all_56, ↓tbX8_all_57, ↓tbX8_all_60, ↓tbX8_all_63, ↓tbX8_all_64, ↓tbX8_all_65, ↓tbX8_all_68, ↓tbX8_all_69, ↓tbX8_all_72, ↓tbX8_all_75, ↓tbX8_all_76, ↓tbX8_all_77, ↓tbX8_all_80, ↓tbX8_all_81, ↓tbX8_all_84, ↓tbX8_all_87, ↓tbX8_all_88, ↓tbX8_all_91, ↓tbX8_all_92, ↓tbX8_all_93, ↓tbX8_all_94, ↓tbX8_all_95, ↓tbX8_all_96, ↓tbX8_all_97, ↓tbX8_all_99, ↓tbX8_all_102, ↓tbX8_all_103, ↓tbX8_all_104, ↓tbX8_all_107, ↓tbX8_all_108, ↓tbX8_all_109, ↓tbX8_all_112, ↓tbX8_all_113, ↓tbX8_all_114, ↓tbX8_all_115, ↓tbX8_all_116, ↓tbX8_all_119, ↓tbX8_all_122, ↓tbX8_all_123, ↓tbX8_all_124, ↓tbX8_all_125, ↓tbX8_all_127, ↓tbX8_all_130, ↓tbX8_all_131, ↓tbX8_all_133, ↓tbX8_all_136, ↓tbX8_all_137, ↓tbX8_all_138, ↓tbX8_all_141, ↓tbX8_all_142, ↓tbX8_all_143, ↓tbX8_all_144, ↓tbX8_all_145, ↓tbX8_all_148, ↓tbX8_all_151, ↓tbX8_all_152, hfu, xstep0, xJ1_hit, xJ1_go, xJ2_hit1, xJ2_hit2, xJ2_go, ↓xif_t, ↓xif_f, seval, ↓xca_eq, ↓xre_l, ↓xre_r, xmask_t, xmask_f, xmask_nil, ↓xst_eq, xX_eq, eI_eq, eMc_eq, eMs_eq, eF_eq, eThr_eq, ↓xS1_mk, ↓xSI_mk, ↓xSR_mk, ↓xLI_0, ↓xLI_s, ↓xLR_0, ↓xLR_s, vRef_ref, vRef_null, vRef_rf, cat_int, cat_ref, cat_null, cat_rf, rf_some, rf_none, rf_null, rf_eq, rf_ref, ref_rf, ref_null, ref_ref, xOk_0, xOk_1, xOk_2r, xOk_2n, xOk_2f, vOpt_rf, vOpt_ref, vOpt_null, List.set_cons_zero, List.set_cons_succ, List.take_succ_cons, List.take_zero, List.drop_succ_cons, List.drop_zero, List.reverse_cons, List.reverse_nil, List.nil_append, List.cons_append, List.append_nil, List.length_cons, List.length_nil, List.map_cons, List.map_nil, List.sum_cons, List.sum_nil, Option.toList_some, Option.toList_none, xRecv_mk, true_and, and_true, true_implies, Nat.reduceAdd, Nat.reduceLeDiff, Nat.zero_le, Nat.le_refl, Nat.add_zero, Nat.zero_add, reduceIte, not_true_eq_false, not_false_eq_true, false_implies, and_self, implies_true, eq_self, Nat.reduceEqDiff, List.cons.injEq, xsn_1, xsn_2, false_and, and_false, or_false, false_or, or_true, true_or, xsn_3, xsn_4, mAst_1, mAst_2, mSet_1, mSet_2, bi_0, ↓spwX8_in, spcX8_in, ↓spwX8_holds, spcX8_holds, e0]
          try simp only [xif_e]
          exact h)
      refine xgo hG (mb := [true, true, true, true]) (l2 0 (Nat.zero_le _)) (pc := 0) (fun fu hfu => ?_)
      simp only [↓callX8_all_0, ↓callX8_all_1, kb_12, kb_6, kb_60, kc_12, kc_6, kc_60, ki_0, ki_1, ki_2, ki_3, ki_4, ↓ma_44, ↓ma_54, ↓mg_1, ↓mg_2, ↓mg_44, ↓mg_54, ↓mg_56, ↓mg_57, ↓mg_58, misa, ↓vm_aload_n, ↓vm_bipush, ↓vm_getfield, ↓vm_goto, ↓vm_iadd, ↓vm_iaload, ↓vm_iconst, ↓vm_ifCond_eq, ↓vm_ifCond_ne, ↓vm_if_icmp_ge, ↓vm_if_icmp_le, ↓vm_if_icmp_lt, ↓vm_if_icmp_ne, ↓vm_iinc, ↓vm_iload_n, ↓vm_invokestatic, ↓vm_invokevirtual, ↓vm_ireturn, ↓vm_istore_n, ↓xc_2, ↓xc_3, ↓tbX8_all_0, ↓tbX8_all_1, ↓tbX8_all_2, ↓tbX8_all_3, ↓tbX8_all_5, ↓tbX8_all_8, ↓tbX8_all_11, ↓tbX8_all_12, ↓tbX8_all_15, ↓tbX8_all_16, ↓tbX8_all_19, ↓tbX8_all_22, ↓tbX8_all_23, ↓tbX8_all_24, ↓tbX8_all_25, ↓tbX8_all_26, ↓tbX8_all_29, ↓tbX8_all_30, ↓tbX8_all_31, ↓tbX8_all_34, ↓tbX8_all_35, ↓tbX8_all_37, ↓tbX8_all_40, ↓tbX8_all_41, ↓tbX8_all_44, ↓tbX8_all_45, ↓tbX8_all_48, ↓tbX8_all_51, ↓tbX8_all_52, ↓tbX8_all_53, ↓tbX8_all_56, ↓tbX8_all_57, ↓tbX8_all_60, ↓tbX8_all_63, ↓tbX8_all_64, ↓tbX8_all_65, ↓tbX8_all_68, ↓tbX8_all_69, ↓tbX8_all_72, ↓tbX8_all_75, ↓tbX8_all_76, ↓tbX8_all_77, ↓tbX8_all_80, ↓tbX8_all_81, ↓tbX8_all_84, ↓tbX8_all_87, ↓tbX8_all_88, ↓tbX8_all_91, ↓tbX8_all_92, ↓tbX8_all_93, ↓tbX8_all_94, ↓tbX8_all_95, ↓tbX8_all_96, ↓tbX8_all_97, ↓tbX8_all_99, ↓tbX8_all_102, ↓tbX8_all_103, ↓tbX8_all_104, ↓tbX8_all_107, ↓tbX8_all_108, ↓tbX8_all_109, ↓tbX8_all_112, ↓tbX8_all_113, ↓tbX8_all_114, ↓tbX8_all_115, ↓tbX8_all_116, ↓tbX8_all_119, ↓tbX8_all_122, ↓tbX8_all_123, ↓tbX8_all_124, ↓tbX8_all_125, ↓tbX8_all_127, ↓tbX8_all_130, ↓tbX8_all_131, ↓tbX8_all_133, ↓tbX8_all_136, ↓tbX8_all_137, ↓tbX8_all_138, ↓tbX8_all_141, ↓tbX8_all_142, ↓tbX8_all_143, ↓tbX8_all_144, ↓tbX8_all_145, ↓tbX8_all_148, ↓tbX8_all_151, ↓tbX8_all_152, hfu, xstep0, xJ1_hit, xJ1_go, xJ2_hit1, xJ2_hit2, xJ2_go, ↓xif_t, ↓xif_f, seval, ↓xca_eq, ↓xre_l, ↓xre_r, xmask_t, xmask_f, xmask_nil, ↓xst_eq, xX_eq, eI_eq, eMc_eq, eMs_eq, eF_eq, eThr_eq, ↓xS1_mk, ↓xSI_mk, ↓xSR_mk, ↓xLI_0, ↓xLI_s, ↓xLR_0, ↓xLR_s, vRef_ref, vRef_null, vRef_rf, cat_int, cat_ref, cat_null, cat_rf, rf_some, rf_none, rf_null, rf_eq, rf_ref, ref_rf, ref_null, ref_ref, xOk_0, xOk_1, xOk_2r, xOk_2n, xOk_2f, vOpt_rf, vOpt_ref, vOpt_null, List.set_cons_zero, List.set_cons_succ, List.take_succ_cons, List.take_zero, List.drop_succ_cons, List.drop_zero, List.reverse_cons, List.reverse_nil, List.nil_append, List.cons_append, List.append_nil, List.length_cons, List.length_nil, List.map_cons, List.map_nil, List.sum_cons, List.sum_nil, Option.toList_some, Option.toList_none, xRecv_mk, true_and, and_true, true_implies, Nat.reduceAdd, Nat.reduceLeDiff, Nat.zero_le, Nat.le_refl, Nat.add_zero, Nat.zero_add, reduceIte, not_true_eq_false, not_false_eq_true, false_implies, and_self, implies_true, eq_self, Nat.reduceEqDiff, List.cons.injEq, xsn_1, xsn_2, false_and, and_false, or_false, false_or, or_true, true_or, xsn_3, xsn_4, mAst_1, mAst_2, mSet_1, mSet_2, bi_0, ↓spwX8_in, spcX8_in, ↓spwX8_holds, spcX8_holds]
      try simp only [xif_e]
      repeat' (first | rfl | apply And.intro)
    · unfold oAll at h
      refine xgo hG (mb := []) (head := 96) (P := fun _ _ _ _ _ => False) (fun _ _ _ _ _ q => q.elim) (pc := 0) (fun fu hfu => ?_)
      simp only [↓callX8_all_0, ↓callX8_all_1, kb_12, kb_6, kb_60, kc_12, kc_6, kc_60, ki_0, ki_1, ki_2, ki_3, ki_4, ↓ma_44, ↓ma_54, ↓mg_1, ↓mg_2, ↓mg_44, ↓mg_54, ↓mg_56, ↓mg_57, ↓mg_58, misa, ↓vm_aload_n, ↓vm_bipush, ↓vm_getfield, ↓vm_goto, ↓vm_iadd, ↓vm_iaload, ↓vm_iconst, ↓vm_ifCond_eq, ↓vm_ifCond_ne, ↓vm_if_icmp_ge, ↓vm_if_icmp_le, ↓vm_if_icmp_lt, ↓vm_if_icmp_ne, ↓vm_iinc, ↓vm_iload_n, ↓vm_invokestatic, ↓vm_invokevirtual, ↓vm_ireturn, ↓vm_istore_n, ↓xc_2, ↓xc_3, ↓tbX8_all_0, ↓tbX8_all_1, ↓tbX8_all_2, ↓tbX8_all_3, ↓tbX8_all_5, ↓tbX8_all_8, ↓tbX8_all_11, ↓tbX8_all_12, ↓tbX8_all_15, ↓tbX8_all_16, ↓tbX8_all_19, ↓tbX8_all_22, ↓tbX8_all_23, ↓tbX8_all_24, ↓tbX8_all_25, ↓tbX8_all_26, ↓tbX8_all_29, ↓tbX8_all_30, ↓tbX8_all_31, ↓tbX8_all_34, ↓tbX8_all_35, ↓tbX8_all_37, ↓tbX8_all_40, ↓tbX8_all_41, ↓tbX8_all_44, ↓tbX8_all_45, ↓tbX8_all_48, ↓tbX8_all_51, ↓tbX8_all_52, ↓tbX8_all_53, ↓tbX8_all_56, ↓tbX8_all_57, ↓tbX8_all_60, ↓tbX8_all_63, ↓tbX8_all_64, ↓tbX8_all_65, ↓tbX8_all_68, ↓tbX8_all_69, ↓tbX8_all_72, ↓tbX8_all_75, ↓tbX8_all_76, ↓tbX8_all_77, ↓tbX8_all_80, ↓tbX8_all_81, ↓tbX8_all_84, ↓tbX8_all_87, ↓tbX8_all_88, ↓tbX8_all_91, ↓tbX8_all_92, ↓tbX8_all_93, ↓tbX8_all_94, ↓tbX8_all_95, ↓tbX8_all_96, ↓tbX8_all_97, ↓tbX8_all_99, ↓tbX8_all_102, ↓tbX8_all_103, ↓tbX8_all_104, ↓tbX8_all_107, ↓tbX8_all_108, ↓tbX8_all_109, ↓tbX8_all_112, ↓tbX8_all_113, ↓tbX8_all_114, ↓tbX8_all_115, ↓tbX8_all_116, ↓tbX8_all_119, ↓tbX8_all_122, ↓tbX8_all_123, ↓tbX8_all_124, ↓tbX8_all_125, ↓tbX8_all_127, ↓tbX8_all_130, ↓tbX8_all_131, ↓tbX8_all_133, ↓tbX8_all_136, ↓tbX8_all_137, ↓tbX8_all_138, ↓tbX8_all_141, ↓tbX8_all_142, ↓tbX8_all_143, ↓tbX8_all_144, ↓tbX8_all_145, ↓tbX8_all_148, ↓tbX8_all_151, ↓tbX8_all_152, hfu, xstep0, xJ1_hit, xJ1_go, xJ2_hit1, xJ2_hit2, xJ2_go, ↓xif_t, ↓xif_f, seval, ↓xca_eq, ↓xre_l, ↓xre_r, xmask_t, xmask_f, xmask_nil, ↓xst_eq, xX_eq, eI_eq, eMc_eq, eMs_eq, eF_eq, eThr_eq, ↓xS1_mk, ↓xSI_mk, ↓xSR_mk, ↓xLI_0, ↓xLI_s, ↓xLR_0, ↓xLR_s, vRef_ref, vRef_null, vRef_rf, cat_int, cat_ref, cat_null, cat_rf, rf_some, rf_none, rf_null, rf_eq, rf_ref, ref_rf, ref_null, ref_ref, xOk_0, xOk_1, xOk_2r, xOk_2n, xOk_2f, vOpt_rf, vOpt_ref, vOpt_null, List.set_cons_zero, List.set_cons_succ, List.take_succ_cons, List.take_zero, List.drop_succ_cons, List.drop_zero, List.reverse_cons, List.reverse_nil, List.nil_append, List.cons_append, List.append_nil, List.length_cons, List.length_nil, List.map_cons, List.map_nil, List.sum_cons, List.sum_nil, Option.toList_some, Option.toList_none, xRecv_mk, true_and, and_true, true_implies, Nat.reduceAdd, Nat.reduceLeDiff, Nat.zero_le, Nat.le_refl, Nat.add_zero, Nat.zero_add, reduceIte, not_true_eq_false, not_false_eq_true, false_implies, and_self, implies_true, eq_self, Nat.reduceEqDiff, List.cons.injEq, xsn_1, xsn_2, false_and, and_false, or_false, false_or, or_true, true_or, xsn_3, xsn_4, mAst_1, mAst_2, mSet_1, mSet_2, bi_0, ↓spwX8_in, spcX8_in, ↓spwX8_holds, spcX8_holds, hw, hw6]
      try simp only [xif_e]
      repeat' (first | with_reducible apply And.intro | with_reducible intro _)
      all_goals grind (splits := 30) [bi, nI_0]
