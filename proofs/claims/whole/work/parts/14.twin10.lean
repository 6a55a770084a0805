/-! The twin's methods: hours, one behind the other. -/
def mOKw (M : mS) (w : Nat) : Prop := mTk M w ∧ mWk M w ∧ (M.2 37 w = -1 ∨ vp_in (M.2 37 w) 8) ∧ (M.2 35 w = 0 ∨ M.2 35 w = 1) ∧ ((M.2 34 w = -1 ∧ vp_in (M.2 33 w) 8 ∧ ¬ M.2 37 w = M.2 33 w) ∨ vp_in (M.2 34 w) 7)
def mOKh (M : mS) : Prop := (M.1 29 = nI (nBt M) ∧ nBt M ≤ 6) ∧ (∀ w, w < nBt M → mOKw M w) ∧ ∀ s, s < 7 → M.2 15 s = 0 ∨ M.2 15 s = 1
theorem vin_m1 {n : Nat} : ¬ vp_in (-1) n := fun h => h (Or.inl (by decide))
theorem mOKw_ext {M N : mS} {w : Nat} (h : mOKw M w) (h40 : N.2 40 w = M.2 40 w) (h41 : N.2 41 = M.2 41) (h42 : N.2 42 w = M.2 42 w) (hr : (N.2 37 w = -1 ∨ vp_in (N.2 37 w) 8) ∧ (N.2 35 w = 0 ∨ N.2 35 w = 1) ∧ ((N.2 34 w = -1 ∧ vp_in (N.2 33 w) 8 ∧ ¬ N.2 37 w = N.2 33 w) ∨ vp_in (N.2 34 w) 7)) : mOKw N w := by
  obtain ⟨h1, h2, -⟩ := h
  refine ⟨?_, ?_, hr⟩
  · unfold mTk at h1 ⊢
    rw [h42, h41]
    exact h1
  · unfold mWk at h2 ⊢
    rw [h40]
    exact h2
theorem mOKw_same {M N : mS} {w : Nat} (h : mOKw M w) (h40 : N.2 40 w = M.2 40 w) (h41 : N.2 41 = M.2 41) (h42 : N.2 42 w = M.2 42 w) (h33 : N.2 33 w = M.2 33 w) (h34 : N.2 34 w = M.2 34 w) (h35 : N.2 35 w = M.2 35 w) (h37 : N.2 37 w = M.2 37 w) : mOKw N w :=
  mOKw_ext h h40 h41 h42 (by rw [h33, h34, h35, h37]; exact h.2.2)
theorem mNext_in {M : mS} {w : Nat} (hw : w < 6) (h : mOKw M w) (hs : M.2 34 w = -1) (hg : ¬ M.2 37 w = -1) : vp_in (mNext M (nI w)) 7 := by
  obtain ⟨-, -, h3, -, h5⟩ := h
  obtain ⟨g, hg8, eg⟩ := vp_in_of (h3.resolve_left hg) (by omega)
  rcases h5 with ⟨-, hp, hne⟩ | hbad
  · obtain ⟨p, hp8, ep⟩ := vp_in_of hp (by omega)
    unfold mNext
    rw [ix_nI (by omega), eg, ep]
    rw [eg, ep, eq_nI (by omega) (by omega)] at hne
    by_cases c : p < g
    · rw [if_pos (show nI g > nI p from nI_lt c (by omega))]
      exact xin_nI (by omega) (by omega)
    · rw [if_neg (fun q => c (by have q : nI p < nI g := q; rwa [lt_nI (by omega) (by omega)] at q)), sub1_nI (by omega)]
      exact xin_nI (by omega) (by omega)
  · rw [hs] at hbad
    exact absurd hbad vin_m1
theorem mOK_mBs {M : mS} (h : mOKh M) : mBs M (nBt M) :=
  ⟨h.1, rfl, fun w hw => ⟨(h.2.1 w hw).1, fun a b => mNext_in (by have := h.1.2; omega) (h.2.1 w hw) a b⟩⟩
theorem in_k {n k : Nat} (h : k < n) (hn : n ≤ 1000) : vp_in (nI k) n := xin_nI h hn
theorem mUnfit_in (M : mS) (s b u : Int32) : mUnfit M s b u = 3 ∨ mUnfit M s b u = 4 ∨ mUnfit M s b u = 5 ∨ mUnfit M s b u = 0 := by
  unfold mUnfit
  (repeat' split) <;> simp
theorem mEarly_in (M : mS) (b : Int32) : vp_in (mEarly M b) 10 := by
  unfold mEarly
  have h := mUnfit_in M (mNext M b) b (mUp M b)
  split
  · exact in_k (n := 10) (k := 1) (by omega) (by omega)
  · split
    · exact in_k (n := 10) (k := 2) (by omega) (by omega)
    · split
      · rcases h with e | e | e | e <;> rw [e]
        · exact in_k (n := 10) (k := 3) (by omega) (by omega)
        · exact in_k (n := 10) (k := 4) (by omega) (by omega)
        · exact in_k (n := 10) (k := 5) (by omega) (by omega)
        · exact in_k (n := 10) (k := 0) (by omega) (by omega)
      · split
        · exact in_k (n := 10) (k := 6) (by omega) (by omega)
        · exact in_k (n := 10) (k := 0) (by omega) (by omega)
theorem mBar_in (M : mS) (b : Int32) (n : Nat) : vp_in (mBar M b n) 10 := by
  unfold mBar
  split
  · exact mEarly_in M b
  · split
    · split
      · exact in_k (n := 10) (k := 7) (by omega) (by omega)
      · exact in_k (n := 10) (k := 0) (by omega) (by omega)
    · split
      · exact in_k (n := 10) (k := 8) (by omega) (by omega)
      · exact in_k (n := 10) (k := 0) (by omega) (by omega)
theorem mWts_1 (M : mS) (b c : Int32) : (mWts M b c).1 = M.1 := rfl
theorem mWts_at (M : mS) (b c : Int32) {k : Nat} (h : k ≠ 43) (h2 : k ≠ 44) : (mWts M b c).2 k = M.2 k := by
  unfold mWts
  funext i
  simp [mAst_2, h, h2]
theorem mOK_wts {M : mS} {b c : Int32} (h : mOKh M) : mOKh (mWts M b c) := by
  refine ⟨h.1, fun w hw => mOKw_same (h.2.1 w hw) ?_ ?_ ?_ ?_ ?_ ?_ ?_, fun s hs => ?_⟩
  all_goals rw [mWts_at M b c (by omega) (by omega)]
  exact h.2.2 s hs
theorem mEnt_1 (M : mS) (w : Nat) : (mEnt M w).1 = M.1 := by
  unfold mEnt
  split <;> rfl
theorem mOK_ent {M : mS} {k : Nat} (h : mOKh M) (hk : k < nBt M) (hx : vp_in (mNext M (nI k)) 7) : mOKh (mEnt M k) := by
  have hn : nBt (mEnt M k) = nBt M := by unfold nBt; rw [mEnt_1]
  refine ⟨by rw [hn, mEnt_1]; exact h.1, fun w hw => ?_, fun s hs => ?_⟩
  · rw [hn] at hw
    have hu := mUp_01 M (nI k)
    by_cases e : w = k
    · subst e
      refine mOKw_ext (h.2.1 w hw) ?_ ?_ ?_ ⟨?_, ?_, Or.inr ?_⟩
      · unfold mEnt; split <;> simp [mAst_2]
      · unfold mEnt; split <;> (funext i; simp [mAst_2])
      · unfold mEnt; split <;> simp [mAst_2]
      · have z := (h.2.1 w hw).2.2.1
        unfold mEnt; split <;> (simp [mAst_2]; exact z)
      · unfold mEnt; split <;> (simp [mAst_2]; exact hu)
      · unfold mEnt; split <;> (simp [mAst_2]; exact hx)
    · refine mOKw_same (h.2.1 w hw) ?_ ?_ ?_ ?_ ?_ ?_ ?_
      all_goals (unfold mEnt; split <;> first | (simp [mAst_2, e]; done) | (funext i; simp [mAst_2]; done))
  · have hu := mUp_01 M (nI k)
    have z := h.2.2 s hs
    unfold mEnt
    split
    · simp [mAst_2]; exact z
    · simp only [mAst_2]
      by_cases e : s = (mNext M (nI k)).toNatClampNeg
      · simp [e]; exact hu
      · simp [e]; exact z
theorem mCome_1 (M : mS) (w : Nat) : (mCome M w).1 = M.1 := by
  unfold mCome
  rw [mAgr_1]
  rfl
theorem mOK_come {M : mS} {k : Nat} (h : mOKh M) (hk : k < nBt M) (hs : vp_in (M.2 34 k) 7) : mOKh (mCome M k) := by
  have hn : nBt (mCome M k) = nBt M := by unfold nBt; rw [mCome_1]
  have ha : ∀ b, b ≠ 45 → (mCome M k).2 b = (mCm1 M k).2 b := fun b hb => by unfold mCome; exact mAgr_2 _ _ _ _ hb
  refine ⟨by rw [hn, mCome_1]; exact h.1, fun w hw => ?_, fun s hs => ?_⟩
  · rw [hn] at hw
    by_cases e : w = k
    · subst e
      have hp : vp_in (mPtA M w) 8 := by
        obtain ⟨s, hs7, es⟩ := vp_in_of hs (by omega)
        unfold mPtA
        rw [es]
        split
        · exact xin_nI (by omega) (by omega)
        · rw [nI1]
          exact xin_nI (by omega) (by omega)
      have hg := (h.2.1 w hw).2.2.1
      have ev : (mCm1 M w).2 37 w = if M.2 37 w = mPtA M w then -1 else M.2 37 w := by simp [mCm1, mAst_2]
      refine mOKw_ext (h.2.1 w hw) ?_ ?_ ?_ ⟨?_, ?_, Or.inl ⟨?_, ?_, ?_⟩⟩
      · rw [ha _ (by omega)]; simp [mCm1, mAst_2]
      · rw [ha _ (by omega)]; funext i; simp [mCm1, mAst_2]
      · rw [ha _ (by omega)]; simp [mCm1, mAst_2]
      · rw [ha _ (by omega), ev]
        split
        · exact Or.inl rfl
        · exact hg
      · rw [ha _ (by omega)]
        have z := (h.2.1 w hw).2.2.2.1
        simp [mCm1, mAst_2]; exact z
      · rw [ha _ (by omega)]; simp [mCm1, mAst_2]
      · rw [ha _ (by omega)]; simp [mCm1, mAst_2]; exact hp
      · rw [ha _ (by omega), ha _ (by omega), ev, show (mCm1 M w).2 33 w = mPtA M w by simp [mCm1, mAst_2]]
        split
        · intro q
          rw [← q] at hp
          exact vin_m1 hp
        · assumption
    · refine mOKw_same (h.2.1 w hw) ?_ ?_ ?_ ?_ ?_ ?_ ?_
      all_goals (rw [ha _ (by omega)]; first | (simp [mCm1, mAst_2, e]; done) | (funext i; simp [mCm1, mAst_2]; done))
  · rw [ha _ (by omega)]
    have z := h.2.2 s hs
    simp [mCm1, mAst_2]; exact z
theorem mOK_ast {M : mS} {k i : Nat} {x : Int32} (h : mOKh M) (hk : k ∉ [15, 33, 34, 35, 37, 40, 41, 42]) : mOKh (mAst M k i x) := by
  simp only [List.mem_cons, List.not_mem_nil, or_false, not_or] at hk
  have ha : ∀ b, b ≠ k → (mAst M k i x).2 b = M.2 b := fun b hb => by funext j; simp [mAst_2, hb]
  refine ⟨h.1, fun w hw => mOKw_same (h.2.1 w hw) ?_ ?_ ?_ ?_ ?_ ?_ ?_, fun s hs => ?_⟩
  all_goals rw [ha _ (by omega)]
  exact h.2.2 s hs
theorem mMov_1 (M : mS) (w : Nat) : (mMov M w).1 = M.1 := by
  unfold mMov
  split
  · rfl
  · split
    · rw [mCome_1]; rfl
    · rfl
theorem mOK_mov {M : mS} {k : Nat} (h : mOKh M) (hk : k < nBt M) (hs : vp_in (M.2 34 k) 7) : mOKh (mMov M k) := by
  unfold mMov
  split
  · exact mOK_wts h
  · split
    · exact mOK_come (mOK_ast h (by decide)) hk hs
    · exact mOK_ast h (by decide)
def mSt1 (M : mS) (u : Int32) (k : Nat) : mS :=
  if M.2 34 k = -1 ∧ ¬ M.2 37 k = -1 ∧ mUp M (nI k) = u then (if 0 < mBar M (nI k) (nBt M) then mWts M (nI k) (mBar M (nI k) (nBt M)) else mEnt M k) else M
def mSts (M : mS) (u : Int32) : Nat → mS
  | 0 => M
  | k + 1 => mSt1 (mSts M u k) u k
theorem mSt1_1 (M : mS) (u : Int32) (k : Nat) : (mSt1 M u k).1 = M.1 := by
  unfold mSt1
  split
  · split
    · rfl
    · exact mEnt_1 M k
  · rfl
theorem mSts_1 (M : mS) (u : Int32) : ∀ k, (mSts M u k).1 = M.1
  | 0 => rfl
  | k + 1 => (mSt1_1 _ u k).trans (mSts_1 M u k)
theorem mOK_st1 {M : mS} {u : Int32} {k : Nat} (h : mOKh M) (hk : k < nBt M) : mOKh (mSt1 M u k) := by
  unfold mSt1
  split
  · rename_i c
    split
    · exact mOK_wts h
    · exact mOK_ent h hk (mNext_in (by have := h.1.2; omega) (h.2.1 k hk) c.1 c.2.1)
  · exact h
theorem mOK_sts {M : mS} {u : Int32} (h : mOKh M) : ∀ k, k ≤ nBt M → mOKh (mSts M u k)
  | 0, _ => h
  | k + 1, hk => mOK_st1 (mOK_sts h k (by omega)) (by unfold nBt; rw [mSts_1]; exact hk)

def tbX8_starts : List (Nat × xHint) := [(0, .iconst 0, 0, 0, 0, []), (1, .istore_n 2, 2, 0, 0, []), (2, .iload_n 2, 2, 0, 0, []), (3, .aload_n 0, 0, 0, 0, []), (4, .getfield 170, 9, 29, 0, []), (7, .if_icmp .ge 60, 67, 0, 0, []), (10, .aload_n 0, 0, 0, 0, []), (11, .iload_n 2, 2, 0, 0, []), (12, .invokevirtual 250, 0, 2, 9, []), (15, .ifCond .eq 46, 61, 0, 0, []), (18, .aload_n 0, 0, 0, 0, []), (19, .getfield 101, 9, 37, 2, []), (22, .iload_n 2, 2, 0, 0, []), (23, .iaload, 37, 0, 0, []), (24, .iconst (-1), 0, 0, 0, []), (25, .if_icmp .eq 36, 61, 0, 0, []), (28, .aload_n 0, 0, 0, 0, []), (29, .iload_n 2, 2, 0, 0, []), (30, .invokevirtual 291, 1, 2, 9, []), (33, .iload_n 1, 1, 0, 0, []), (34, .if_icmp .ne 27, 61, 0, 0, []), (37, .aload_n 0, 0, 0, 0, []), (38, .iload_n 2, 2, 0, 0, []), (39, .invokevirtual 322, 2, 2, 9, []), (42, .istore_n 3, 3, 0, 0, []), (43, .iload_n 3, 3, 0, 0, []), (44, .ifCond .le 12, 56, 0, 0, []), (47, .aload_n 0, 0, 0, 0, []), (48, .iload_n 2, 2, 0, 0, []), (49, .iload_n 3, 3, 0, 0, []), (50, .invokevirtual 316, 3, 3, 9, []), (53, .goto 8, 61, 0, 0, []), (56, .aload_n 0, 0, 0, 0, []), (57, .iload_n 2, 2, 0, 0, []), (58, .invokevirtual 325, 4, 2, 9, []), (61, .iinc 2 1, 2, 0, 0, []), (64, .goto (-62), 2, 0, 0, []), (67, .return_, 0, 0, 0, [])]
def clX8_starts : List (Instr × Nat × Nat × Nat) := [(.invokevirtual 250, 0, 2, 9), (.invokevirtual 291, 1, 2, 9), (.invokevirtual 322, 2, 2, 9), (.invokevirtual 316, 3, 3, 9), (.invokevirtual 325, 4, 2, 9)]
def thX8_starts : List (Nat × Nat) := []
theorem ckX8_starts : tbX8_starts.all (xRow RX8 cX8_starts wsX8_starts vwCl [9] clX8_starts thX8_starts 4 (yX8_starts.name == "<init>") none) = true := xRow_q 0xb1c2ffa70102844501b61c2a0800a73c01b61d1c2a0c009e1d3e4201b61c2a1b00a01b2301b61c2a24009f022e1c6500b42a2e0099fa00b61c2a3c00a2aa00b42a1c3d03 68 (by decide +kernel) (by decide +kernel)
theorem usX8_starts : xUse wsX8_starts vwCl [9] = true := xUse_g rfl (lw_good lwl_X8_starts lwl_X80 (by decide +kernel)) xUse_n
theorem tbX8_starts_0 {k : Instr → Nat → Nat → Nat → List Nat → Prop} : xse (xFind tbX8_starts 0) k = k (.iconst 0) 0 0 0 [] := rfl
theorem tbX8_starts_1 {k : Instr → Nat → Nat → Nat → List Nat → Prop} : xse (xFind tbX8_starts 1) k = k (.istore_n 2) 2 0 0 [] := rfl
theorem tbX8_starts_2 {k : Instr → Nat → Nat → Nat → List Nat → Prop} : xse (xFind tbX8_starts 2) k = k (.iload_n 2) 2 0 0 [] := rfl
theorem tbX8_starts_3 {k : Instr → Nat → Nat → Nat → List Nat → Prop} : xse (xFind tbX8_starts 3) k = k (.aload_n 0) 0 0 0 [] := rfl
theorem tbX8_starts_4 {k : Instr → Nat → Nat → Nat → List Nat → Prop} : xse (xFind tbX8_starts 4) k = k (.getfield 170) 9 29 0 [] := rfl
theorem tbX8_starts_7 {k : Instr → Nat → Nat → Nat → List Nat → Prop} : xse (xFind tbX8_starts 7) k = k (.if_icmp .ge 60) 67 0 0 [] := rfl
theorem tbX8_starts_10 {k : Instr → Nat → Nat → Nat → List Nat → Prop} : xse (xFind tbX8_starts 10) k = k (.aload_n 0) 0 0 0 [] := rfl
theorem tbX8_starts_11 {k : Instr → Nat → Nat → Nat → List Nat → Prop} : xse (xFind tbX8_starts 11) k = k (.iload_n 2) 2 0 0 [] := rfl
theorem tbX8_starts_12 {k : Instr → Nat → Nat → Nat → List Nat → Prop} : xse (xFind tbX8_starts 12) k = k (.invokevirtual 250) 0 2 9 [] := rfl
theorem tbX8_starts_15 {k : Instr → Nat → Nat → Nat → List Nat → Prop} : xse (xFind tbX8_starts 15) k = k (.ifCond .eq 46) 61 0 0 [] := rfl
theorem tbX8_starts_18 {k : Instr → Nat → Nat → Nat → List Nat → Prop} : xse (xFind tbX8_starts 18) k = k (.aload_n 0) 0 0 0 [] := rfl
theorem tbX8_starts_19 {k : Instr → Nat → Nat → Nat → List Nat → Prop} : xse (xFind tbX8_starts 19) k = k (.getfield 101) 9 37 2 [] := rfl
theorem tbX8_starts_22 {k : Instr → Nat → Nat → Nat → List Nat → Prop} : xse (xFind tbX8_starts 22) k = k (.iload_n 2) 2 0 0 [] := rfl
theorem tbX8_starts_23 {k : Instr → Nat → Nat → Nat → List Nat → Prop} : xse (xFind tbX8_starts 23) k = k (.iaload) 37 0 0 [] := rfl
theorem tbX8_starts_24 {k : Instr → Nat → Nat → Nat → List Nat → Prop} : xse (xFind tbX8_starts 24) k = k (.iconst (-1)) 0 0 0 [] := rfl
theorem tbX8_starts_25 {k : Instr → Nat → Nat → Nat → List Nat → Prop} : xse (xFind tbX8_starts 25) k = k (.if_icmp .eq 36) 61 0 0 [] := rfl
theorem tbX8_starts_28 {k : Instr → Nat → Nat → Nat → List Nat → Prop} : xse (xFind tbX8_starts 28) k = k (.aload_n 0) 0 0 0 [] := rfl
theorem tbX8_starts_29 {k : Instr → Nat → Nat → Nat → List Nat → Prop} : xse (xFind tbX8_starts 29) k = k (.iload_n 2) 2 0 0 [] := rfl
theorem tbX8_starts_30 {k : Instr → Nat → Nat → Nat → List Nat → Prop} : xse (xFind tbX8_starts 30) k = k (.invokevirtual 291) 1 2 9 [] := rfl
theorem tbX8_starts_33 {k : Instr → Nat → Nat → Nat → List Nat → Prop} : xse (xFind tbX8_starts 33) k = k (.iload_n 1) 1 0 0 [] := rfl
theorem tbX8_starts_34 {k : Instr → Nat → Nat → Nat → List Nat → Prop} : xse (xFind tbX8_starts 34) k = k (.if_icmp .ne 27) 61 0 0 [] := rfl
theorem tbX8_starts_37 {k : Instr → Nat → Nat → Nat → List Nat → Prop} : xse (xFind tbX8_starts 37) k = k (.aload_n 0) 0 0 0 [] := rfl
theorem tbX8_starts_38 {k : Instr → Nat → Nat → Nat → List Nat → Prop} : xse (xFind tbX8_starts 38) k = k (.iload_n 2) 2 0 0 [] := rfl
theorem tbX8_starts_39 {k : Instr → Nat → Nat → Nat → List Nat → Prop} : xse (xFind tbX8_starts 39) k = k (.invokevirtual 322) 2 2 9 [] := rfl
theorem tbX8_starts_42 {k : Instr → Nat → Nat → Nat → List Nat → Prop} : xse (xFind tbX8_starts 42) k = k (.istore_n 3) 3 0 0 [] := rfl
theorem tbX8_starts_43 {k : Instr → Nat → Nat → Nat → List Nat → Prop} : xse (xFind tbX8_starts 43) k = k (.iload_n 3) 3 0 0 [] := rfl
theorem tbX8_starts_44 {k : Instr → Nat → Nat → Nat → List Nat → Prop} : xse (xFind tbX8_starts 44) k = k (.ifCond .le 12) 56 0 0 [] := rfl
theorem tbX8_starts_47 {k : Instr → Nat → Nat → Nat → List Nat → Prop} : xse (xFind tbX8_starts 47) k = k (.aload_n 0) 0 0 0 [] := rfl
theorem tbX8_starts_48 {k : Instr → Nat → Nat → Nat → List Nat → Prop} : xse (xFind tbX8_starts 48) k = k (.iload_n 2) 2 0 0 [] := rfl
theorem tbX8_starts_49 {k : Instr → Nat → Nat → Nat → List Nat → Prop} : xse (xFind tbX8_starts 49) k = k (.iload_n 3) 3 0 0 [] := rfl
theorem tbX8_starts_50 {k : Instr → Nat → Nat → Nat → List Nat → Prop} : xse (xFind tbX8_starts 50) k = k (.invokevirtual 316) 3 3 9 [] := rfl
theorem tbX8_starts_53 {k : Instr → Nat → Nat → Nat → List Nat → Prop} : xse (xFind tbX8_starts 53) k = k (.goto 8) 61 0 0 [] := rfl
theorem tbX8_starts_56 {k : Instr → Nat → Nat → Nat → List Nat → Prop} : xse (xFind tbX8_starts 56) k = k (.aload_n 0) 0 0 0 [] := rfl
theorem tbX8_starts_57 {k : Instr → Nat → Nat → Nat → List Nat → Prop} : xse (xFind tbX8_starts 57) k = k (.iload_n 2) 2 0 0 [] := rfl
theorem tbX8_starts_58 {k : Instr → Nat → Nat → Nat → List Nat → Prop} : xse (xFind tbX8_starts 58) k = k (.invokevirtual 325) 4 2 9 [] := rfl
theorem tbX8_starts_61 {k : Instr → Nat → Nat → Nat → List Nat → Prop} : xse (xFind tbX8_starts 61) k = k (.iinc 2 1) 2 0 0 [] := rfl
theorem tbX8_starts_64 {k : Instr → Nat → Nat → Nat → List Nat → Prop} : xse (xFind tbX8_starts 64) k = k (.goto (-62)) 2 0 0 [] := rfl
theorem tbX8_starts_67 {k : Instr → Nat → Nat → Nat → List Nat → Prop} : xse (xFind tbX8_starts 67) k = k (.return_) 0 0 0 [] := rfl

def spX8_starts (aM : Nat → Nat) : xSp mS := (fun av M => (0, 0), fun av M K => ∃ (u : Int32), av = [.ref (aM 0), .int u] ∧ ((u = 0 ∨ u = 1) ∧ (mOKh M ∧ K rV (mSts M u (nBt M)))))
theorem spcX8_starts {av : List Value} {M : mS} {aM : Nat → Nat} : (spX8_starts aM).1 av M = (0, 0) := rfl
theorem spwX8_starts {M : mS} {aM : Nat → Nat} {K : xRes → mS → Prop} {u : Int32} : (spX8_starts aM).2 [.ref (aM 0), .int u] M K = ((u = 0 ∨ u = 1) ∧ (mOKh M ∧ K rV (mSts M u (nBt M)))) :=
  propext ⟨fun h => by
    simp only [spX8_starts] at h
    obtain ⟨_, e, h⟩ := h
    simp only [List.cons.injEq, Value.int.injEq, Value.ref.injEq, rf_eq, and_true, true_and] at e
    obtain rfl := e
    exact h, fun h => ⟨_, rfl, h⟩⟩

def callX8_starts (aM : Nat → Nat) : Nat → Option (xSp mS) := fun n => match n with | 0 => some (spX8_stands aM) | 1 => some (spX8_isUp aM) | 2 => some (spX8_barsNow aM) | 3 => some (spX8_waits aM) | 4 => some (spX8_enters aM) | _ => none

theorem callX8_starts_0 {aM : Nat → Nat} {k : xSp mS → Prop} : xcs (callX8_starts aM 0) k = k (spX8_stands aM) := rfl

theorem callX8_starts_1 {aM : Nat → Nat} {k : xSp mS → Prop} : xcs (callX8_starts aM 1) k = k (spX8_isUp aM) := rfl

theorem callX8_starts_2 {aM : Nat → Nat} {k : xSp mS → Prop} : xcs (callX8_starts aM 2) k = k (spX8_barsNow aM) := rfl

theorem callX8_starts_3 {aM : Nat → Nat} {k : xSp mS → Prop} : xcs (callX8_starts aM 3) k = k (spX8_waits aM) := rfl

theorem callX8_starts_4 {aM : Nat → Nat} {k : xSp mS → Prop} : xcs (callX8_starts aM 4) k = k (spX8_enters aM) := rfl

theorem crX8_starts (l : Launch) (W9 : xWd) (aM : Nat → Nat) (hi : mInj aM) : xCallsOK l W9 (mI aM) (callX8_starts aM) clX8_starts RX8 wsX8_starts 6 143 4 := by
  intro E A p e R s m args below meth c hI hF hL X
  exact List.forall_mem_cons.mpr ⟨⟨_, rfl, xCR_V X (by rw [hI]; exact (semX8_stands l W9 aM hi)) gX8_starts_X8_stands rfl rfl (by decide +kernel) (by rw [hF, hL]; decide)⟩,
    List.forall_mem_cons.mpr ⟨⟨_, rfl, xCR_V X (by rw [hI]; exact (semX8_isUp l W9 aM hi)) gX8_starts_X8_isUp rfl rfl (by decide +kernel) (by rw [hF, hL]; decide)⟩,
    List.forall_mem_cons.mpr ⟨⟨_, rfl, xCR_V X (by rw [hI]; exact (semX8_barsNow l W9 aM hi)) gX8_starts_X8_barsNow rfl rfl (by decide +kernel) (by rw [hF, hL]; decide)⟩,
    List.forall_mem_cons.mpr ⟨⟨_, rfl, xCR_V X (by rw [hI]; exact (semX8_waits l W9 aM hi)) gX8_starts_X8_waits rfl rfl (by decide +kernel) (by rw [hF, hL]; decide)⟩,
    List.forall_mem_cons.mpr ⟨⟨_, rfl, xCR_V X (by rw [hI]; exact (semX8_enters l W9 aM hi)) gX8_starts_X8_enters rfl rfl (by decide +kernel) (by rw [hF, hL]; decide)⟩,
    fun _ h => nomatch h⟩⟩⟩⟩⟩

set_option maxHeartbeats 4000000 in
set_option maxRecDepth 20000 in
theorem semX8_starts (l : Launch) (W9 : xWd) (aM : Nat → Nat) (hi : mInj aM) : xSem l W9 (mI aM) yX8_starts wsX8_starts 6 143 (spX8_starts aM) := by
  refine xSem_of (call := callX8_starts aM) (thrf := fun _ => "") (mI_law hi) (by decide +kernel) rfl ckX8_starts usX8_starts (crX8_starts l W9 aM hi) xThrOK_nil ?_ ?_
  · intro av M KF h
    obtain ⟨u, rfl, h⟩ := h
    exact ⟨by intro v hv; simp only [List.mem_cons, List.not_mem_nil, or_false] at hv; rcases hv with rfl | rfl <;> first | rfl | exact cat_rf, Nat.le_of_ble_eq_true rfl⟩
  intro av M KF h G hG
  obtain ⟨u, rfl, h⟩ := h
  rw [show (spX8_starts aM).1 _ M = _ from spcX8_starts] at hG
  try dsimp only at hG
  change G 0 [some (.ref (aM 0)), some (.int u), none, none] [] M 0 0
  obtain ⟨hu, hO, h⟩ := h

  have hn := hO.1.1
  have hn6 := hO.1.2
  generalize hnn : nBt M = n at *
  have loop := xloop hG 2 [true, true, true, false] (fun j lv st S cs ss => lv = [some (.ref (aM 0)), some (.int u), some (.int (nI j)), none] ∧ st = [] ∧ mSts M u j = S ∧ cs = 0 ∧ ss = 0) n (by
      rintro j hj lv st S cs ss ⟨rfl, rfl, rfl, rfl, rfl⟩ fu hfu
      have hOj := mOK_sts (u := u) hO j (by omega)
      have hn' : (mSts M u j).1 29 = nI n := by rw [mSts_1]; exact hn
      have hb' : nBt (mSts M u j) = n := by unfold nBt; rw [mSts_1]; exact hnn
      have hB := mOK_mBs hOj
      have hw := hOj.2.1 j (by rw [hb']; exact hj)
      have hT := hw.1
      have h1 := xin_nI (show j < 6 by omega) (show 6 ≤ 1000 by omega)
      have hstep : mSts M u (j + 1) = mSt1 (mSts M u j) u j := rfl
      have hu2 : bi ((mSts M u j).2 33 j < (mSts M u j).2 37 j) = mUp (mSts M u j) (nI j) := by unfold mUp; rw [ix_nI (show j < 1000 by omega)]
      have hbar := mBar_in (mSts M u j) (nI j) (nBt (mSts M u j))
      rw [hb'] at hB hbar
      by_cases c : (mSts M u j).2 34 j = -1 ∧ ¬ (mSts M u j).2 37 j = -1 ∧ mUp (mSts M u j) (nI j) = u
      · have hx := mNext_in (by omega) hw c.1 c.2.1
        obtain ⟨c1, c2, c3⟩ := c
        have h15 := hOj.2.2 _ (ix_lt hx)
        by_cases cb : 0 < mBar (mSts M u j) (nI j) n
        · have cb2 : ¬ mBar (mSts M u j) (nI j) n ≤ 0 := fun q => Int32.lt_irrefl (Int32.lt_of_lt_of_le cb q)
          unfold mSt1 at hstep
          rw [if_pos ⟨c1, c2, c3⟩, hb', if_pos cb] at hstep
          simp only [↓callX8_starts_0, ↓callX8_starts_1, ↓callX8_starts_2, ↓callX8_starts_3, ↓callX8_starts_4, ki_0, ki_1, ki_m1, ↓ma_37, ↓mg_29, ↓mg_37, misa, ↓vm_aload_n, ↓vm_getfield, ↓vm_goto, ↓vm_iaload, ↓vm_iconst, ↓vm_ifCond_eq, ↓vm_ifCond_le, ↓vm_if_icmp_eq, ↓vm_if_icmp_ge, ↓vm_if_icmp_ne, ↓vm_iinc, ↓vm_iload_n, ↓vm_invokevirtual, ↓vm_istore_n, ↓vm_return_, ↓xc_2, ↓xc_3, ↓tbX8_starts_0, ↓tbX8_starts_1, ↓tbX8_starts_2, ↓tbX8_starts_3, ↓tbX8_starts_4, ↓tbX8_starts_7, ↓tbX8_starts_10, ↓tbX8_starts_11, ↓tbX8_starts_12, ↓tbX8_starts_15, ↓tbX8_starts_18, ↓tbX8_starts_19, ↓tbX8_starts_22, ↓tbX8_starts_23, ↓tbX8_starts_24, ↓tbX8_starts_25, ↓tbX8_starts_28, ↓tbX8_starts_29, ↓tbX8_starts_30, ↓tbX8_starts_33, ↓tbX8_starts_34, ↓tbX8_starts_37, ↓tbX8_starts_38, ↓tbX8_starts_39, ↓tbX8_starts_42, ↓tbX8_starts_43, ↓tbX8_starts_44, ↓tbX8_starts_47, ↓tbX8_starts_48, ↓tbX8_starts_49, ↓tbX8_starts_50, ↓tbX8_starts_53, ↓tbX8_starts_56, ↓tbX8_starts_57, ↓tbX8_starts_58, ↓tbX8_starts_61, ↓tbX8_starts_64, ↓tbX8_starts_67, hfu, xstep0, xJ1_hit, xJ1_go, xJ2_hit1, xJ2_hit2, xJ2_go, ↓xif_t, ↓xif_f, seval, ↓xca_eq, ↓xre_l, ↓xre_r, xmask_t, xmask_f, xmask_nil, ↓xst_eq, xX_eq, eI_eq, eMc_eq, eMs_eq, eF_eq, eThr_eq, ↓xS1_mk, ↓xSI_mk, ↓xSR_mk, ↓xLI_0, ↓xLI_s, ↓xLR_0, ↓xLR_s, vRef_ref, vRef_null, vRef_rf, cat_int, cat_ref, cat_null, cat_rf, rf_some, rf_none, rf_null, rf_eq, rf_ref, ref_rf, ref_null, ref_ref, xOk_0, xOk_1, xOk_2r, xOk_2n, xOk_2f, vOpt_rf, vOpt_ref, vOpt_null, List.set_cons_zero, List.set_cons_succ, List.take_succ_cons, List.take_zero, List.drop_succ_cons, List.drop_zero, List.reverse_cons, List.reverse_nil, List.nil_append, List.cons_append, List.append_nil, List.length_cons, List.length_nil, List.map_cons, List.map_nil, List.sum_cons, List.sum_nil, Option.toList_some, Option.toList_none, xRecv_mk, true_and, and_true, true_implies, Nat.reduceAdd, Nat.reduceLeDiff, Nat.zero_le, Nat.le_refl, Nat.add_zero, Nat.zero_add, reduceIte, not_true_eq_false, not_false_eq_true, false_implies, and_self, implies_true, eq_self, Nat.reduceEqDiff, List.cons.injEq, xsn_1, xsn_2, false_and, and_false, or_false, false_or, or_true, true_or, xsn_3, xsn_4, mAst_1, mAst_2, mSet_1, mSet_2, bi_0, ↓spwX8_stands, spcX8_stands, ↓spwX8_isUp, spcX8_isUp, ↓spwX8_barsNow, spcX8_barsNow, ↓spwX8_waits, spcX8_waits, ↓spwX8_enters, spcX8_enters, hn', ge_nI hj (show n < 1000 by omega), h1, ix_nI (show j < 1000 by omega), c1, c2, hu2, c3, hb', hB, hT, hx, h15, cb2, hbar, nI1, hstep]
          try simp only [xif_e]
        · have cb2 : mBar (mSts M u j) (nI j) n ≤ 0 := Int32.not_lt.mp cb
          unfold mSt1 at hstep
          rw [if_pos ⟨c1, c2, c3⟩, hb', if_neg cb] at hstep
          simp only [↓callX8_starts_0, ↓callX8_starts_1, ↓callX8_starts_2, ↓callX8_starts_3, ↓callX8_starts_4, ki_0, ki_1, ki_m1, ↓ma_37, ↓mg_29, ↓mg_37, misa, ↓vm_aload_n, ↓vm_getfield, ↓vm_goto, ↓vm_iaload, ↓vm_iconst, ↓vm_ifCond_eq, ↓vm_ifCond_le, ↓vm_if_icmp_eq, ↓vm_if_icmp_ge, ↓vm_if_icmp_ne, ↓vm_iinc, ↓vm_iload_n, ↓vm_invokevirtual, ↓vm_istore_n, ↓vm_return_, ↓xc_2, ↓xc_3, ↓tbX8_starts_0, ↓tbX8_starts_1, ↓tbX8_starts_2, ↓tbX8_starts_3, ↓tbX8_starts_4, ↓tbX8_starts_7, ↓tbX8_starts_10, ↓tbX8_starts_11, ↓tbX8_starts_12, ↓tbX8_starts_15, ↓tbX8_starts_18, ↓tbX8_starts_19, ↓tbX8_starts_22, ↓tbX8_starts_23, ↓tbX8_starts_24, ↓tbX8_starts_25, ↓tbX8_starts_28, ↓tbX8_starts_29, ↓tbX8_starts_30, ↓tbX8_starts_33, ↓tbX8_starts_34, ↓tbX8_starts_37, ↓tbX8_starts_38, ↓tbX8_starts_39, ↓tbX8_starts_42, ↓tbX8_starts_43, ↓tbX8_starts_44, ↓tbX8_starts_47, ↓tbX8_starts_48, ↓tbX8_starts_49, ↓tbX8_starts_50, ↓tbX8_starts_53, ↓tbX8_starts_56, ↓tbX8_starts_57, ↓tbX8_starts_58, ↓tbX8_starts_61, ↓tbX8_starts_64, ↓tbX8_starts_67, hfu, xstep0, xJ1_hit, xJ1_go, xJ2_hit1, xJ2_hit2, xJ2_go, ↓xif_t, ↓xif_f, seval, ↓xca_eq, ↓xre_l, ↓xre_r, xmask_t, xmask_f, xmask_nil, ↓xst_eq, xX_eq, eI_eq, eMc_eq, eMs_eq, eF_eq, eThr_eq, ↓xS1_mk, ↓xSI_mk, ↓xSR_mk, ↓xLI_0, ↓xLI_s, ↓xLR_0, ↓xLR_s, vRef_ref, vRef_null, vRef_rf, cat_int, cat_ref, cat_null, cat_rf, rf_some, rf_none, rf_null, rf_eq, rf_ref, ref_rf, ref_null, ref_ref, xOk_0, xOk_1, xOk_2r, xOk_2n, xOk_2f, vOpt_rf, vOpt_ref, vOpt_null, List.set_cons_zero, List.set_cons_succ, List.take_succ_cons, List.take_zero, List.drop_succ_cons, List.drop_zero, List.reverse_cons, List.reverse_nil, List.nil_append, List.cons_append, List.append_nil, List.length_cons, List.length_nil, List.map_cons, List.map_nil, List.sum_cons, List.sum_nil, Option.toList_some, Option.toList_none, xRecv_mk, true_and, and_true, true_implies, Nat.reduceAdd, Nat.reduceLeDiff, Nat.zero_le, Nat.le_refl, Nat.add_zero, Nat.zero_add, reduceIte, not_true_eq_false, not_false_eq_true, false_implies, and_self, implies_true, eq_self, Nat.reduceEqDiff, List.cons.injEq, xsn_1, xsn_2, false_and, and_false, or_false, false_or, or_true, true_or, xsn_3, xsn_4, mAst_1, mAst_2, mSet_1, mSet_2, bi_0, ↓spwX8_stands, spcX8_stands, ↓spwX8_isUp, spcX8_isUp, ↓spwX8_barsNow, spcX8_barsNow, ↓spwX8_waits, spcX8_waits, ↓spwX8_enters, spcX8_enters, hn', ge_nI hj (show n < 1000 by omega), h1, ix_nI (show j < 1000 by omega), c1, c2, hu2, c3, hb', hB, hT, hx, h15, cb2, hbar, nI1, hstep]
          try simp only [xif_e]
      · unfold mSt1 at hstep
        rw [if_neg c] at hstep
        by_cases c1 : (mSts M u j).2 34 j = -1
        · by_cases c2 : (mSts M u j).2 37 j = -1
          · simp only [↓callX8_starts_0, ↓callX8_starts_1, ↓callX8_starts_2, ↓callX8_starts_3, ↓callX8_starts_4, ki_0, ki_1, ki_m1, ↓ma_37, ↓mg_29, ↓mg_37, misa, ↓vm_aload_n, ↓vm_getfield, ↓vm_goto, ↓vm_iaload, ↓vm_iconst, ↓vm_ifCond_eq, ↓vm_ifCond_le, ↓vm_if_icmp_eq, ↓vm_if_icmp_ge, ↓vm_if_icmp_ne, ↓vm_iinc, ↓vm_iload_n, ↓vm_invokevirtual, ↓vm_istore_n, ↓vm_return_, ↓xc_2, ↓xc_3, ↓tbX8_starts_0, ↓tbX8_starts_1, ↓tbX8_starts_2, ↓tbX8_starts_3, ↓tbX8_starts_4, ↓tbX8_starts_7, ↓tbX8_starts_10, ↓tbX8_starts_11, ↓tbX8_starts_12, ↓tbX8_starts_15, ↓tbX8_starts_18, ↓tbX8_starts_19, ↓tbX8_starts_22, ↓tbX8_starts_23, ↓tbX8_starts_24, ↓tbX8_starts_25, ↓tbX8_starts_28, ↓tbX8_starts_29, ↓tbX8_starts_30, ↓tbX8_starts_33, ↓tbX8_starts_34, ↓tbX8_starts_37, ↓tbX8_starts_38, ↓tbX8_starts_39, ↓tbX8_starts_42, ↓tbX8_starts_43, ↓tbX8_starts_44, ↓tbX8_starts_47, ↓tbX8_starts_48, ↓tbX8_starts_49, ↓tbX8_starts_50, ↓tbX8_starts_53, ↓tbX8_starts_56, ↓tbX8_starts_57, ↓tbX8_starts_58, ↓tbX8_starts_61, ↓tbX8_starts_64, ↓tbX8_starts_67, hfu, xstep0, xJ1_hit, xJ1_go, xJ2_hit1, xJ2_hit2, xJ2_go, ↓xif_t, ↓xif_f, seval, ↓xca_eq, ↓xre_l, ↓xre_r, xmask_t, xmask_f, xmask_nil, ↓xst_eq, xX_eq, eI_eq, eMc_eq, eMs_eq, eF_eq, eThr_eq, ↓xS1_mk, ↓xSI_mk, ↓xSR_mk, ↓xLI_0, ↓xLI_s, ↓xLR_0, ↓xLR_s, vRef_ref, vRef_null, vRef_rf, cat_int, cat_ref, cat_null, cat_rf, rf_some, rf_none, rf_null, rf_eq, rf_ref, ref_rf, ref_null, ref_ref, xOk_0, xOk_1, xOk_2r, xOk_2n, xOk_2f, vOpt_rf, vOpt_ref, vOpt_null, List.set_cons_zero, List.set_cons_succ, List.take_succ_cons, List.take_zero, List.drop_succ_cons, List.drop_zero, List.reverse_cons, List.reverse_nil, List.nil_append, List.cons_append, List.append_nil, List.length_cons, List.length_nil, List.map_cons, List.map_nil, List.sum_cons, List.sum_nil, Option.toList_some, Option.toList_none, xRecv_mk, true_and, and_true, true_implies, Nat.reduceAdd, Nat.reduceLeDiff, Nat.zero_le, Nat.le_refl, Nat.add_zero, Nat.zero_add, reduceIte, not_true_eq_false, not_false_eq_true, false_implies, and_self, implies_true, eq_self, Nat.reduceEqDiff, List.cons.injEq, xsn_1, xsn_2, false_and, and_false, or_false, false_or, or_true, true_or, xsn_3, xsn_4, mAst_1, mAst_2, mSet_1, mSet_2, bi_0, ↓spwX8_stands, spcX8_stands, ↓spwX8_isUp, spcX8_isUp, ↓spwX8_barsNow, spcX8_barsNow, ↓spwX8_waits, spcX8_waits, ↓spwX8_enters, spcX8_enters, hn', ge_nI hj (show n < 1000 by omega), h1, ix_nI (show j < 1000 by omega), c1, c2, nI1, hstep]
            try simp only [xif_e]
          · have c3 : ¬ mUp (mSts M u j) (nI j) = u := fun q => c ⟨c1, c2, q⟩
            simp only [↓callX8_starts_0, ↓callX8_starts_1, ↓callX8_starts_2, ↓callX8_starts_3, ↓callX8_starts_4, ki_0, ki_1, ki_m1, ↓ma_37, ↓mg_29, ↓mg_37, misa, ↓vm_aload_n, ↓vm_getfield, ↓vm_goto, ↓vm_iaload, ↓vm_iconst, ↓vm_ifCond_eq, ↓vm_ifCond_le, ↓vm_if_icmp_eq, ↓vm_if_icmp_ge, ↓vm_if_icmp_ne, ↓vm_iinc, ↓vm_iload_n, ↓vm_invokevirtual, ↓vm_istore_n, ↓vm_return_, ↓xc_2, ↓xc_3, ↓tbX8_starts_0, ↓tbX8_starts_1, ↓tbX8_starts_2, ↓tbX8_starts_3, ↓tbX8_starts_4, ↓tbX8_starts_7, ↓tbX8_starts_10, ↓tbX8_starts_11, ↓tbX8_starts_12, ↓tbX8_starts_15, ↓tbX8_starts_18, ↓tbX8_starts_19, ↓tbX8_starts_22, ↓tbX8_starts_23, ↓tbX8_starts_24, ↓tbX8_starts_25, ↓tbX8_starts_28, ↓tbX8_starts_29, ↓tbX8_starts_30, ↓tbX8_starts_33, ↓tbX8_starts_34, ↓tbX8_starts_37, ↓tbX8_starts_38, ↓tbX8_starts_39, ↓tbX8_starts_42, ↓tbX8_starts_43, ↓tbX8_starts_44, ↓tbX8_starts_47, ↓tbX8_starts_48, ↓tbX8_starts_49, ↓tbX8_starts_50, ↓tbX8_starts_53, ↓tbX8_starts_56, ↓tbX8_starts_57, ↓tbX8_starts_58, ↓tbX8_starts_61, ↓tbX8_starts_64, ↓tbX8_starts_67, hfu, xstep0, xJ1_hit, xJ1_go, xJ2_hit1, xJ2_hit2, xJ2_go, ↓xif_t, ↓xif_f, seval, ↓xca_eq, ↓xre_l, ↓xre_r, xmask_t, xmask_f, xmask_nil, ↓xst_eq, xX_eq, eI_eq, eMc_eq, eMs_eq, eF_eq, eThr_eq, ↓xS1_mk, ↓xSI_mk, ↓xSR_mk, ↓xLI_0, ↓xLI_s, ↓xLR_0, ↓xLR_s, vRef_ref, vRef_null, vRef_rf, cat_int, cat_ref, cat_null, cat_rf, rf_some, rf_none, rf_null, rf_eq, rf_ref, ref_rf, ref_null, ref_ref, xOk_0, xOk_1, xOk_2r, xOk_2n, xOk_2f, vOpt_rf, vOpt_ref, vOpt_null, List.set_cons_zero, List.set_cons_succ, List.take_succ_cons, List.take_zero, List.drop_succ_cons, List.drop_zero, List.reverse_cons, List.reverse_nil, List.nil_append, List.cons_append, List.append_nil, List.length_cons, List.length_nil, List.map_cons, List.map_nil, List.sum_cons, List.sum_nil, Option.toList_some, Option.toList_none, xRecv_mk, true_and, and_true, true_implies, Nat.reduceAdd, Nat.reduceLeDiff, Nat.zero_le, Nat.le_refl, Nat.add_zero, Nat.zero_add, reduceIte, not_true_eq_false, not_false_eq_true, false_implies, and_self, implies_true, eq_self, Nat.reduceEqDiff, List.cons.injEq, xsn_1, xsn_2, false_and, and_false, or_false, false_or, or_true, true_or, xsn_3, xsn_4, mAst_1, mAst_2, mSet_1, mSet_2, bi_0, ↓spwX8_stands, spcX8_stands, ↓spwX8_isUp, spcX8_isUp, ↓spwX8_barsNow, spcX8_barsNow, ↓spwX8_waits, spcX8_waits, ↓spwX8_enters, spcX8_enters, hn', ge_nI hj (show n < 1000 by omega), h1, ix_nI (show j < 1000 by omega), c1, c2, hu2, c3, nI1, hstep]
            try simp only [xif_e]
        · simp only [↓callX8_starts_0, ↓callX8_starts_1, ↓callX8_starts_2, ↓callX8_starts_3, ↓callX8_starts_4, ki_0, ki_1, ki_m1, ↓ma_37, ↓mg_29, ↓mg_37, misa, ↓vm_aload_n, ↓vm_getfield, ↓vm_goto, ↓vm_iaload, ↓vm_iconst, ↓vm_ifCond_eq, ↓vm_ifCond_le, ↓vm_if_icmp_eq, ↓vm_if_icmp_ge, ↓vm_if_icmp_ne, ↓vm_iinc, ↓vm_iload_n, ↓vm_invokevirtual, ↓vm_istore_n, ↓vm_return_, ↓xc_2, ↓xc_3, ↓tbX8_starts_0, ↓tbX8_starts_1, ↓tbX8_starts_2, ↓tbX8_starts_3, ↓tbX8_starts_4, ↓tbX8_starts_7, ↓tbX8_starts_10, ↓tbX8_starts_11, ↓tbX8_starts_12, ↓tbX8_starts_15, ↓tbX8_starts_18, ↓tbX8_starts_19, ↓tbX8_starts_22, ↓tbX8_starts_23, ↓tbX8_starts_24, ↓tbX8_starts_25, ↓tbX8_starts_28, ↓tbX8_starts_29, ↓tbX8_starts_30, ↓tbX8_starts_33, ↓tbX8_starts_34, ↓tbX8_starts_37, ↓tbX8_starts_38, ↓tbX8_starts_39, ↓tbX8_starts_42, ↓tbX8_starts_43, ↓tbX8_starts_44, ↓tbX8_starts_47, ↓tbX8_starts_48, ↓tbX8_starts_49, ↓tbX8_starts_50, ↓tbX8_starts_53, ↓tbX8_starts_56, ↓tbX8_starts_57, ↓tbX8_starts_58, ↓tbX8_starts_61, ↓tbX8_starts_64, ↓tbX8_starts_67, hfu, xstep0, xJ1_hit, xJ1_go, xJ2_hit1, xJ2_hit2, xJ2_go, ↓xif_t, ↓xif_f, seval, ↓xca_eq, ↓xre_l, ↓xre_r, xmask_t, xmask_f, xmask_nil, ↓xst_eq, xX_eq, eI_eq, eMc_eq, eMs_eq, eF_eq, eThr_eq, ↓xS1_mk, ↓xSI_mk, ↓xSR_mk, ↓xLI_0, ↓xLI_s, ↓xLR_0, ↓xLR_s, vRef_ref, vRef_null, vRef_rf, cat_int, cat_ref, cat_null, cat_rf, rf_some, rf_none, rf_null, rf_eq, rf_ref, ref_rf, ref_null, ref_ref, xOk_0, xOk_1, xOk_2r, xOk_2n, xOk_2f, vOpt_rf, vOpt_ref, vOpt_null, List.set_cons_zero, List.set_cons_succ, List.take_succ_cons, List.take_zero, List.drop_succ_cons, List.drop_zero, List.reverse_cons, List.reverse_nil, List.nil_append, List.cons_append, List.append_nil, List.length_cons, List.length_nil, List.map_cons, List.map_nil, List.sum_cons, List.sum_nil, Option.toList_some, Option.toList_none, xRecv_mk, true_and, and_true, true_implies, Nat.reduceAdd, Nat.reduceLeDiff, Nat.zero_le, Nat.le_refl, Nat.add_zero, Nat.zero_add, reduceIte, not_true_eq_false, not_false_eq_true, false_implies, and_self, implies_true, eq_self, Nat.reduceEqDiff, List.cons.injEq, xsn_1, xsn_2, false_and, and_false, or_false, false_or, or_true, true_or, xsn_3, xsn_4, mAst_1, mAst_2, mSet_1, mSet_2, bi_0, ↓spwX8_stands, spcX8_stands, ↓spwX8_isUp, spcX8_isUp, ↓spwX8_barsNow, spcX8_barsNow, ↓spwX8_waits, spcX8_waits, ↓spwX8_enters, spcX8_enters, hn', ge_nI hj (show n < 1000 by omega), h1, ix_nI (show j < 1000 by omega), c1, nI1, hstep]) (by
      rintro lv st S cs ss ⟨rfl, rfl, rfl, rfl, rfl⟩ fu hfu
      have hn' : (mSts M u n).1 29 = nI n := by rw [mSts_1]; exact hn
      simp only [↓callX8_starts_0, ↓callX8_starts_1, ↓callX8_starts_2, ↓callX8_starts_3, ↓callX8_starts_4, ki_0, ki_1, ki_m1, ↓ma_37, ↓mg_29, ↓mg_37, misa, ↓vm_aload_n, ↓vm_getfield, ↓vm_goto, ↓vm_iaload, ↓vm_iconst, ↓vm_ifCond_eq, ↓vm_ifCond_le, ↓vm_if_icmp_eq, ↓vm_if_icmp_ge, ↓vm_if_icmp_ne, ↓vm_iinc, ↓vm_iload_n, ↓vm_invokevirtual, ↓vm_istore_n, ↓vm_return_, ↓xc_2, ↓xc_3, ↓tbX8_starts_0, ↓tbX8_starts_1, ↓tbX8_starts_2, ↓tbX8_starts_3, ↓tbX8_starts_4, ↓tbX8_starts_7, ↓tbX8_starts_10, ↓tbX8_starts_11, ↓tbX8_starts_12, ↓tbX8_starts_15, ↓tbX8_starts_18, ↓tbX8_starts_19, ↓tbX8_starts_22, ↓tbX8_starts_23, ↓tbX8_starts_24, ↓tbX8_starts_25, ↓tbX8_starts_28, ↓tbX8_starts_29, ↓tbX8_starts_30, ↓tbX8_starts_33, ↓tbX8_starts_34, ↓tbX8_starts_37, ↓tbX8_starts_38, ↓tbX8_starts_39, ↓tbX8_starts_42, ↓tbX8_starts_43, ↓tbX8_starts_44, ↓tbX8_starts_47, ↓tbX8_starts_48, ↓tbX8_starts_49, ↓tbX8_starts_50, ↓tbX8_starts_53, ↓tbX8_starts_56, ↓tbX8_starts_57, ↓tbX8_starts_58, ↓tbX8_starts_61, ↓tbX8_starts_64, ↓tbX8_starts_67, hfu, xstep0, xJ1_hit, xJ1_go, xJ2_hit1, xJ2_hit2, xJ2_go, ↓xif_t, ↓xif_f, seval, ↓xca_eq, ↓xre_l, ↓xre_r, xmask_t, xmask_f, xmask_nil, ↓xst_eq, xX_eq, eI_eq, eMc_eq, eMs_eq, eF_eq, eThr_eq, ↓xS1_mk, ↓xSI_mk, ↓xSR_mk, ↓xLI_0, ↓xLI_s, ↓xLR_0, ↓xLR_s, vRef_ref, vRef_null, vRef_rf, cat_int, cat_ref, cat_null, cat_rf, rf_some, rf_none, rf_null, rf_eq, rf_ref, ref_rf, ref_null, ref_ref, xOk_0, xOk_1, xOk_2r, xOk_2n, xOk_2f, vOpt_rf, vOpt_ref, vOpt_null, List.set_cons_zero, List.set_cons_succ, List.take_succ_cons, List.take_zero, List.drop_succ_cons, List.drop_zero, List.reverse_cons, List.reverse_nil, List.nil_append, List.cons_append, List.append_nil, List.length_cons, List.length_nil, List.map_cons, List.map_nil, List.sum_cons, List.sum_nil, Option.toList_some, Option.toList_none, xRecv_mk, true_and, and_true, true_implies, Nat.reduceAdd, Nat.reduceLeDiff, Nat.zero_le, Nat.le_refl, Nat.add_zero, Nat.zero_add, reduceIte, not_true_eq_false, not_false_eq_true, false_implies, and_self, implies_true, eq_self, Nat.reduceEqDiff, List.cons.injEq, xsn_1, xsn_2, false_and, and_false, or_false, false_or, or_true, true_or, xsn_3, xsn_4, mAst_1, mAst_2, mSet_1, mSet_2, bi_0, ↓spwX8_stands, spcX8_stands, ↓spwX8_isUp, spcX8_isUp, ↓spwX8_barsNow, spcX8_barsNow, ↓spwX8_waits, spcX8_waits, ↓spwX8_enters, spcX8_enters, hn', le_nI_self]
      try simp only [xif_e]
      exact h)
  refine xgo hG (mb := [true, true, true, false]) (loop 0 (Nat.zero_le n)) (pc := 0) (fun fu hfu => ?_)
  simp only [↓callX8_starts_0, ↓callX8_starts_1, ↓callX8_starts_2, ↓callX8_starts_3, ↓callX8_starts_4, ki_0, ki_1, ki_m1, ↓ma_37, ↓mg_29, ↓mg_37, misa, ↓vm_aload_n, ↓vm_getfield, ↓vm_goto, ↓vm_iaload, ↓vm_iconst, ↓vm_ifCond_eq, ↓vm_ifCond_le, ↓vm_if_icmp_eq, ↓vm_if_icmp_ge, ↓vm_if_icmp_ne, ↓vm_iinc, ↓vm_iload_n, ↓vm_invokevirtual, ↓vm_istore_n, ↓vm_return_, ↓xc_2, ↓xc_3, ↓tbX8_starts_0, ↓tbX8_starts_1, ↓tbX8_starts_2, ↓tbX8_starts_3, ↓tbX8_starts_4, ↓tbX8_starts_7, ↓tbX8_starts_10, ↓tbX8_starts_11, ↓tbX8_starts_12, ↓tbX8_starts_15, ↓tbX8_starts_18, ↓tbX8_starts_19, ↓tbX8_starts_22, ↓tbX8_starts_23, ↓tbX8_starts_24, ↓tbX8_starts_25, ↓tbX8_starts_28, ↓tbX8_starts_29, ↓tbX8_starts_30, ↓tbX8_starts_33, ↓tbX8_starts_34, ↓tbX8_starts_37, ↓tbX8_starts_38, ↓tbX8_starts_39, ↓tbX8_starts_42, ↓tbX8_starts_43, ↓tbX8_starts_44, ↓tbX8_starts_47, ↓tbX8_starts_48, ↓tbX8_starts_49, ↓tbX8_starts_50, ↓tbX8_starts_53, ↓tbX8_starts_56, ↓tbX8_starts_57, ↓tbX8_starts_58, ↓tbX8_starts_61, ↓tbX8_starts_64, ↓tbX8_starts_67, hfu, xstep0, xJ1_hit, xJ1_go, xJ2_hit1, xJ2_hit2, xJ2_go, ↓xif_t, ↓xif_f, seval, ↓xca_eq, ↓xre_l, ↓xre_r, xmask_t, xmask_f, xmask_nil, ↓xst_eq, xX_eq, eI_eq, eMc_eq, eMs_eq, eF_eq, eThr_eq, ↓xS1_mk, ↓xSI_mk, ↓xSR_mk, ↓xLI_0, ↓xLI_s, ↓xLR_0, ↓xLR_s, vRef_ref, vRef_null, vRef_rf, cat_int, cat_ref, cat_null, cat_rf, rf_some, rf_none, rf_null, rf_eq, rf_ref, ref_rf, ref_null, ref_ref, xOk_0, xOk_1, xOk_2r, xOk_2n, xOk_2f, vOpt_rf, vOpt_ref, vOpt_null, List.set_cons_zero, List.set_cons_succ, List.take_succ_cons, List.take_zero, List.drop_succ_cons, List.drop_zero, List.reverse_cons, List.reverse_nil, List.nil_append, List.cons_append, List.append_nil, List.length_cons, List.length_nil, List.map_cons, List.map_nil, List.sum_cons, List.sum_nil, Option.toList_some, Option.toList_none, xRecv_mk, true_and, and_true, true_implies, Nat.reduceAdd, Nat.reduceLeDiff, Nat.zero_le, Nat.le_refl, Nat.add_zero, Nat.zero_add, reduceIte, not_true_eq_false, not_false_eq_true, false_implies, and_self, implies_true, eq_self, Nat.reduceEqDiff, List.cons.injEq, xsn_1, xsn_2, false_and, and_false, or_false, false_or, or_true, true_or, xsn_3, xsn_4, mAst_1, mAst_2, mSet_1, mSet_2, bi_0, ↓spwX8_stands, spcX8_stands, ↓spwX8_isUp, spcX8_isUp, ↓spwX8_barsNow, spcX8_barsNow, ↓spwX8_waits, spcX8_waits, ↓spwX8_enters, spcX8_enters]
  try simp only [xif_e]
  repeat' (first | rfl | apply And.intro)
