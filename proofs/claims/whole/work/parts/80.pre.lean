/-! What the reference's methods ask is owed by its rows. -/
theorem iAll_pl {M : mS} (hi : iAll M) {g : Nat} (hg : g < nBg M) : ∃ p, mPl M (nI g) p ∧ mPlc M (nI g) = p ∧ ((M.2 28 g = -1 ∧ ∃ t, t < 16 ∧ M.2 27 g = nI t ∧ p < nT M t) ∨ (∃ w, w < nBt M ∧ M.2 28 g = nI w ∧ p < nW M w)) := by
  have hb := hi.1.1.2
  have hg24 := hi.1.2.1.2
  have eg : (nI g).toNatClampNeg = g := ix_nI (by omega)
  rcases (hi.2.2.2.2.1 g hg).1 with ⟨z, t, p, ht, et, hp, ep, hu⟩ | ⟨w, p, hw, ew, hp, ep, hu⟩
  · have h5 := iTie_n hi.2.2.1 ht
    have hpl : mPl M (nI g) p := ⟨xin_nI (by omega) (by omega), Or.inl ⟨by rw [eg]; exact z, by omega, t, by rw [eg]; exact et, ht, fun q hq y => by have := hu q (by omega) y; omega, ep⟩⟩
    exact ⟨p, hpl, mPlc_of hpl, Or.inl ⟨z, t, ht, et, hp⟩⟩
  · have hn := (hi.2.2.2.1 w hw).1.2
    have hz : ¬ M.2 28 g = -1 := by rw [ew]; exact nI_m1 (by omega)
    have hpl : mPl M (nI g) p := ⟨xin_nI (by omega) (by omega), Or.inr ⟨by rw [eg]; exact hz, by omega, w, by rw [eg]; exact ew, by omega, fun q hq y => by have := hu q (by omega) y; omega, ep⟩⟩
    exact ⟨p, hpl, mPlc_of hpl, Or.inr ⟨w, hw, ew, hp⟩⟩
theorem iAll_bg {M : mS} (hi : iAll M) {b : Int32} (h : iBg M b) : ∃ g, g < nBg M ∧ b = nI g := by
  have hg24 := hi.1.2.1.2
  unfold iBg at h
  rw [hi.1.2.1.1, idx1 (by omega)] at h
  exact h
theorem iAll_bt {M : mS} (hi : iAll M) {b : Int32} (h : iBt M b) : ∃ w, w < nBt M ∧ b = nI w := by
  have hb := hi.1.1.2
  unfold iBt at h
  rw [hi.1.1.1, idx1 (by omega)] at h
  exact h
theorem iAll_co {M : mS} (hi : iAll M) {b : Int32} (h : iCo M b) : ∃ c, c < nCo M ∧ b = nI c := by
  have hb := hi.1.2.2.2
  unfold iCo at h
  rw [hi.1.2.2.1, idx1 (by omega)] at h
  exact h
theorem iAll_plb {M : mS} (hi : iAll M) {b : Int32} (h : iBg M b) : mPl M b (mPlc M b) := by
  obtain ⟨g, hg, rfl⟩ := iAll_bg hi h
  obtain ⟨p, h1, h2, -⟩ := iAll_pl hi hg
  rw [h2]
  exact h1
theorem iAll_td {M : mS} (hi : iAll M) : mTd M := fun t ht => ⟨(hi.2.2.1 t ht).1, iTie_n hi.2.2.1 ht⟩
theorem iAll_tk {M : mS} (hi : iAll M) {w : Nat} (hw : w < nBt M) : mTk M w ∧ mWk M w := by
  have hg24 := hi.1.2.1.2
  obtain ⟨⟨i1, i2⟩, i3, i4⟩ := hi.2.2.2.1 w hw
  refine ⟨⟨nW M w, i1, i2, fun k hk => ?_⟩, i3⟩
  obtain ⟨g, hg, e, -⟩ := i4 k hk
  rw [e]
  exact xin_nI (by omega) (by omega)
theorem iAll_bs {M : mS} (hi : iAll M) : mBs M (nBt M) := by
  have hb := hi.1.1.2
  exact ⟨hi.1.1, rfl, fun w hw => ⟨(iAll_tk hi hw).1, fun a b => mNext_in (by omega) ((iAll_h hi).2.1 w hw) a b⟩⟩
/-- tiers with room -/
theorem iAll_rm {M : mS} (hi : iAll M) : ∀ t : Nat, t < 16 → M.2 18 t < M.2 17 t → ∃ n, M.2 18 t = nI n ∧ n < 5 := fun t ht hlt => by
  have h5 := iTie_n hi.2.2.1 ht
  obtain ⟨a0, ⟨a1, a2⟩, -⟩ := hi.2.2.1 t ht
  refine ⟨nT M t, a0, ?_⟩
  have z1 := Int32.lt_iff_toInt_lt.mp hlt
  have z2 := Int32.le_iff_toInt_le.mp a2
  rw [a0, nI_toInt (by omega)] at z1
  have e5 : (5 : Int32).toInt = 5 := by decide
  rw [e5] at z2
  omega
