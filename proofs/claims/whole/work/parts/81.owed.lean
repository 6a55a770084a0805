/-! The reference's methods, from what its rows owe. -/
theorem iAll_set0 {M : mS} {z : Int32} (h : iAll M) : iAll (mSet M 0 z) := h
theorem iAll_p8 {M : mS} (hi : iAll M) {w : Nat} (hw : w < nBt M) (hs : M.2 34 w = -1) : vp_in (M.2 33 w) 8 := by
  obtain ⟨-, -, b3⟩ := hi.2.2.2.2.2.2.1 w hw
  exact (b3.resolve_right (fun z => vin_m1 (hs ▸ z.1))).2.1
theorem iAll_28 {M : mS} (hi : iAll M) {g : Nat} (hg : g < nBg M) (h : ¬ M.2 28 g = -1) : vp_in (M.2 28 g) 6 := by
  have hb := hi.1.1.2
  rcases (hi.2.2.2.2.1 g hg).1 with ⟨z, -⟩ | ⟨w, p, hw, ew, -⟩
  · exact absurd z h
  · rw [ew]; exact xin_nI (by omega) (by omega)
theorem iAll_at0 {M : mS} (hi : iAll M) {w : Nat} (hw : w < nBt M) : vp_in (mAt0 M (nI w)) 8 := by
  have hb := hi.1.1.2
  obtain ⟨-, -, b3⟩ := hi.2.2.2.2.2.2.1 w hw
  unfold mAt0
  rw [ix_nI (by omega)]
  by_cases c : M.2 34 w = -1
  · rw [if_pos c]
    exact iAll_p8 hi hw c
  · rw [if_neg c]
    obtain ⟨v1, -⟩ := b3.resolve_left (fun q => c q.1)
    obtain ⟨j, hj, ej, -⟩ := nx_nat v1 (by omega)
    rw [ej]
    split
    · exact xin_nI (by omega) (by omega)
    · rw [nI1]; exact xin_nI (by omega) (by omega)

theorem N_reach {aM : Nat → Nat} {M : mS} {s : Int32} {ho : Int32} {x : Int32} {w : Int32} {z : Int32} {K : xRes → mS → Prop} (hi : iAll M) (hz : z = 0 ∨ z = 1) (hk : K rV (oReach M s ho x w z)) : (spX8_reach aM).2 [.ref (aM 0), .int s, .int ho, .int x, .int w, .int z] M K := by
  have hb29 := hi.1.1.2
  have hb22 := hi.1.2.1.2
  have hb46 := hi.1.2.2.2
  rw [spwX8_reach]
  exact ⟨hz, hi.1.1, hk⟩

theorem N_lock {aM : Nat → Nat} {M : mS} {s : Int32} {x : Int32} {t : Int32} {z : Int32} {K : xRes → mS → Prop} (hi : iAll M) (hz : z = 0 ∨ z = 1) (hk : K rV (oLock M s x t z)) : (spX8_lock aM).2 [.ref (aM 0), .int s, .int x, .int t, .int z] M K := by
  have hb29 := hi.1.1.2
  have hb22 := hi.1.2.1.2
  have hb46 := hi.1.2.2.2
  rw [spwX8_lock]
  exact ⟨hz, hi.1.1, hk⟩

theorem N_dredge {aM : Nat → Nat} {M : mS} {s : Int32} {y : Int32} {K : xRes → mS → Prop} (hi : iAll M) (hk : K (rI (oDredge M s y).1) (oDredge M s y).2) : (spX8_dredge aM).2 [.ref (aM 0), .int s, .int y] M K := by
  have hb29 := hi.1.1.2
  have hb22 := hi.1.2.1.2
  have hb46 := hi.1.2.2.2
  rw [spwX8_dredge]
  exact hk

theorem N_stage {aM : Nat → Nat} {M : mS} {v : Int32} {f : Int32} {K : xRes → mS → Prop} (hi : iAll M) (hk : K (rI (oStage M v f).1) (oStage M v f).2) : (spX8_stage aM).2 [.ref (aM 0), .int v, .int f] M K := by
  have hb29 := hi.1.1.2
  have hb22 := hi.1.2.1.2
  have hb46 := hi.1.2.2.2
  rw [spwX8_stage]
  exact hk

theorem N_weather {aM : Nat → Nat} {M : mS} {s : Int32} {i : Int32} {z : Int32} {K : xRes → mS → Prop} (hi : iAll M) (hz : z = 0 ∨ z = 1) (hk : K (rI (oWeather M s i z).1) (oWeather M s i z).2) : (spX8_weather aM).2 [.ref (aM 0), .int s, .int i, .int z] M K := by
  have hb29 := hi.1.1.2
  have hb22 := hi.1.2.1.2
  have hb46 := hi.1.2.2.2
  rw [spwX8_weather]
  exact ⟨hz, hk⟩

theorem N_fog {aM : Nat → Nat} {M : mS} {z : Int32} {K : xRes → mS → Prop} (hi : iAll M) (hz : z = 0 ∨ z = 1) (hk : K (rI (oFog M z).1) (oFog M z).2) : (spX8_fog aM).2 [.ref (aM 0), .int z] M K := by
  have hb29 := hi.1.1.2
  have hb22 := hi.1.2.1.2
  have hb46 := hi.1.2.2.2
  rw [spwX8_fog]
  exact ⟨hz, hi.2.2.2.2.2.2.2.2.2.2.1, hk⟩

theorem N_bank {aM : Nat → Nat} {M : mS} {p : Int32} {t : Int32} {y : Int32} {K : xRes → mS → Prop} (hi : iAll M) (hk : K (rI (oBank M p t y).1) (oBank M p t y).2) : (spX8_bank aM).2 [.ref (aM 0), .int p, .int t, .int y] M K := by
  have hb29 := hi.1.1.2
  have hb22 := hi.1.2.1.2
  have hb46 := hi.1.2.2.2
  rw [spwX8_bank]
  exact hk

theorem N_barge {aM : Nat → Nat} {M : mS} {y : Int32} {p : Int32} {t : Int32} {K : xRes → mS → Prop} (hi : iAll M) (hk : K (rI (oBarge M y p t).1) (oBarge M y p t).2) : (spX8_barge aM).2 [.ref (aM 0), .int y, .int p, .int t] M K := by
  have hb29 := hi.1.1.2
  have hb22 := hi.1.2.1.2
  have hb46 := hi.1.2.2.2
  rw [spwX8_barge]
  exact ⟨hi.1.2.1, iAll_rm hi, hk⟩

theorem N_contract {aM : Nat → Nat} {M : mS} {k : Int32} {f : Int32} {t : Int32} {u : Int32} {l : Int32} {r : Int32} {K : xRes → mS → Prop} (hi : iAll M) (hk : K (rI (oContract M k f t u l r).1) (oContract M k f t u l r).2) : (spX8_contract aM).2 [.ref (aM 0), .int k, .int f, .int t, .int u, .int l, .int r] M K := by
  have hb29 := hi.1.1.2
  have hb22 := hi.1.2.1.2
  have hb46 := hi.1.2.2.2
  rw [spwX8_contract]
  exact ⟨hi.1.2.2, hk⟩

theorem N_divert {aM : Nat → Nat} {M : mS} {k : Int32} {t : Int32} {K : xRes → mS → Prop} (hi : iAll M) (hk : K (rI (oDivert M k t).1) (oDivert M k t).2) : (spX8_divert aM).2 [.ref (aM 0), .int k, .int t] M K := by
  have hb29 := hi.1.1.2
  have hb22 := hi.1.2.1.2
  have hb46 := hi.1.2.2.2
  rw [spwX8_divert]
  exact ⟨hi.1.2.2, hk⟩

theorem N_load {aM : Nat → Nat} {M : mS} {b : Int32} {k : Int32} {u : Int32} {K : xRes → mS → Prop} (hi : iAll M) (hk : K (rI (oLoad M b k u).1) (oLoad M b k u).2) : (spX8_load aM).2 [.ref (aM 0), .int b, .int k, .int u] M K := by
  have hb29 := hi.1.1.2
  have hb22 := hi.1.2.1.2
  have hb46 := hi.1.2.2.2
  rw [spwX8_load]
  exact ⟨hi.1.2.1, hi.1.2.2, fun _ h => iAll_plb hi h, fun _ h => by
    obtain ⟨x, hx, rfl⟩ := iAll_co hi h
    rw [ix_nI (by omega)]
    exact (hi.2.2.2.2.2.1 x hx).2.1, hk⟩

theorem N_unload {aM : Nat → Nat} {M : mS} {b : Int32} {K : xRes → mS → Prop} (hi : iAll M) (hk : K (rI (oUnload M b).1) (oUnload M b).2) : (spX8_unload aM).2 [.ref (aM 0), .int b] M K := by
  have hb29 := hi.1.1.2
  have hb22 := hi.1.2.1.2
  have hb46 := hi.1.2.2.2
  rw [spwX8_unload]
  exact ⟨hi.1.2.1, fun _ h => iAll_plb hi h, fun _ h h2 => by
    obtain ⟨x, hx, rfl⟩ := iAll_bg hi h
    rw [ix_nI (by omega)] at h2 ⊢
    rcases (hi.2.2.2.2.1 x hx).2.1 with ⟨z, -⟩ | ⟨-, y, hy, ey⟩
    · exact absurd z h2
    · rw [ey]; exact xin_nI (by omega) (by omega), hk⟩

theorem N_clean {aM : Nat → Nat} {M : mS} {b : Int32} {K : xRes → mS → Prop} (hi : iAll M) (hk : K (rI (oClean M b).1) (oClean M b).2) : (spX8_clean aM).2 [.ref (aM 0), .int b] M K := by
  have hb29 := hi.1.1.2
  have hb22 := hi.1.2.1.2
  have hb46 := hi.1.2.2.2
  rw [spwX8_clean]
  exact ⟨hi.1.2.1, hk⟩

theorem N_boat {aM : Nat → Nat} {M : mS} {w : Int32} {h : Int32} {p : Int32} {K : xRes → mS → Prop} (hi : iAll M) (hk : K (rI (oBoat M w h p).1) (oBoat M w h p).2) : (spX8_boat aM).2 [.ref (aM 0), .int w, .int h, .int p] M K := by
  have hb29 := hi.1.1.2
  have hb22 := hi.1.2.1.2
  have hb46 := hi.1.2.2.2
  rw [spwX8_boat]
  exact ⟨hi.1.1, hk⟩

theorem N_fuel {aM : Nat → Nat} {M : mS} {w : Int32} {u : Int32} {K : xRes → mS → Prop} (hi : iAll M) (hk : K (rI (oFuel M w u).1) (oFuel M w u).2) : (spX8_fuel aM).2 [.ref (aM 0), .int w, .int u] M K := by
  have hb29 := hi.1.1.2
  have hb22 := hi.1.2.1.2
  have hb46 := hi.1.2.2.2
  rw [spwX8_fuel]
  exact ⟨hi.1.1, hk⟩

theorem N_wide {aM : Nat → Nat} {M : mS} {w : Int32} {n : Int32} {K : xRes → mS → Prop} (hi : iAll M) (hk : K (rI (oWide M w n).1) (oWide M w n).2) : (spX8_wide aM).2 [.ref (aM 0), .int w, .int n] M K := by
  have hb29 := hi.1.1.2
  have hb22 := hi.1.2.1.2
  have hb46 := hi.1.2.2.2
  rw [spwX8_wide]
  exact ⟨hi.1.1, hk⟩

theorem N_couple {aM : Nat → Nat} {M : mS} {b : Int32} {g : Int32} {K : xRes → mS → Prop} (hi : iAll M) (hk : K (rI (oCouple M b g).1) (oCouple M b g).2) : (spX8_couple aM).2 [.ref (aM 0), .int b, .int g] M K := by
  have hb29 := hi.1.1.2
  have hb22 := hi.1.2.1.2
  have hb46 := hi.1.2.2.2
  rw [spwX8_couple]
  exact ⟨hi.1.1, hi.1.2.1, iAll_td hi, fun h => by
    obtain ⟨x, hx, rfl⟩ := iAll_bt hi h
    rw [ix_nI (by omega)]
    exact ⟨(iAll_tk hi hx).2, (iAll_tk hi hx).1⟩, fun h => ⟨iAll_plb hi h, fun h2 => by
    obtain ⟨x, hx, rfl⟩ := iAll_bg hi h
    rw [ix_nI (by omega)] at h2
    obtain ⟨p, -, e, q⟩ := iAll_pl hi hx
    unfold tOf
    rw [ix_nI (by omega), e]
    rcases q with ⟨-, t, ht, et, hp⟩ | ⟨w, hw, ew, -⟩
    · rw [et, ix_nI (by omega)]; exact hp
    · rw [h2] at ew; exact absurd ew.symm (nI_m1 (by omega))⟩, hk⟩

theorem N_drop {aM : Nat → Nat} {M : mS} {b : Int32} {g : Int32} {t : Int32} {K : xRes → mS → Prop} (hi : iAll M) (hm : ¬ b = -1) (hk : K (rI (oDrop M b g t).1) (oDrop M b g t).2) : (spX8_drop aM).2 [.ref (aM 0), .int b, .int g, .int t] M K := by
  have hb29 := hi.1.1.2
  have hb22 := hi.1.2.1.2
  have hb46 := hi.1.2.2.2
  rw [spwX8_drop]
  exact ⟨hi.1.1, hi.1.2.1, iAll_rm hi, fun h => by
    obtain ⟨x, hx, rfl⟩ := iAll_bt hi h
    rw [ix_nI (by omega)]
    exact ⟨(iAll_tk hi hx).2, (iAll_tk hi hx).1, fun h2 => iAll_p8 hi hx h2⟩, fun h => ⟨iAll_plb hi h, fun h2 => by
    obtain ⟨x, hx, rfl⟩ := iAll_bg hi h
    rw [ix_nI (by omega)] at h2
    obtain ⟨p, -, e, q⟩ := iAll_pl hi hx
    rw [e, ← h2]
    rcases q with ⟨z, t, ht, et, hp⟩ | ⟨w, hw, ew, hp⟩
    · exact absurd (h2.symm.trans z) hm
    · rw [ew, ix_nI (by omega)]; exact hp⟩, hk⟩

theorem N_radio {aM : Nat → Nat} {M : mS} {w : Int32} {v : Int32} {z : Int32} {K : xRes → mS → Prop} (hi : iAll M) (hz : z = 0 ∨ z = 1) (hk : K (rI (oRadio M w v z).1) (oRadio M w v z).2) : (spX8_radio aM).2 [.ref (aM 0), .int w, .int v, .int z] M K := by
  have hb29 := hi.1.1.2
  have hb22 := hi.1.2.1.2
  have hb46 := hi.1.2.2.2
  rw [spwX8_radio]
  exact ⟨hz, hi.1.1, fun i hi2 => by
    have := (hi.2.2.2.2.2.2.2.1 (i / 6) (i % 6) (by omega) (by omega)).1
    rw [show 6 * (i / 6) + i % 6 = i by omega] at this
    exact this, hk⟩

theorem N_go {aM : Nat → Nat} {M : mS} {w : Int32} {p : Int32} {K : xRes → mS → Prop} (hi : iAll M) (hk : K (rI (oGo M w p).1) (oGo M w p).2) : (spX8_go aM).2 [.ref (aM 0), .int w, .int p] M K := by
  have hb29 := hi.1.1.2
  have hb22 := hi.1.2.1.2
  have hb46 := hi.1.2.2.2
  rw [spwX8_go]
  exact ⟨hi.1.1, hk⟩

theorem N_pass {aM : Nat → Nat} {M : mS} {n : Int32} {K : xRes → mS → Prop} (hi : iAll M) (hk : K (rI (oPass M n).1) (oPass M n).2) : (spX8_pass aM).2 [.ref (aM 0), .int n] M K := by
  have hb29 := hi.1.1.2
  have hb22 := hi.1.2.1.2
  have hb46 := hi.1.2.2.2
  rw [spwX8_pass]
  exact ⟨iAll_h hi, hk⟩

theorem N_water {aM : Nat → Nat} {M : mS} {s : Int32} {x : Int32} {K : xRes → mS → Prop} (hi : iAll M) (hk : K (rI (oWater M s x).1) (oWater M s x).2) : (spX8_water aM).2 [.ref (aM 0), .int s, .int x] M K := by
  have hb29 := hi.1.1.2
  have hb22 := hi.1.2.1.2
  have hb46 := hi.1.2.2.2
  rw [spwX8_water]
  exact hk

theorem N_most {aM : Nat → Nat} {M : mS} {b : Int32} {u : Int32} {K : xRes → mS → Prop} (hi : iAll M) (hu : u = 0 ∨ u = 1) (hk : K (rI (oMost M b u).1) (oMost M b u).2) : (spX8_most aM).2 [.ref (aM 0), .int b, .int u] M K := by
  have hb29 := hi.1.1.2
  have hb22 := hi.1.2.1.2
  have hb46 := hi.1.2.2.2
  rw [spwX8_most]
  exact ⟨hu, hi.1.1, hk⟩

theorem N_bars {aM : Nat → Nat} {M : mS} {b : Int32} {K : xRes → mS → Prop} (hi : iAll M) (hk : K (rI (oBars M b).1) (oBars M b).2) : (spX8_bars aM).2 [.ref (aM 0), .int b] M K := by
  have hb29 := hi.1.1.2
  have hb22 := hi.1.2.1.2
  have hb46 := hi.1.2.2.2
  rw [spwX8_bars]
  exact ⟨hi.1.1, iAll_bs (iAll_set0 hi), fun h h1 h2 => by
    obtain ⟨x, hx, rfl⟩ := iAll_bt hi h
    rw [ix_nI (by omega)] at h1 h2 ⊢
    have hin := mNext_in (M := mSet M 0 0) (show x < 6 by omega) ((iAll_h (iAll_set0 hi)).2.1 x hx) h1 h2
    obtain ⟨j, hj, ej, ej2⟩ := nx_nat hin (by omega)
    refine ⟨(iAll_tk (M := mSet M 0 0) hi hx).1, hin, ?_⟩
    rw [ej2]
    exact (hi.2.1 j hj).2.2, hk⟩

theorem N_ofBoat {aM : Nat → Nat} {M : mS} {b : Int32} {w : Int32} {K : xRes → mS → Prop} (hi : iAll M) (hk : K (rI (oOfBoat M b w).1) (oOfBoat M b w).2) : (spX8_ofBoat aM).2 [.ref (aM 0), .int b, .int w] M K := by
  have hb29 := hi.1.1.2
  have hb22 := hi.1.2.1.2
  have hb46 := hi.1.2.2.2
  rw [spwX8_ofBoat]
  exact ⟨hi.1.1, fun h => by
    obtain ⟨x, hx, rfl⟩ := iAll_bt hi h
    rw [ix_nI (by omega)]
    exact (iAll_tk (M := mSet M 0 0) hi hx).1, hk⟩

theorem N_waited {aM : Nat → Nat} {M : mS} {b : Int32} {x : Int32} {K : xRes → mS → Prop} (hi : iAll M) (hk : K (rI (oWaited M b x).1) (oWaited M b x).2) : (spX8_waited aM).2 [.ref (aM 0), .int b, .int x] M K := by
  have hb29 := hi.1.1.2
  have hb22 := hi.1.2.1.2
  have hb46 := hi.1.2.2.2
  rw [spwX8_waited]
  exact ⟨hi.1.1, hk⟩

theorem N_placeAnew {aM : Nat → Nat} {M : mS} {g : Int32} {K : xRes → mS → Prop} (hi : iAll M) (hk : K (rI (oPlaceAnew M g).1) (oPlaceAnew M g).2) : (spX8_placeAnew aM).2 [.ref (aM 0), .int g] M K := by
  have hb29 := hi.1.1.2
  have hb22 := hi.1.2.1.2
  have hb46 := hi.1.2.2.2
  rw [spwX8_placeAnew]
  exact ⟨hi.1.2.1, fun h h2 => by
    obtain ⟨x, hx, rfl⟩ := iAll_bg hi h
    rw [ix_nI (by omega)] at h2 ⊢
    exact iAll_28 hi hx h2, hk⟩

theorem N_ofBarge {aM : Nat → Nat} {M : mS} {g : Int32} {w : Int32} {K : xRes → mS → Prop} (hi : iAll M) (hk : K (rI (oOfBarge M g w).1) (oOfBarge M g w).2) : (spX8_ofBarge aM).2 [.ref (aM 0), .int g, .int w] M K := by
  have hb29 := hi.1.1.2
  have hb22 := hi.1.2.1.2
  have hb46 := hi.1.2.2.2
  rw [spwX8_ofBarge]
  exact ⟨hi.1.2.1, fun h => iAll_plb (iAll_set0 hi) h, fun h h2 => by
    obtain ⟨x, hx, rfl⟩ := iAll_bg hi h
    rw [ix_nI (by omega)] at h2 ⊢
    exact iAll_28 hi hx h2, hk⟩

theorem N_ofContract {aM : Nat → Nat} {M : mS} {x : Int32} {w : Int32} {K : xRes → mS → Prop} (hi : iAll M) (hk : K (rI (oOfContract M x w).1) (oOfContract M x w).2) : (spX8_ofContract aM).2 [.ref (aM 0), .int x, .int w] M K := by
  have hb29 := hi.1.1.2
  have hb22 := hi.1.2.1.2
  have hb46 := hi.1.2.2.2
  rw [spwX8_ofContract]
  exact ⟨hi.1.2.2, hi.1.2.1, hk⟩

theorem N_all {aM : Nat → Nat} {M : mS} {w : Int32} {K : xRes → mS → Prop} (hi : iAll M) (hk : K (rI (oAll M w).1) (oAll M w).2) : (spX8_all aM).2 [.ref (aM 0), .int w] M K := by
  have hb29 := hi.1.1.2
  have hb22 := hi.1.2.1.2
  have hb46 := hi.1.2.2.2
  rw [spwX8_all]
  exact hk

theorem N_hours {aM : Nat → Nat} {M : mS} {b : Int32} {p : Int32} {K : xRes → mS → Prop} (hi : iAll M) (hk : K (rI (oHours M b p).1) (oHours M b p).2) : (spX8_hours aM).2 [.ref (aM 0), .int b, .int p] M K := by
  have hb29 := hi.1.1.2
  have hb22 := hi.1.2.1.2
  have hb46 := hi.1.2.2.2
  rw [spwX8_hours]
  exact ⟨hi.1.1, fun h => by
    obtain ⟨x, hx, rfl⟩ := iAll_bt hi h
    rw [ix_nI (by omega)]
    exact ⟨(iAll_tk (M := mSet M 0 0) hi hx).1, iAll_at0 hi hx⟩, hk⟩

theorem N_shifts {aM : Nat → Nat} {M : mS} {p : Int32} {s : Int32} {K : xRes → mS → Prop} (hi : iAll M) (hk : K (rI (oShifts M p s).1) (oShifts M p s).2) : (spX8_shifts aM).2 [.ref (aM 0), .int p, .int s] M K := by
  have hb29 := hi.1.1.2
  have hb22 := hi.1.2.1.2
  have hb46 := hi.1.2.2.2
  rw [spwX8_shifts]
  exact ⟨hi.1.2.1, iAll_td hi, hk⟩

