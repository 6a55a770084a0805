/-! What the reference throws, as a number. -/
set_option maxHeartbeats 400000 in
theorem cd_water {M : mS} {k x : Int32} : (oWater M k x).2.1 0 = 0 ∨ (oWater M k x).2.1 0 = 1 ∨ (oWater M k x).2.1 0 = 2 := by
  unfold oWater
  repeat' split
  all_goals simp [mSet_1, mAst_1]
set_option maxHeartbeats 400000 in
theorem cd_most {M : mS} {k u : Int32} : (oMost M k u).2.1 0 = 0 ∨ (oMost M k u).2.1 0 = 1 := by
  unfold oMost
  repeat' split
  all_goals simp [mSet_1, mAst_1]
set_option maxHeartbeats 400000 in
theorem cd_bars {M : mS} {k : Int32} : (oBars M k).2.1 0 = 0 ∨ (oBars M k).2.1 0 = 1 := by
  unfold oBars
  repeat' split
  all_goals simp [mSet_1, mAst_1]
set_option maxHeartbeats 400000 in
theorem cd_ofBoat {M : mS} {k x : Int32} : (oOfBoat M k x).2.1 0 = 0 ∨ (oOfBoat M k x).2.1 0 = 1 := by
  unfold oOfBoat
  repeat' split
  all_goals simp [mSet_1, mAst_1]
set_option maxHeartbeats 400000 in
theorem cd_waited {M : mS} {k x : Int32} : (oWaited M k x).2.1 0 = 0 ∨ (oWaited M k x).2.1 0 = 1 := by
  unfold oWaited
  repeat' split
  all_goals simp [mSet_1, mAst_1]
set_option maxHeartbeats 400000 in
theorem cd_ofContract {M : mS} {k x : Int32} : (oOfContract M k x).2.1 0 = 0 ∨ (oOfContract M k x).2.1 0 = 1 := by
  unfold oOfContract
  repeat' split
  all_goals simp [mSet_1, mAst_1]
set_option maxHeartbeats 400000 in
theorem cd_ofBarge {M : mS} {k x : Int32} : (oOfBarge M k x).2.1 0 = 0 ∨ (oOfBarge M k x).2.1 0 = 1 := by
  unfold oOfBarge
  repeat' split
  all_goals simp [mSet_1, mAst_1]
set_option maxHeartbeats 400000 in
theorem cd_placeAnew {M : mS} {k : Int32} : (oPlaceAnew M k).2.1 0 = 0 ∨ (oPlaceAnew M k).2.1 0 = 1 := by
  unfold oPlaceAnew
  repeat' split
  all_goals simp [mSet_1, mAst_1]
set_option maxHeartbeats 400000 in
theorem cd_all {M : mS} {k : Int32} : (oAll M k).2.1 0 = 0 ∨ (oAll M k).2.1 0 = 1 := by
  unfold oAll
  repeat' split
  all_goals simp [mSet_1, mAst_1]
set_option maxHeartbeats 400000 in
theorem cd_hours {M : mS} {k x : Int32} : (oHours M k x).2.1 0 = 0 ∨ (oHours M k x).2.1 0 = 1 := by
  unfold oHours
  repeat' split
  all_goals simp [mSet_1, mAst_1]
set_option maxHeartbeats 400000 in
theorem cd_reach {M : mS} {k ho x wi z : Int32} : (oReach M k ho x wi z).1 0 = 0 ∨ (oReach M k ho x wi z).1 0 = 1 ∨ (oReach M k ho x wi z).1 0 = 2 ∨ (oReach M k ho x wi z).1 0 = 3 := by
  unfold oReach
  repeat' split
  all_goals simp [mSet_1, mAst_1]
set_option maxHeartbeats 400000 in
theorem cd_lock {M : mS} {k cc tt z : Int32} : (oLock M k cc tt z).1 0 = 0 ∨ (oLock M k cc tt z).1 0 = 1 ∨ (oLock M k cc tt z).1 0 = 2 ∨ (oLock M k cc tt z).1 0 = 3 := by
  unfold oLock
  repeat' split
  all_goals simp [mSet_1, mAst_1]
set_option maxHeartbeats 400000 in
theorem cd_dredge {M : mS} {k y : Int32} : (oDredge M k y).2.1 0 = 0 ∨ (oDredge M k y).2.1 0 = 1 ∨ (oDredge M k y).2.1 0 = 2 ∨ (oDredge M k y).2.1 0 = 3 := by
  unfold oDredge
  repeat' split
  all_goals simp [mSet_1, mAst_1]
set_option maxHeartbeats 400000 in
theorem cd_weather {M : mS} {k ic z : Int32} : (oWeather M k ic z).2.1 0 = 0 ∨ (oWeather M k ic z).2.1 0 = 1 ∨ (oWeather M k ic z).2.1 0 = 2 := by
  unfold oWeather
  repeat' split
  all_goals simp [mSet_1, mAst_1]
set_option maxHeartbeats 400000 in
theorem cd_stage {M : mS} {v f : Int32} : (oStage M v f).2.1 0 = 0 ∨ (oStage M v f).2.1 0 = 1 := by
  unfold oStage
  repeat' split
  all_goals simp [mSet_1, mAst_1]
set_option maxHeartbeats 400000 in
theorem cd_fog {M : mS} {z : Int32} : (oFog M z).2.1 0 = 0 := by
  unfold oFog
  repeat' split
  all_goals simp [mSet_1, mAst_1]
set_option maxHeartbeats 400000 in
theorem cd_bank {M : mS} {p t y : Int32} : (oBank M p t y).2.1 0 = 0 ∨ (oBank M p t y).2.1 0 = 1 ∨ (oBank M p t y).2.1 0 = 2 ∨ (oBank M p t y).2.1 0 = 3 := by
  unfold oBank
  repeat' split
  all_goals simp [mSet_1, mAst_1]
set_option maxHeartbeats 400000 in
theorem cd_divert {M : mS} {k y : Int32} : (oDivert M k y).2.1 0 = 0 ∨ (oDivert M k y).2.1 0 = 1 ∨ (oDivert M k y).2.1 0 = 2 := by
  unfold oDivert
  repeat' split
  all_goals simp [mSet_1, mAst_1]
set_option maxHeartbeats 400000 in
theorem cd_fuel {M : mS} {k y : Int32} : (oFuel M k y).2.1 0 = 0 ∨ (oFuel M k y).2.1 0 = 1 ∨ (oFuel M k y).2.1 0 = 2 ∨ (oFuel M k y).2.1 0 = 3 := by
  unfold oFuel
  repeat' split
  all_goals simp [mSet_1, mAst_1]
set_option maxHeartbeats 400000 in
theorem cd_wide {M : mS} {k y : Int32} : (oWide M k y).2.1 0 = 0 ∨ (oWide M k y).2.1 0 = 1 ∨ (oWide M k y).2.1 0 = 2 ∨ (oWide M k y).2.1 0 = 3 := by
  unfold oWide
  repeat' split
  all_goals simp [mSet_1, mAst_1]
set_option maxHeartbeats 400000 in
theorem cd_clean {M : mS} {k : Int32} : (oClean M k).2.1 0 = 0 ∨ (oClean M k).2.1 0 = 1 ∨ (oClean M k).2.1 0 = 2 := by
  unfold oClean
  repeat' split
  all_goals simp [mSet_1, mAst_1]
set_option maxHeartbeats 400000 in
theorem cd_go {M : mS} {k y : Int32} : (oGo M k y).2.1 0 = 0 ∨ (oGo M k y).2.1 0 = 1 := by
  unfold oGo
  repeat' split
  all_goals simp [mSet_1, mAst_1]
set_option maxHeartbeats 400000 in
theorem cd_radio {M : mS} {k y z : Int32} : (oRadio M k y z).2.1 0 = 0 ∨ (oRadio M k y z).2.1 0 = 1 ∨ (oRadio M k y z).2.1 0 = 2 := by
  unfold oRadio
  repeat' split
  all_goals simp [mSet_1, mAst_1]
set_option maxHeartbeats 400000 in
theorem cd_unload {M : mS} {k : Int32} : (oUnload M k).2.1 0 = 0 ∨ (oUnload M k).2.1 0 = 1 ∨ (oUnload M k).2.1 0 = 2 := by
  unfold oUnload
  repeat' split
  all_goals simp [mSet_1, mAst_1]
set_option maxHeartbeats 400000 in
theorem cd_load {M : mS} {b k u : Int32} : (oLoad M b k u).2.1 0 = 0 ∨ (oLoad M b k u).2.1 0 = 1 ∨ (oLoad M b k u).2.1 0 = 2 ∨ (oLoad M b k u).2.1 0 = 3 := by
  unfold oLoad
  repeat' split
  all_goals simp [mSet_1, mAst_1]
set_option maxHeartbeats 400000 in
theorem cd_contract {M : mS} {k f t u l r : Int32} : (oContract M k f t u l r).2.1 0 = 0 ∨ (oContract M k f t u l r).2.1 0 = 1 ∨ (oContract M k f t u l r).2.1 0 = 2 ∨ (oContract M k f t u l r).2.1 0 = 3 := by
  unfold oContract
  repeat' split
  all_goals simp [mSet_1, mAst_1]
set_option maxHeartbeats 400000 in
theorem cd_barge {M : mS} {y p t : Int32} : (oBarge M y p t).2.1 0 = 0 ∨ (oBarge M y p t).2.1 0 = 1 ∨ (oBarge M y p t).2.1 0 = 2 ∨ (oBarge M y p t).2.1 0 = 3 := by
  unfold oBarge
  repeat' split
  all_goals simp [mSet_1, mAst_1, mTies_1]
set_option maxHeartbeats 400000 in
theorem cd_boat {M : mS} {w z p : Int32} : (oBoat M w z p).2.1 0 = 0 ∨ (oBoat M w z p).2.1 0 = 1 ∨ (oBoat M w z p).2.1 0 = 2 ∨ (oBoat M w z p).2.1 0 = 3 := by
  unfold oBoat
  repeat' split
  all_goals simp [mSet_1, mAst_1]
set_option maxHeartbeats 400000 in
theorem cd_couple {M : mS} {b k : Int32} : (oCouple M b k).2.1 0 = 0 ∨ (oCouple M b k).2.1 0 = 1 ∨ (oCouple M b k).2.1 0 = 2 := by
  unfold oCouple
  repeat' split
  all_goals simp [mSet_1, mAst_1, mTies_1, mCpl, mLt, mShL_1]
set_option maxHeartbeats 400000 in
theorem cd_drop {M : mS} {b k tt : Int32} : (oDrop M b k tt).2.1 0 = 0 ∨ (oDrop M b k tt).2.1 0 = 1 ∨ (oDrop M b k tt).2.1 0 = 2 := by
  unfold oDrop
  repeat' split
  all_goals simp [mSet_1, mAst_1, mTies_1, mLv_1]
set_option maxHeartbeats 400000 in
theorem cd_shifts {M : mS} {p s : Int32} : (oShifts M p s).2.1 0 = 0 ∨ (oShifts M p s).2.1 0 = 1 ∨ (oShifts M p s).2.1 0 = 2 := by
  unfold oShifts
  repeat' split
  all_goals simp [mSet_1, mAst_1]
set_option maxHeartbeats 400000 in
theorem cd_shiftsAnew {M : mS} {p s : Int32} : (oShifts M p s).2.1 0 = 0 ∨ (oShifts M p s).2.1 0 = 1 ∨ (oShifts M p s).2.1 0 = 2 := by
  unfold oShifts
  repeat' split
  all_goals simp [mSet_1, mAst_1]
set_option maxHeartbeats 400000 in
theorem cd_pass {M : mS} {n : Int32} : (oPass M n).2.1 0 = 0 ∨ (oPass M n).2.1 0 = 1 ∨ (oPass M n).2.1 0 = 2 := by
  unfold oPass
  repeat' split
  all_goals simp [mSet_1, mAst_1, (mPas_1 _ _).2 0 (by omega) (by omega)]
