theorem lwe0 : lw_at 0 = [Cond.selects RJx4a65c yJx4a65c_add_72be8 yJx4a65c_add_72be8] := rfl
theorem lwe1 : lw_at 1 = [Cond.selects RJx4a65c yJx4a65c_grow_d5877 yJx4a65c_grow_d5877] := rfl
theorem lwe2 : lw_at 2 = [Cond.selects RJx4a65c yJx4a65c_grow_92f84 yJx4a65c_grow_92f84] := rfl
theorem lwe3 : lw_at 3 = [Cond.selects RX7 yX7_needSection yX7_needSection] := rfl
theorem lwe4 : lw_at 4 = [Cond.selects RX7 yX7_needNoBoatIn yX7_needNoBoatIn] := rfl
theorem lwe5 : lw_at 5 = [Cond.selects RX7 yX7_isBusy yX7_isBusy] := rfl
theorem lwe6 : lw_at 6 = [Cond.selects RX7 yX7_needTier yX7_needTier] := rfl
theorem lwe7 : lw_at 7 = [Cond.selects RX7 yX7_needContract yX7_needContract] := rfl
theorem lwe8 : lw_at 8 = [Cond.selects RX7 yX7_needBarge yX7_needBarge] := rfl
theorem lwe9 : lw_at 9 = [Cond.selects RX0 yX0_isTypeFor yX0_isTypeFor] := rfl
theorem lwe10 : lw_at 10 = [Cond.selects RX7 yX7_needBoat yX7_needBoat] := rfl
theorem lwe11 : lw_at 11 = [Cond.selects RX4 yX4_seenAt yX4_seenAt] := rfl
theorem lwe12 : lw_at 12 = [Cond.selects RJx4a65c yJx4a65c_fastRemove_b59b0 yJx4a65c_fastRemove_b59b0] := rfl
theorem lwe13 : lw_at 13 = [Cond.selects RX7 yX7_beginHour yX7_beginHour] := rfl
theorem lwe14 : lw_at 14 = [Cond.selects RX7 yX7_stageIn yX7_stageIn] := rfl
theorem lwe15 : lw_at 15 = [Cond.selects RX7 yX7_travel yX7_travel] := rfl
theorem lwe16 : lw_at 16 = [Cond.selects RX7 yX7_waterOf yX7_waterOf] := rfl
theorem lwe17 : lw_at 17 = [Cond.selects RX7 yX7_arrive yX7_arrive] := rfl
theorem lwe18 : lw_at 18 = [Cond.selects RX7 yX7_sendOff yX7_sendOff] := rfl
theorem lwe19 : lw_at 19 = [Cond.selects RX7 yX7_nextOf yX7_nextOf] := rfl
theorem lwe20 : lw_at 20 = [Cond.selects RX7 yX7_causeFor yX7_causeFor] := rfl
theorem lwe21 : lw_at 21 = [Cond.selects RX7 yX7_causeAheadOfMeeting yX7_causeAheadOfMeeting] := rfl
theorem lwe22 : lw_at 22 = [Cond.selects RX7 yX7_causeOfSize yX7_causeOfSize] := rfl
theorem lwe23 : lw_at 23 = [Cond.selects RX7 yX7_meetsIn yX7_meetsIn] := rfl
theorem lwe24 : lw_at 24 = [Cond.selects RX7 yX7_firstInto yX7_firstInto] := rfl
theorem lwe25 : lw_at 25 = [Cond.selects RX7 yX7_enter yX7_enter] := rfl
theorem lwe26 : lw_at 26 = [Cond.selects RX7 yX7_whereIs yX7_whereIs] := rfl
theorem lwe27 : lw_at 27 = [Cond.selects RX6 yX6_latestOf yX6_latestOf] := rfl
theorem lwe28 : lw_at 28 = [Cond.selects RX7 yX7_needTiedSet yX7_needTiedSet] := rfl
theorem lwe29 : lw_at 29 = [Cond.selects RX7 yX7_paidInAll yX7_paidInAll] := rfl
theorem lwe30 : lw_at 30 = [Cond.selects RX7 yX7_waitedInAll yX7_waitedInAll] := rfl
theorem lwe31 : lw_at 31 = [Cond.selects RX8 yX8_boatsIn yX8_boatsIn] := rfl
theorem lwe32 : lw_at 32 = [Cond.selects RX8 yX8_holds yX8_holds] := rfl
theorem lwe33 : lw_at 33 = [Cond.selects RX8 yX8_hasRoom yX8_hasRoom] := rfl
theorem lwe34 : lw_at 34 = [Cond.selects RX8 yX8_ties yX8_ties] := rfl
theorem lwe35 : lw_at 35 = [Cond.selects RX8 yX8_isContract yX8_isContract] := rfl
theorem lwe36 : lw_at 36 = [Cond.selects RX8 yX8_isBarge yX8_isBarge] := rfl
theorem lwe37 : lw_at 37 = [Cond.selects RX8 yX8_canLoad yX8_canLoad] := rfl
theorem lwe38 : lw_at 38 = [Cond.selects RX8 yX8_isOutermost yX8_isOutermost] := rfl
theorem lwe39 : lw_at 39 = [Cond.selects RX8 yX8_isTied yX8_isTied] := rfl
theorem lwe40 : lw_at 40 = [Cond.selects RX8 yX8_outside yX8_outside] := rfl
theorem lwe41 : lw_at 41 = [Cond.selects RX8 yX8_placeOf yX8_placeOf] := rfl
theorem lwe42 : lw_at 42 = [Cond.selects RX8 yX8_open yX8_open] := rfl
theorem lwe43 : lw_at 43 = [Cond.selects RX8 yX8_inBarges yX8_inBarges] := rfl
theorem lwe44 : lw_at 44 = [Cond.selects RX8 yX8_isBoat yX8_isBoat] := rfl
theorem lwe45 : lw_at 45 = [Cond.selects RX8 yX8_stands yX8_stands] := rfl
theorem lwe46 : lw_at 46 = [Cond.selects RX8 yX8_canCouple yX8_canCouple] := rfl
theorem lwe47 : lw_at 47 = [Cond.selects RX8 yX8_isDangerous yX8_isDangerous] := rfl
theorem lwe48 : lw_at 48 = [Cond.selects RX8 yX8_areUnlike yX8_areUnlike] := rfl
theorem lwe49 : lw_at 49 = [Cond.selects RX8 yX8_canDrop yX8_canDrop] := rfl
theorem lwe50 : lw_at 50 = [Cond.selects RX8 yX8_leaves yX8_leaves] := rfl
theorem lwe51 : lw_at 51 = [Cond.selects RX8 yX8_returns yX8_returns] := rfl
theorem lwe52 : lw_at 52 = [Cond.selects RX8 yX8_hour yX8_hour] := rfl
theorem lwe53 : lw_at 53 = [Cond.selects RX8 yX8_moves yX8_moves] := rfl
theorem lwe54 : lw_at 54 = [Cond.selects RX8 yX8_draughtOf yX8_draughtOf] := rfl
theorem lwe55 : lw_at 55 = [Cond.selects RX8 yX8_waits yX8_waits] := rfl
theorem lwe56 : lw_at 56 = [Cond.selects RX8 yX8_comes yX8_comes] := rfl
theorem lwe57 : lw_at 57 = [Cond.selects RX8 yX8_starts yX8_starts] := rfl
theorem lwe58 : lw_at 58 = [Cond.selects RX8 yX8_isUp yX8_isUp] := rfl
theorem lwe59 : lw_at 59 = [Cond.selects RX8 yX8_barsNow yX8_barsNow] := rfl
theorem lwe60 : lw_at 60 = [Cond.selects RX8 yX8_early yX8_early] := rfl
theorem lwe61 : lw_at 61 = [Cond.selects RX8 yX8_nextOf yX8_nextOf] := rfl
theorem lwe62 : lw_at 62 = [Cond.selects RX8 yX8_unfit yX8_unfit] := rfl
theorem lwe63 : lw_at 63 = [Cond.selects RX8 yX8_widthOf yX8_widthOf] := rfl
theorem lwe64 : lw_at 64 = [Cond.selects RX8 yX8_weightOf yX8_weightOf] := rfl
theorem lwe65 : lw_at 65 = [Cond.selects RX8 yX8_mostOf yX8_mostOf] := rfl
theorem lwe66 : lw_at 66 = [Cond.selects RX8 yX8_hoursIn yX8_hoursIn] := rfl
theorem lwe67 : lw_at 67 = [Cond.selects RX8 yX8_meets yX8_meets] := rfl
theorem lwe68 : lw_at 68 = [Cond.selects RX8 yX8_aheadAt yX8_aheadAt] := rfl
theorem lwe69 : lw_at 69 = [Cond.selects RX8 yX8_aheadIn yX8_aheadIn] := rfl
theorem lwe70 : lw_at 70 = [Cond.selects RX8 yX8_enters yX8_enters] := rfl
theorem lwe71 : lw_at 71 = [Cond.selects RX8 yX8_told yX8_told] := rfl
theorem lwe72 : lw_at 72 = [Cond.selects RX8 yX8_whereIs yX8_whereIs] := rfl
theorem lwe73 : lw_at 73 = [Cond.selects RX8 yX8_isSet yX8_isSet] := rfl
theorem lwe80 : lw_at 80 = [Cond.initialized RL] := rfl
theorem lwe81 : lw_at 81 = [Cond.initialized RX7] := rfl
theorem lwe82 : lw_at 82 = [Cond.initialized RJxa1e45] := rfl
theorem lwe83 : lw_at 83 = [Cond.initialized RJxc12de] := rfl
theorem lwe84 : lw_at 84 = [Cond.initialized RJx4a65c] := rfl
theorem lwe85 : lw_at 85 = [Cond.initialized RX6] := rfl
theorem lwe86 : lw_at 86 = [Cond.initialized RX3] := rfl
theorem lwe87 : lw_at 87 = [Cond.initialized RX5] := rfl
theorem lwe88 : lw_at 88 = [Cond.initialized RJ8] := rfl
theorem lwe89 : lw_at 89 = [Cond.initialized "java/lang/Math"] := rfl
theorem lwe90 : lw_at 90 = [Cond.initialized RJ7] := rfl
theorem lwe91 : lw_at 91 = [Cond.initialized "java/lang/System"] := rfl
theorem lwe92 : lw_at 92 = [Cond.initialized RX4] := rfl
theorem lwe93 : lw_at 93 = [Cond.initialized RX8] := rfl
theorem lwe94 : lw_at 94 = [Cond.initialized "java/lang/IndexOutOfBoundsException"] := rfl
theorem lwe95 : lw_at 95 = [Cond.initialized RJ15] := rfl
theorem lwe96 : lw_at 96 = [Cond.initialized RJ3] := rfl
theorem lwe97 : lw_at 97 = [Cond.initialized "java/lang/IllegalArgumentException"] := rfl
theorem lwe98 : lw_at 98 = [Cond.initialized "java/lang/IllegalStateException"] := rfl
theorem lwe99 : lw_at 99 = [Cond.initialized RX0] := rfl
theorem lwe100 : lw_at 100 = [Cond.initialized RX2] := rfl
theorem lwe101 : lw_at 101 = [Cond.initialized RX1] := rfl
theorem lwe102 : lw_at 102 = [Cond.initialized RJ6] := rfl
theorem lwe103 : lw_at 103 = [Cond.classLink RL 8 RX7] := rfl
theorem lwe104 : lw_at 104 = [Cond.instantiable RX7 14] := rfl
theorem lwe105 : lw_at 105 = [Cond.methodLink RL 120 yX7_init] := rfl
theorem lwe106 : lw_at 106 = [Cond.instanceMethod yX7_init] := rfl
theorem lwe107 : lw_at 107 = [Cond.code yX7_init cX7_init 3 none] := rfl
theorem lwe108 : lw_at 108 = [Cond.methodLink RX7 1 objectInit] := rfl
theorem lwe109 : lw_at 109 = [Cond.instanceMethod objectInit] := rfl
theorem lwe110 : lw_at 110 = [Cond.code objectInit ⟨#[0xb1]⟩ 1 none] := rfl
theorem lwe111 : lw_at 111 = [Cond.classLink RX7 7 RJx4a65c] := rfl
theorem lwe112 : lw_at 112 = [Cond.instantiable RJx4a65c 3] := rfl
theorem lwe113 : lw_at 113 = [Cond.methodLink RX7 9 yJx4a65c_init_da8c8] := rfl
theorem lwe114 : lw_at 114 = [Cond.instanceMethod yJx4a65c_init_da8c8] := rfl
theorem lwe115 : lw_at 115 = [Cond.code yJx4a65c_init_da8c8 cJx4a65c_init_da8c8 1 none] := rfl
theorem lwe116 : lw_at 116 = [Cond.methodLink RJx4a65c 1 yJxc12de_init_da8c8] := rfl
theorem lwe117 : lw_at 117 = [Cond.instanceMethod yJxc12de_init_da8c8] := rfl
theorem lwe118 : lw_at 118 = [Cond.code yJxc12de_init_da8c8 cJxc12de_init_da8c8 1 none] := rfl
theorem lwe119 : lw_at 119 = [Cond.methodLink RJxc12de 1 yJxa1e45_init_da8c8] := rfl
theorem lwe120 : lw_at 120 = [Cond.instanceMethod yJxa1e45_init_da8c8] := rfl
theorem lwe121 : lw_at 121 = [Cond.code yJxa1e45_init_da8c8 cJxa1e45_init_da8c8 1 none] := rfl
theorem lwe122 : lw_at 122 = [Cond.methodLink RJxa1e45 1 objectInit] := rfl
theorem lwe123 : lw_at 123 = [Cond.fieldLink RJx4a65c 39 "java/util/ArrayList" "DEFAULTCAPACITY_EMPTY_ELEMENTDATA" "[Ljava/lang/Object;"] := rfl
theorem lwe124 : lw_at 124 = [Cond.fieldLink RJx4a65c 9 "java/util/ArrayList" "elementData" "[Ljava/lang/Object;"] := rfl
theorem lwe125 : lw_at 125 = [Cond.fieldLink RJx4a65c 48 "java/util/ArrayList" "size" "I"] := rfl
theorem lwe126 : lw_at 126 = [Cond.fieldLink RJxc12de 7 "java/util/AbstractList" "modCount" "I"] := rfl
theorem lwe127 : lw_at 127 = [Cond.fieldLink RJx4a65c 63 "java/util/ArrayList" "modCount" "I"] := rfl
theorem lwe128 : lw_at 128 = [Cond.sameField "java/util/ArrayList" "java/util/AbstractList" "modCount" "I"] := rfl
theorem lwe129 : lw_at 129 = [Cond.classLink RX7 32 RX6] := rfl
theorem lwe130 : lw_at 130 = [Cond.instantiable RX6 3] := rfl
theorem lwe131 : lw_at 131 = [Cond.instanceMethod yX6_init] := rfl
theorem lwe132 : lw_at 132 = [Cond.code yX6_init cX6_init 1 none] := rfl
theorem lwe133 : lw_at 133 = [Cond.methodLink RX6 1 objectInit] := rfl
theorem lwe134 : lw_at 134 = [Cond.classLink RX6 7 RX3] := rfl
theorem lwe135 : lw_at 135 = [Cond.instantiable RX3 3] := rfl
theorem lwe136 : lw_at 136 = [Cond.instanceMethod yX3_init] := rfl
theorem lwe137 : lw_at 137 = [Cond.code yX3_init cX3_init 1 none] := rfl
theorem lwe138 : lw_at 138 = [Cond.methodLink RX3 1 objectInit] := rfl
theorem lwe139 : lw_at 139 = [Cond.fieldLink RX3 9 "Towmaster$Page" "notes" "[I"] := rfl
theorem lwe140 : lw_at 140 = [Cond.fieldLink RX6 41 "Towmaster$Page" "notes" "[I"] := rfl
theorem lwe141 : lw_at 141 = [Cond.fieldLink RX3 13 "Towmaster$Page" "used" "I"] := rfl
theorem lwe142 : lw_at 142 = [Cond.fieldLink RX6 38 "Towmaster$Page" "used" "I"] := rfl
theorem lwe143 : lw_at 143 = [Cond.fieldLink RX6 27 "Towmaster$Page" "next" "LTowmaster$Page;"] := rfl
theorem lwe144 : lw_at 144 = [Cond.arrayClass .int] := rfl
theorem lwe145 : lw_at 145 = [Cond.fieldLink RX6 10 "Towmaster$Story" "first" "LTowmaster$Page;"] := rfl
theorem lwe146 : lw_at 146 = [Cond.fieldLink RX6 16 "Towmaster$Story" "last" "LTowmaster$Page;"] := rfl
theorem lwe147 : lw_at 147 = [Cond.fieldLink RX6 19 "Towmaster$Story" "noteCount" "I"] := rfl
theorem lwe148 : lw_at 148 = [Cond.classLink RX7 39 RX5] := rfl
theorem lwe149 : lw_at 149 = [Cond.instantiable RX5 13] := rfl
theorem lwe150 : lw_at 150 = [Cond.methodLink RX7 41 yX5_init] := rfl
theorem lwe151 : lw_at 151 = [Cond.instanceMethod yX5_init] := rfl
theorem lwe152 : lw_at 152 = [Cond.code yX5_init cX5_init 2 none] := rfl
theorem lwe153 : lw_at 153 = [Cond.methodLink RX5 1 objectInit] := rfl
theorem lwe154 : lw_at 154 = [Cond.fieldLink RX5 19 "Towmaster$Section" "number" "I"] := rfl
theorem lwe155 : lw_at 155 = [Cond.fieldLink RX7 463 "Towmaster$Section" "number" "I"] := rfl
theorem lwe156 : lw_at 156 = [Cond.fieldLink RX5 7 "Towmaster$Section" "depth" "I"] := rfl
theorem lwe157 : lw_at 157 = [Cond.fieldLink RX7 73 "Towmaster$Section" "depth" "I"] := rfl
theorem lwe158 : lw_at 158 = [Cond.fieldLink RX5 53 "Towmaster$Section" "ice" "I"] := rfl
theorem lwe159 : lw_at 159 = [Cond.fieldLink RX7 87 "Towmaster$Section" "ice" "I"] := rfl
theorem lwe160 : lw_at 160 = [Cond.fieldLink RX7 90 "Towmaster$Section" "isShut" "Z"] := rfl
theorem lwe161 : lw_at 161 = [Cond.fieldLink RX5 22 "Towmaster$Section" "isLock" "Z"] := rfl
theorem lwe162 : lw_at 162 = [Cond.fieldLink RX7 442 "Towmaster$Section" "isLock" "Z"] := rfl
theorem lwe163 : lw_at 163 = [Cond.fieldLink RX5 13 "Towmaster$Section" "hours" "I"] := rfl
theorem lwe164 : lw_at 164 = [Cond.fieldLink RX5 16 "Towmaster$Section" "width" "I"] := rfl
theorem lwe165 : lw_at 165 = [Cond.fieldLink RX7 495 "Towmaster$Section" "width" "I"] := rfl
theorem lwe166 : lw_at 166 = [Cond.fieldLink RX5 26 "Towmaster$Section" "isBend" "Z"] := rfl
theorem lwe167 : lw_at 167 = [Cond.fieldLink RX7 482 "Towmaster$Section" "isBend" "Z"] := rfl
theorem lwe168 : lw_at 168 = [Cond.fieldLink RX5 29 "Towmaster$Section" "chamber" "I"] := rfl
theorem lwe169 : lw_at 169 = [Cond.fieldLink RX5 32 "Towmaster$Section" "turns" "I"] := rfl
theorem lwe170 : lw_at 170 = [Cond.fieldLink RX7 508 "Towmaster$Section" "turns" "I"] := rfl
theorem lwe171 : lw_at 171 = [Cond.fieldLink RX5 35 "Towmaster$Section" "hasHelper" "Z"] := rfl
theorem lwe172 : lw_at 172 = [Cond.fieldLink RX5 38 "Towmaster$Section" "isTurnUp" "Z"] := rfl
theorem lwe173 : lw_at 173 = [Cond.fieldLink RX7 498 "Towmaster$Section" "isTurnUp" "Z"] := rfl
theorem lwe174 : lw_at 174 = [Cond.fieldLink RX5 41 "Towmaster$Section" "entriesOfTurn" "I"] := rfl
theorem lwe175 : lw_at 175 = [Cond.fieldLink RX7 505 "Towmaster$Section" "entriesOfTurn" "I"] := rfl
theorem lwe176 : lw_at 176 = [Cond.methodLink RX7 44 yJx4a65c_add_9ea2d] := rfl
theorem lwe177 : lw_at 177 = [Cond.instanceMethod yJx4a65c_add_9ea2d] := rfl
theorem lwe178 : lw_at 178 = [Cond.selects RJx4a65c yJx4a65c_add_9ea2d yJx4a65c_add_9ea2d] := rfl
theorem lwe179 : lw_at 179 = [Cond.code yJx4a65c_add_9ea2d cJx4a65c_add_9ea2d 2 (some .boolean)] := rfl
theorem lwe180 : lw_at 180 = [Cond.methodLink RJx4a65c 131 yJx4a65c_add_72be8] := rfl
theorem lwe181 : lw_at 181 = [Cond.instanceMethod yJx4a65c_add_72be8] := rfl
theorem lwe182 : lw_at 182 = [Cond.code yJx4a65c_add_72be8 cJx4a65c_add_72be8 4 none] := rfl
theorem lwe183 : lw_at 183 = [Cond.methodLink RJx4a65c 129 yJx4a65c_grow_d5877] := rfl
theorem lwe184 : lw_at 184 = [Cond.instanceMethod yJx4a65c_grow_d5877] := rfl
theorem lwe185 : lw_at 185 = [Cond.code yJx4a65c_grow_d5877 cJx4a65c_grow_d5877 1 (some (.array (.object "java/lang/Object")))] := rfl
theorem lwe186 : lw_at 186 = [Cond.methodLink RJx4a65c 69 yJx4a65c_grow_92f84] := rfl
theorem lwe187 : lw_at 187 = [Cond.instanceMethod yJx4a65c_grow_92f84] := rfl
theorem lwe188 : lw_at 188 = [Cond.code yJx4a65c_grow_92f84 cJx4a65c_grow_92f84 4 (some (.array (.object "java/lang/Object")))] := rfl
theorem lwe189 : lw_at 189 = [Cond.methodLink RJx4a65c 73 yJ8_newLength_cabcc] := rfl
theorem lwe190 : lw_at 190 = [Cond.static yJ8_newLength_cabcc] := rfl
theorem lwe191 : lw_at 191 = [Cond.code yJ8_newLength_cabcc cJ8_newLength_cabcc 4 (some .int)] := rfl
theorem lwe192 : lw_at 192 = [Cond.methodLink RJ8 194 Lib.Math.max.name] := rfl
theorem lwe193 : lw_at 193 = [Cond.static Lib.Math.max.name] := rfl
theorem lwe194 : lw_at 194 = [Cond.code Lib.Math.max.name Lib.Math.max.code 2 (some .int)] := rfl
theorem lwe195 : lw_at 195 = [Cond.constant RJ8 200 (2147483639)] := rfl
theorem lwe196 : lw_at 196 = [Cond.methodLink RJ8 201 yJ8_hugeLength_7cf53] := rfl
theorem lwe197 : lw_at 197 = [Cond.static yJ8_hugeLength_7cf53] := rfl
theorem lwe198 : lw_at 198 = [Cond.code yJ8_hugeLength_7cf53 cJ8_hugeLength_7cf53 3 (some .int)] := rfl
theorem lwe199 : lw_at 199 = [Cond.methodLink RJx4a65c 66 yJ7_copyOf_1904c] := rfl
theorem lwe200 : lw_at 200 = [Cond.static yJ7_copyOf_1904c] := rfl
theorem lwe201 : lw_at 201 = [Cond.code yJ7_copyOf_1904c cJ7_copyOf_1904c 2 (some (.array (.object "java/lang/Object")))] := rfl
theorem lwe202 : lw_at 202 = [Cond.methodLink RJ7 86 ⟨"java/lang/Object", "getClass", "()Ljava/lang/Class;"⟩] := rfl
theorem lwe203 : lw_at 203 = [Cond.instanceMethod ⟨"java/lang/Object", "getClass", "()Ljava/lang/Class;"⟩] := rfl
theorem lwe204 : lw_at 204 = [Cond.native ⟨"java/lang/Object", "getClass", "()Ljava/lang/Class;"⟩] := rfl
theorem lwe205 : lw_at 205 = [Cond.methodLink RJ7 300 yJ7_copyOf_6403c] := rfl
theorem lwe206 : lw_at 206 = [Cond.static yJ7_copyOf_6403c] := rfl
theorem lwe207 : lw_at 207 = [Cond.code yJ7_copyOf_6403c cJ7_copyOf_6403c 4 (some (.array (.object "java/lang/Object")))] := rfl
theorem lwe208 : lw_at 208 = [Cond.classLink RJ7 110 "[Ljava/lang/Object;"] := rfl
theorem lwe209 : lw_at 209 = [Cond.classLink RJ7 2 "java/lang/Object"] := rfl
theorem lwe210 : lw_at 210 = [Cond.methodLink RJ7 304 Lib.Math.min.name] := rfl
theorem lwe211 : lw_at 211 = [Cond.static Lib.Math.min.name] := rfl
theorem lwe212 : lw_at 212 = [Cond.code Lib.Math.min.name Lib.Math.min.code 2 (some .int)] := rfl
theorem lwe213 : lw_at 213 = [Cond.methodLink RJ7 150 arraycopyName] := rfl
theorem lwe214 : lw_at 214 = [Cond.static arraycopyName] := rfl
theorem lwe215 : lw_at 215 = [Cond.native arraycopyName] := rfl
theorem lwe216 : lw_at 216 = [Cond.methodLink RJx4a65c 79 Lib.Math.max.name] := rfl
theorem lwe217 : lw_at 217 = [Cond.classLink RJx4a65c 7 "java/lang/Object"] := rfl
theorem lwe218 : lw_at 218 = [Cond.classLink RX7 48 RX4] := rfl
theorem lwe219 : lw_at 219 = [Cond.instantiable RX4 6] := rfl
theorem lwe220 : lw_at 220 = [Cond.methodLink RX7 50 yX4_init] := rfl
theorem lwe221 : lw_at 221 = [Cond.instanceMethod yX4_init] := rfl
theorem lwe222 : lw_at 222 = [Cond.code yX4_init cX4_init 5 none] := rfl
theorem lwe223 : lw_at 223 = [Cond.methodLink RX4 3 objectInit] := rfl
theorem lwe224 : lw_at 224 = [Cond.classLink RX4 15 RJx4a65c] := rfl
theorem lwe225 : lw_at 225 = [Cond.methodLink RX4 17 yJx4a65c_init_da8c8] := rfl
theorem lwe226 : lw_at 226 = [Cond.fieldLink RX4 22 "Towmaster$Row" "boat" "I"] := rfl
theorem lwe227 : lw_at 227 = [Cond.fieldLink RX7 511 "Towmaster$Row" "boat" "I"] := rfl
theorem lwe228 : lw_at 228 = [Cond.fieldLink RX4 25 "Towmaster$Row" "point" "I"] := rfl
theorem lwe229 : lw_at 229 = [Cond.fieldLink RX0 31 "Towmaster$Row" "point" "I"] := rfl
theorem lwe230 : lw_at 230 = [Cond.fieldLink RX7 514 "Towmaster$Row" "point" "I"] := rfl
theorem lwe231 : lw_at 231 = [Cond.fieldLink RX4 28 "Towmaster$Row" "tier" "I"] := rfl
theorem lwe232 : lw_at 232 = [Cond.fieldLink RX7 361 "Towmaster$Row" "tier" "I"] := rfl
theorem lwe233 : lw_at 233 = [Cond.fieldLink RX4 31 "Towmaster$Row" "room" "I"] := rfl
theorem lwe234 : lw_at 234 = [Cond.fieldLink RX7 105 "Towmaster$Row" "room" "I"] := rfl
theorem lwe235 : lw_at 235 = [Cond.fieldLink RX4 9 "Towmaster$Row" "places" "I"] := rfl
theorem lwe236 : lw_at 236 = [Cond.fieldLink RX7 235 "Towmaster$Row" "places" "I"] := rfl
theorem lwe237 : lw_at 237 = [Cond.fieldLink RX4 18 "Towmaster$Row" "barges" "Ljava/util/ArrayList;"] := rfl
theorem lwe240 : lw_at 240 = [Cond.fieldLink RX7 10 "Towmaster" "sections" "Ljava/util/ArrayList;"] := rfl
theorem lwe241 : lw_at 241 = [Cond.fieldLink RX7 16 "Towmaster" "tiers" "Ljava/util/ArrayList;"] := rfl
theorem lwe242 : lw_at 242 = [Cond.fieldLink RX7 19 "Towmaster" "barges" "Ljava/util/ArrayList;"] := rfl
theorem lwe243 : lw_at 243 = [Cond.fieldLink RX7 22 "Towmaster" "contracts" "Ljava/util/ArrayList;"] := rfl
theorem lwe244 : lw_at 244 = [Cond.fieldLink RX7 25 "Towmaster" "boats" "Ljava/util/ArrayList;"] := rfl
theorem lwe245 : lw_at 245 = [Cond.fieldLink RX7 28 "Towmaster" "loadedInHour" "[I"] := rfl
theorem lwe246 : lw_at 246 = [Cond.fieldLink RX7 35 "Towmaster" "story" "LTowmaster$Story;"] := rfl
theorem lwe247 : lw_at 247 = [Cond.fieldLink RX7 193 "Towmaster" "hour" "I"] := rfl
theorem lwe248 : lw_at 248 = [Cond.fieldLink RX7 81 "Towmaster" "level" "I"] := rfl
theorem lwe249 : lw_at 249 = [Cond.fieldLink RX7 84 "Towmaster" "dailyFall" "I"] := rfl
theorem lwe250 : lw_at 250 = [Cond.fieldLink RX7 94 "Towmaster" "isFoggy" "Z"] := rfl
theorem lwe251 : lw_at 251 = [Cond.fieldLink RX7 258 "Towmaster" "shiftingCost" "I"] := rfl
theorem lwe252 : lw_at 252 = [Cond.fieldLink RX7 207 "Towmaster" "cleaningCost" "I"] := rfl
theorem lwe253 : lw_at 253 = [Cond.fieldLink RX7 229 "Towmaster" "fuelCost" "I"] := rfl
theorem lwe254 : lw_at 254 = [Cond.methodLink RL 149 yX7_fog] := rfl
theorem lwe255 : lw_at 255 = [Cond.instanceMethod yX7_fog] := rfl
theorem lwe256 : lw_at 256 = [Cond.selects RX7 yX7_fog yX7_fog] := rfl
theorem lwe257 : lw_at 257 = [Cond.code yX7_fog cX7_fog 3 (some .boolean)] := rfl
theorem lwe258 : lw_at 258 = [Cond.methodLink RL 124 yL_reach] := rfl
theorem lwe259 : lw_at 259 = [Cond.static yL_reach] := rfl
theorem lwe260 : lw_at 260 = [Cond.codeWith yL_reach cL_reach 7 (some .int) [(0, 11, 14, 13), (0, 11, 18, 15), (0, 11, 22, 17)]] := rfl
theorem lwe261 : lw_at 261 = [Cond.classLink RL 13 "java/lang/IndexOutOfBoundsException"] := rfl
theorem lwe262 : lw_at 262 = [Cond.classLink RL 15 "java/lang/IllegalArgumentException"] := rfl
theorem lwe263 : lw_at 263 = [Cond.classLink RL 17 "java/lang/IllegalStateException"] := rfl
theorem lwe264 : lw_at 264 = [Cond.methodLink RL 7 yX7_reach] := rfl
theorem lwe265 : lw_at 265 = [Cond.instanceMethod yX7_reach] := rfl
theorem lwe266 : lw_at 266 = [Cond.selects RX7 yX7_reach yX7_reach] := rfl
theorem lwe267 : lw_at 267 = [Cond.code yX7_reach cX7_reach 7 none] := rfl
theorem lwe268 : lw_at 268 = [Cond.methodLink RX7 53 yX7_needSection] := rfl
theorem lwe269 : lw_at 269 = [Cond.instanceMethod yX7_needSection] := rfl
theorem lwe270 : lw_at 270 = [Cond.code yX7_needSection cX7_needSection 2 (some (.object "Towmaster$Section"))] := rfl
theorem lwe271 : lw_at 271 = [Cond.methodLink RX7 108 yJx4a65c_size_8abf5] := rfl
theorem lwe272 : lw_at 272 = [Cond.instanceMethod yJx4a65c_size_8abf5] := rfl
theorem lwe273 : lw_at 273 = [Cond.selects RJx4a65c yJx4a65c_size_8abf5 yJx4a65c_size_8abf5] := rfl
theorem lwe274 : lw_at 274 = [Cond.code yJx4a65c_size_8abf5 cJx4a65c_size_8abf5 1 (some .int)] := rfl
theorem lwe275 : lw_at 275 = [Cond.classLink RX7 347 "java/lang/IndexOutOfBoundsException"] := rfl
theorem lwe276 : lw_at 276 = [Cond.methodLink RX7 312 yJx4a65c_get_915e3] := rfl
theorem lwe277 : lw_at 277 = [Cond.instanceMethod yJx4a65c_get_915e3] := rfl
theorem lwe278 : lw_at 278 = [Cond.selects RJx4a65c yJx4a65c_get_915e3 yJx4a65c_get_915e3] := rfl
theorem lwe279 : lw_at 279 = [Cond.code yJx4a65c_get_915e3 cJx4a65c_get_915e3 2 (some (.object "java/lang/Object"))] := rfl
theorem lwe280 : lw_at 280 = [Cond.methodLink RJx4a65c 118 yJ15_checkIndex_7cf53] := rfl
theorem lwe281 : lw_at 281 = [Cond.static yJ15_checkIndex_7cf53] := rfl
theorem lwe282 : lw_at 282 = [Cond.code yJ15_checkIndex_7cf53 cJ15_checkIndex_7cf53 2 (some .int)] := rfl
theorem lwe283 : lw_at 283 = [Cond.methodLink RJ15 105 yJ3_checkIndex_8e157] := rfl
theorem lwe284 : lw_at 284 = [Cond.static yJ3_checkIndex_8e157] := rfl
theorem lwe285 : lw_at 285 = [Cond.code yJ3_checkIndex_8e157 cJ3_checkIndex_8e157 3 (some .int)] := rfl
theorem lwe286 : lw_at 286 = [Cond.methodLink RJx4a65c 123 yJx4a65c_elementData_915e3] := rfl
theorem lwe287 : lw_at 287 = [Cond.instanceMethod yJx4a65c_elementData_915e3] := rfl
theorem lwe288 : lw_at 288 = [Cond.selects RJx4a65c yJx4a65c_elementData_915e3 yJx4a65c_elementData_915e3] := rfl
theorem lwe289 : lw_at 289 = [Cond.code yJx4a65c_elementData_915e3 cJx4a65c_elementData_915e3 2 (some (.object "java/lang/Object"))] := rfl
theorem lwe290 : lw_at 290 = [Cond.methodLink RX7 57 yX7_needWithin] := rfl
theorem lwe291 : lw_at 291 = [Cond.static yX7_needWithin] := rfl
theorem lwe292 : lw_at 292 = [Cond.code yX7_needWithin cX7_needWithin 3 none] := rfl
theorem lwe293 : lw_at 293 = [Cond.classLink RX7 408 "java/lang/IllegalArgumentException"] := rfl
theorem lwe294 : lw_at 294 = [Cond.methodLink RX7 61 yX7_needNoBoatIn] := rfl
theorem lwe295 : lw_at 295 = [Cond.instanceMethod yX7_needNoBoatIn] := rfl
theorem lwe296 : lw_at 296 = [Cond.code yX7_needNoBoatIn cX7_needNoBoatIn 2 none] := rfl
theorem lwe297 : lw_at 297 = [Cond.methodLink RX7 429 yX7_isBusy] := rfl
theorem lwe298 : lw_at 298 = [Cond.instanceMethod yX7_isBusy] := rfl
theorem lwe299 : lw_at 299 = [Cond.code yX7_isBusy cX7_isBusy 3 (some .boolean)] := rfl
theorem lwe300 : lw_at 300 = [Cond.classLink RX7 210 "Towmaster$Boat"] := rfl
theorem lwe301 : lw_at 301 = [Cond.methodLink RX7 77 yX7_needState] := rfl
theorem lwe302 : lw_at 302 = [Cond.static yX7_needState] := rfl
theorem lwe303 : lw_at 303 = [Cond.code yX7_needState cX7_needState 1 none] := rfl
theorem lwe304 : lw_at 304 = [Cond.classLink RX7 171 "java/lang/IllegalStateException"] := rfl
theorem lwe305 : lw_at 305 = [Cond.methodLink RX7 65 yX5_becomeReach] := rfl
theorem lwe306 : lw_at 306 = [Cond.instanceMethod yX5_becomeReach] := rfl
theorem lwe307 : lw_at 307 = [Cond.selects RX5 yX5_becomeReach yX5_becomeReach] := rfl
theorem lwe308 : lw_at 308 = [Cond.code yX5_becomeReach cX5_becomeReach 5 none] := rfl
theorem lwe309 : lw_at 309 = [Cond.methodLink RL 134 yL_lock] := rfl
theorem lwe310 : lw_at 310 = [Cond.static yL_lock] := rfl
theorem lwe311 : lw_at 311 = [Cond.codeWith yL_lock cL_lock 6 (some .int) [(0, 9, 12, 13), (0, 9, 16, 15), (0, 9, 20, 17)]] := rfl
theorem lwe312 : lw_at 312 = [Cond.methodLink RL 19 yX7_lock] := rfl
theorem lwe313 : lw_at 313 = [Cond.instanceMethod yX7_lock] := rfl
theorem lwe314 : lw_at 314 = [Cond.selects RX7 yX7_lock yX7_lock] := rfl
theorem lwe315 : lw_at 315 = [Cond.code yX7_lock cX7_lock 6 none] := rfl
theorem lwe316 : lw_at 316 = [Cond.methodLink RX7 69 yX5_becomeLock] := rfl
theorem lwe317 : lw_at 317 = [Cond.instanceMethod yX5_becomeLock] := rfl
theorem lwe318 : lw_at 318 = [Cond.selects RX5 yX5_becomeLock yX5_becomeLock] := rfl
theorem lwe319 : lw_at 319 = [Cond.code yX5_becomeLock cX5_becomeLock 4 none] := rfl
theorem lwe320 : lw_at 320 = [Cond.methodLink RL 138 yL_dredge] := rfl
theorem lwe321 : lw_at 321 = [Cond.static yL_dredge] := rfl
theorem lwe322 : lw_at 322 = [Cond.codeWith yL_dredge cL_dredge 5 (some .int) [(0, 10, 13, 13), (0, 10, 17, 15), (0, 10, 21, 17)]] := rfl
theorem lwe323 : lw_at 323 = [Cond.methodLink RL 23 yX7_dredge] := rfl
theorem lwe324 : lw_at 324 = [Cond.instanceMethod yX7_dredge] := rfl
theorem lwe325 : lw_at 325 = [Cond.selects RX7 yX7_dredge yX7_dredge] := rfl
theorem lwe326 : lw_at 326 = [Cond.code yX7_dredge cX7_dredge 4 (some .int)] := rfl
theorem lwe327 : lw_at 327 = [Cond.methodLink RL 142 yL_stage] := rfl
theorem lwe328 : lw_at 328 = [Cond.static yL_stage] := rfl
theorem lwe329 : lw_at 329 = [Cond.codeWith yL_stage cL_stage 5 (some .int) [(0, 10, 13, 15)]] := rfl
theorem lwe330 : lw_at 330 = [Cond.methodLink RL 27 yX7_stage] := rfl
theorem lwe331 : lw_at 331 = [Cond.instanceMethod yX7_stage] := rfl
theorem lwe332 : lw_at 332 = [Cond.selects RX7 yX7_stage yX7_stage] := rfl
theorem lwe333 : lw_at 333 = [Cond.code yX7_stage cX7_stage 4 (some .int)] := rfl
theorem lwe334 : lw_at 334 = [Cond.methodLink RL 145 yL_weather] := rfl
theorem lwe335 : lw_at 335 = [Cond.static yL_weather] := rfl
theorem lwe336 : lw_at 336 = [Cond.codeWith yL_weather cL_weather 6 (some .int) [(0, 12, 15, 13), (0, 12, 19, 15)]] := rfl
theorem lwe337 : lw_at 337 = [Cond.methodLink RL 30 yX7_weather] := rfl
theorem lwe338 : lw_at 338 = [Cond.instanceMethod yX7_weather] := rfl
theorem lwe339 : lw_at 339 = [Cond.selects RX7 yX7_weather yX7_weather] := rfl
theorem lwe340 : lw_at 340 = [Cond.code yX7_weather cX7_weather 6 (some .int)] := rfl
theorem lwe341 : lw_at 341 = [Cond.methodLink RL 154 yL_bank] := rfl
theorem lwe342 : lw_at 342 = [Cond.static yL_bank] := rfl
theorem lwe343 : lw_at 343 = [Cond.codeWith yL_bank cL_bank 6 (some .int) [(0, 12, 15, 13), (0, 12, 19, 15), (0, 12, 23, 17)]] := rfl
theorem lwe344 : lw_at 344 = [Cond.methodLink RL 34 yX7_bank] := rfl
theorem lwe345 : lw_at 345 = [Cond.instanceMethod yX7_bank] := rfl
theorem lwe346 : lw_at 346 = [Cond.selects RX7 yX7_bank yX7_bank] := rfl
theorem lwe347 : lw_at 347 = [Cond.code yX7_bank cX7_bank 6 (some .int)] := rfl
theorem lwe352 : lw_at 352 = [Cond.methodLink RX7 97 yX7_needTier] := rfl
theorem lwe353 : lw_at 353 = [Cond.instanceMethod yX7_needTier] := rfl
theorem lwe354 : lw_at 354 = [Cond.code yX7_needTier cX7_needTier 4 (some (.object "Towmaster$Row"))] := rfl
theorem lwe355 : lw_at 355 = [Cond.methodLink RX7 128 yX7_needPoint] := rfl
theorem lwe356 : lw_at 356 = [Cond.static yX7_needPoint] := rfl
theorem lwe357 : lw_at 357 = [Cond.code yX7_needPoint cX7_needPoint 1 none] := rfl
theorem lwe358 : lw_at 358 = [Cond.methodLink RX7 261 yX7_needIndex] := rfl
theorem lwe359 : lw_at 359 = [Cond.static yX7_needIndex] := rfl
theorem lwe360 : lw_at 360 = [Cond.code yX7_needIndex cX7_needIndex 2 none] := rfl
theorem lwe361 : lw_at 361 = [Cond.methodLink RX7 101 yX4_size] := rfl
theorem lwe362 : lw_at 362 = [Cond.instanceMethod yX4_size] := rfl
theorem lwe363 : lw_at 363 = [Cond.selects RX4 yX4_size yX4_size] := rfl
theorem lwe364 : lw_at 364 = [Cond.code yX4_size cX4_size 1 (some .int)] := rfl
theorem lwe365 : lw_at 365 = [Cond.methodLink RX4 34 yJx4a65c_size_8abf5] := rfl
theorem lwe366 : lw_at 366 = [Cond.methodLink RL 158 yL_barge] := rfl
theorem lwe367 : lw_at 367 = [Cond.static yL_barge] := rfl
theorem lwe368 : lw_at 368 = [Cond.codeWith yL_barge cL_barge 6 (some .int) [(0, 12, 15, 13), (0, 12, 19, 15), (0, 12, 23, 17)]] := rfl
theorem lwe369 : lw_at 369 = [Cond.methodLink RL 38 yX7_barge] := rfl
theorem lwe370 : lw_at 370 = [Cond.instanceMethod yX7_barge] := rfl
theorem lwe371 : lw_at 371 = [Cond.selects RX7 yX7_barge yX7_barge] := rfl
theorem lwe372 : lw_at 372 = [Cond.code yX7_barge cX7_barge 6 (some .int)] := rfl
theorem lwe373 : lw_at 373 = [Cond.methodLink RX7 109 yX4_hasRoom] := rfl
theorem lwe374 : lw_at 374 = [Cond.instanceMethod yX4_hasRoom] := rfl
theorem lwe375 : lw_at 375 = [Cond.selects RX4 yX4_hasRoom yX4_hasRoom] := rfl
theorem lwe376 : lw_at 376 = [Cond.code yX4_hasRoom cX4_hasRoom 1 (some .boolean)] := rfl
theorem lwe377 : lw_at 377 = [Cond.classLink RX7 113 RX0] := rfl
theorem lwe378 : lw_at 378 = [Cond.instantiable RX0 6] := rfl
theorem lwe379 : lw_at 379 = [Cond.methodLink RX7 115 yX0_init] := rfl
theorem lwe380 : lw_at 380 = [Cond.instanceMethod yX0_init] := rfl
theorem lwe381 : lw_at 381 = [Cond.code yX0_init cX0_init 4 none] := rfl
theorem lwe382 : lw_at 382 = [Cond.methodLink RX0 3 objectInit] := rfl
theorem lwe383 : lw_at 383 = [Cond.fieldLink RX0 15 "Towmaster$Barge" "number" "I"] := rfl
theorem lwe384 : lw_at 384 = [Cond.fieldLink RX7 122 "Towmaster$Barge" "number" "I"] := rfl
theorem lwe385 : lw_at 385 = [Cond.fieldLink RX0 18 "Towmaster$Barge" "type" "I"] := rfl
theorem lwe386 : lw_at 386 = [Cond.fieldLink RX0 21 "Towmaster$Barge" "row" "LTowmaster$Row;"] := rfl
theorem lwe387 : lw_at 387 = [Cond.fieldLink RX4 59 "Towmaster$Barge" "row" "LTowmaster$Row;"] := rfl
theorem lwe388 : lw_at 388 = [Cond.fieldLink RX7 200 "Towmaster$Barge" "row" "LTowmaster$Row;"] := rfl
theorem lwe389 : lw_at 389 = [Cond.fieldLink RX0 54 "Towmaster$Barge" "cargo" "I"] := rfl
theorem lwe390 : lw_at 390 = [Cond.fieldLink RX4 66 "Towmaster$Barge" "cargo" "I"] := rfl
theorem lwe391 : lw_at 391 = [Cond.fieldLink RX7 165 "Towmaster$Barge" "cargo" "I"] := rfl
theorem lwe392 : lw_at 392 = [Cond.fieldLink RX0 50 "Towmaster$Barge" "deal" "LTowmaster$Contract;"] := rfl
theorem lwe393 : lw_at 393 = [Cond.fieldLink RX7 181 "Towmaster$Barge" "deal" "LTowmaster$Contract;"] := rfl
theorem lwe394 : lw_at 394 = [Cond.fieldLink RX0 9 "Towmaster$Barge" "usedFor" "I"] := rfl
theorem lwe395 : lw_at 395 = [Cond.fieldLink RX7 188 "Towmaster$Barge" "usedFor" "I"] := rfl
theorem lwe396 : lw_at 396 = [Cond.methodLink RX7 118 yX4_append] := rfl
theorem lwe397 : lw_at 397 = [Cond.instanceMethod yX4_append] := rfl
theorem lwe398 : lw_at 398 = [Cond.selects RX4 yX4_append yX4_append] := rfl
theorem lwe399 : lw_at 399 = [Cond.code yX4_append cX4_append 2 none] := rfl
theorem lwe400 : lw_at 400 = [Cond.methodLink RX4 55 yJx4a65c_add_9ea2d] := rfl
theorem lwe401 : lw_at 401 = [Cond.methodLink RX7 125 yX6_tell] := rfl
theorem lwe402 : lw_at 402 = [Cond.instanceMethod yX6_tell] := rfl
theorem lwe403 : lw_at 403 = [Cond.selects RX6 yX6_tell yX6_tell] := rfl
theorem lwe404 : lw_at 404 = [Cond.code yX6_tell cX6_tell 5 none] := rfl
theorem lwe405 : lw_at 405 = [Cond.methodLink RX6 23 yX3_isFull] := rfl
theorem lwe406 : lw_at 406 = [Cond.instanceMethod yX3_isFull] := rfl
theorem lwe407 : lw_at 407 = [Cond.selects RX3 yX3_isFull yX3_isFull] := rfl
theorem lwe408 : lw_at 408 = [Cond.code yX3_isFull cX3_isFull 1 (some .boolean)] := rfl
theorem lwe409 : lw_at 409 = [Cond.methodLink RX6 30 yX3_write] := rfl
theorem lwe410 : lw_at 410 = [Cond.instanceMethod yX3_write] := rfl
theorem lwe411 : lw_at 411 = [Cond.selects RX3 yX3_write yX3_write] := rfl
theorem lwe412 : lw_at 412 = [Cond.code yX3_write cX3_write 2 none] := rfl
theorem lwe413 : lw_at 413 = [Cond.methodLink RL 161 yL_contract] := rfl
theorem lwe414 : lw_at 414 = [Cond.static yL_contract] := rfl
theorem lwe415 : lw_at 415 = [Cond.codeWith yL_contract cL_contract 9 (some .int) [(0, 18, 21, 13), (0, 18, 25, 15), (0, 18, 29, 17)]] := rfl
theorem lwe416 : lw_at 416 = [Cond.methodLink RL 41 yX7_contract] := rfl
theorem lwe417 : lw_at 417 = [Cond.instanceMethod yX7_contract] := rfl
theorem lwe418 : lw_at 418 = [Cond.selects RX7 yX7_contract yX7_contract] := rfl
theorem lwe419 : lw_at 419 = [Cond.code yX7_contract cX7_contract 8 (some .int)] := rfl
theorem lwe420 : lw_at 420 = [Cond.methodLink RX7 131 yX7_needArgument] := rfl
theorem lwe421 : lw_at 421 = [Cond.static yX7_needArgument] := rfl
theorem lwe422 : lw_at 422 = [Cond.code yX7_needArgument cX7_needArgument 1 none] := rfl
theorem lwe423 : lw_at 423 = [Cond.classLink RX7 134 RX2] := rfl
theorem lwe424 : lw_at 424 = [Cond.instantiable RX2 11] := rfl
theorem lwe425 : lw_at 425 = [Cond.methodLink RX7 136 yX2_init] := rfl
theorem lwe426 : lw_at 426 = [Cond.instanceMethod yX2_init] := rfl
theorem lwe427 : lw_at 427 = [Cond.code yX2_init cX2_init 8 none] := rfl
theorem lwe428 : lw_at 428 = [Cond.methodLink RX2 1 objectInit] := rfl
theorem lwe429 : lw_at 429 = [Cond.fieldLink RX2 7 "Towmaster$Contract" "number" "I"] := rfl
theorem lwe430 : lw_at 430 = [Cond.fieldLink RX7 139 "Towmaster$Contract" "number" "I"] := rfl
theorem lwe431 : lw_at 431 = [Cond.fieldLink RX2 13 "Towmaster$Contract" "kind" "I"] := rfl
theorem lwe432 : lw_at 432 = [Cond.fieldLink RX0 42 "Towmaster$Contract" "kind" "I"] := rfl
theorem lwe433 : lw_at 433 = [Cond.fieldLink RX7 185 "Towmaster$Contract" "kind" "I"] := rfl
theorem lwe434 : lw_at 434 = [Cond.fieldLink RX2 16 "Towmaster$Contract" "from" "I"] := rfl
theorem lwe435 : lw_at 435 = [Cond.fieldLink RX7 144 "Towmaster$Contract" "from" "I"] := rfl
theorem lwe436 : lw_at 436 = [Cond.fieldLink RX2 19 "Towmaster$Contract" "to" "I"] := rfl
theorem lwe437 : lw_at 437 = [Cond.fieldLink RX7 147 "Towmaster$Contract" "to" "I"] := rfl
theorem lwe438 : lw_at 438 = [Cond.fieldLink RX2 22 "Towmaster$Contract" "notLoaded" "I"] := rfl
theorem lwe439 : lw_at 439 = [Cond.fieldLink RX7 168 "Towmaster$Contract" "notLoaded" "I"] := rfl
theorem lwe440 : lw_at 440 = [Cond.fieldLink RX2 25 "Towmaster$Contract" "till" "I"] := rfl
theorem lwe441 : lw_at 441 = [Cond.fieldLink RX2 28 "Towmaster$Contract" "rate" "I"] := rfl
theorem lwe442 : lw_at 442 = [Cond.fieldLink RX2 31 "Towmaster$Contract" "inBarges" "I"] := rfl
theorem lwe443 : lw_at 443 = [Cond.fieldLink RX7 389 "Towmaster$Contract" "inBarges" "I"] := rfl
theorem lwe444 : lw_at 444 = [Cond.fieldLink RX2 47 "Towmaster$Contract" "delivered" "I"] := rfl
theorem lwe445 : lw_at 445 = [Cond.fieldLink RX7 392 "Towmaster$Contract" "delivered" "I"] := rfl
theorem lwe446 : lw_at 446 = [Cond.fieldLink RX2 50 "Towmaster$Contract" "paid" "I"] := rfl
theorem lwe447 : lw_at 447 = [Cond.fieldLink RX7 395 "Towmaster$Contract" "paid" "I"] := rfl
theorem lwe448 : lw_at 448 = [Cond.fieldLink RX2 44 "Towmaster$Contract" "diversions" "I"] := rfl
theorem lwe449 : lw_at 449 = [Cond.fieldLink RX7 150 "Towmaster$Contract" "diversions" "I"] := rfl
theorem lwe450 : lw_at 450 = [Cond.methodLink RL 165 yL_divert] := rfl
theorem lwe451 : lw_at 451 = [Cond.static yL_divert] := rfl
theorem lwe452 : lw_at 452 = [Cond.codeWith yL_divert cL_divert 5 (some .int) [(0, 10, 13, 13), (0, 10, 17, 15)]] := rfl
theorem lwe453 : lw_at 453 = [Cond.methodLink RL 45 yX7_divert] := rfl
theorem lwe454 : lw_at 454 = [Cond.instanceMethod yX7_divert] := rfl
theorem lwe455 : lw_at 455 = [Cond.selects RX7 yX7_divert yX7_divert] := rfl
theorem lwe456 : lw_at 456 = [Cond.code yX7_divert cX7_divert 5 (some .int)] := rfl
theorem lwe457 : lw_at 457 = [Cond.methodLink RX7 140 yX7_needContract] := rfl
theorem lwe458 : lw_at 458 = [Cond.instanceMethod yX7_needContract] := rfl
theorem lwe459 : lw_at 459 = [Cond.code yX7_needContract cX7_needContract 2 (some (.object "Towmaster$Contract"))] := rfl
theorem lwe460 : lw_at 460 = [Cond.methodLink RL 168 yL_load] := rfl
theorem lwe461 : lw_at 461 = [Cond.static yL_load] := rfl
theorem lwe462 : lw_at 462 = [Cond.codeWith yL_load cL_load 6 (some .int) [(0, 12, 15, 13), (0, 12, 19, 15), (0, 12, 23, 17)]] := rfl
theorem lwe463 : lw_at 463 = [Cond.methodLink RL 48 yX7_load] := rfl
theorem lwe464 : lw_at 464 = [Cond.instanceMethod yX7_load] := rfl
theorem lwe465 : lw_at 465 = [Cond.selects RX7 yX7_load yX7_load] := rfl
theorem lwe466 : lw_at 466 = [Cond.code yX7_load cX7_load 7 (some .int)] := rfl
theorem lwe467 : lw_at 467 = [Cond.methodLink RX7 153 yX7_needBarge] := rfl
theorem lwe468 : lw_at 468 = [Cond.instanceMethod yX7_needBarge] := rfl
theorem lwe469 : lw_at 469 = [Cond.code yX7_needBarge cX7_needBarge 2 (some (.object "Towmaster$Barge"))] := rfl
theorem lwe470 : lw_at 470 = [Cond.methodLink RX7 157 yX0_isOutermostAt] := rfl
theorem lwe471 : lw_at 471 = [Cond.instanceMethod yX0_isOutermostAt] := rfl
theorem lwe472 : lw_at 472 = [Cond.selects RX0 yX0_isOutermostAt yX0_isOutermostAt] := rfl
theorem lwe473 : lw_at 473 = [Cond.code yX0_isOutermostAt cX0_isOutermostAt 2 (some .boolean)] := rfl
theorem lwe474 : lw_at 474 = [Cond.methodLink RX0 34 yX0_isTiedAt] := rfl
theorem lwe475 : lw_at 475 = [Cond.instanceMethod yX0_isTiedAt] := rfl
theorem lwe476 : lw_at 476 = [Cond.selects RX0 yX0_isTiedAt yX0_isTiedAt] := rfl
theorem lwe477 : lw_at 477 = [Cond.code yX0_isTiedAt cX0_isTiedAt 2 (some .boolean)] := rfl
theorem lwe478 : lw_at 478 = [Cond.methodLink RX0 25 yX4_isTow] := rfl
theorem lwe479 : lw_at 479 = [Cond.instanceMethod yX4_isTow] := rfl
theorem lwe480 : lw_at 480 = [Cond.selects RX4 yX4_isTow yX4_isTow] := rfl
theorem lwe481 : lw_at 481 = [Cond.code yX4_isTow cX4_isTow 1 (some .boolean)] := rfl
theorem lwe482 : lw_at 482 = [Cond.methodLink RX0 38 yX4_behind] := rfl
theorem lwe483 : lw_at 483 = [Cond.instanceMethod yX4_behind] := rfl
theorem lwe484 : lw_at 484 = [Cond.selects RX4 yX4_behind yX4_behind] := rfl
theorem lwe485 : lw_at 485 = [Cond.code yX4_behind cX4_behind 2 (some .int)] := rfl
theorem lwe486 : lw_at 486 = [Cond.methodLink RX4 42 yX4_behindWithout] := rfl
theorem lwe487 : lw_at 487 = [Cond.instanceMethod yX4_behindWithout] := rfl
theorem lwe488 : lw_at 488 = [Cond.selects RX4 yX4_behindWithout yX4_behindWithout] := rfl
theorem lwe489 : lw_at 489 = [Cond.code yX4_behindWithout cX4_behindWithout 5 (some .int)] := rfl
theorem lwe490 : lw_at 490 = [Cond.methodLink RX4 46 yX4_placeOf] := rfl
theorem lwe491 : lw_at 491 = [Cond.instanceMethod yX4_placeOf] := rfl
theorem lwe492 : lw_at 492 = [Cond.selects RX4 yX4_placeOf yX4_placeOf] := rfl
theorem lwe493 : lw_at 493 = [Cond.code yX4_placeOf cX4_placeOf 3 (some .int)] := rfl
theorem lwe494 : lw_at 494 = [Cond.methodLink RX4 38 yJx4a65c_get_915e3] := rfl
theorem lwe495 : lw_at 495 = [Cond.classLink RX4 50 "Towmaster$Barge"] := rfl
theorem lwe496 : lw_at 496 = [Cond.methodLink RX4 52 yX0_bit] := rfl
theorem lwe497 : lw_at 497 = [Cond.instanceMethod yX0_bit] := rfl
theorem lwe498 : lw_at 498 = [Cond.selects RX0 yX0_bit yX0_bit] := rfl
theorem lwe499 : lw_at 499 = [Cond.code yX0_bit cX0_bit 1 (some .int)] := rfl
theorem lwe500 : lw_at 500 = [Cond.methodLink RX7 161 yX0_isFitFor] := rfl
theorem lwe501 : lw_at 501 = [Cond.instanceMethod yX0_isFitFor] := rfl
theorem lwe502 : lw_at 502 = [Cond.selects RX0 yX0_isFitFor yX0_isFitFor] := rfl
theorem lwe503 : lw_at 503 = [Cond.code yX0_isFitFor cX0_isFitFor 2 (some .boolean)] := rfl
theorem lwe504 : lw_at 504 = [Cond.methodLink RX0 47 yX0_isTypeFor] := rfl
theorem lwe505 : lw_at 505 = [Cond.instanceMethod yX0_isTypeFor] := rfl
theorem lwe506 : lw_at 506 = [Cond.code yX0_isTypeFor cX0_isTypeFor 2 (some .boolean)] := rfl
theorem lwe507 : lw_at 507 = [Cond.methodLink RX7 178 yX2_ship] := rfl
theorem lwe508 : lw_at 508 = [Cond.instanceMethod yX2_ship] := rfl
theorem lwe509 : lw_at 509 = [Cond.selects RX2 yX2_ship yX2_ship] := rfl
theorem lwe510 : lw_at 510 = [Cond.code yX2_ship cX2_ship 2 none] := rfl
theorem lwe511 : lw_at 511 = [Cond.methodLink RL 171 yL_unload] := rfl
theorem lwe512 : lw_at 512 = [Cond.static yL_unload] := rfl
theorem lwe513 : lw_at 513 = [Cond.codeWith yL_unload cL_unload 4 (some .int) [(0, 9, 12, 13), (0, 9, 15, 17)]] := rfl
theorem lwe514 : lw_at 514 = [Cond.methodLink RL 51 yX7_unload] := rfl
theorem lwe515 : lw_at 515 = [Cond.instanceMethod yX7_unload] := rfl
theorem lwe516 : lw_at 516 = [Cond.selects RX7 yX7_unload yX7_unload] := rfl
theorem lwe517 : lw_at 517 = [Cond.code yX7_unload cX7_unload 5 (some .int)] := rfl
theorem lwe518 : lw_at 518 = [Cond.methodLink RX7 196 yX2_deliver] := rfl
theorem lwe519 : lw_at 519 = [Cond.instanceMethod yX2_deliver] := rfl
theorem lwe520 : lw_at 520 = [Cond.selects RX2 yX2_deliver yX2_deliver] := rfl
theorem lwe521 : lw_at 521 = [Cond.code yX2_deliver cX2_deliver 5 (some .int)] := rfl
theorem lwe522 : lw_at 522 = [Cond.methodLink RX2 34 Lib.Math.max.name] := rfl
theorem lwe523 : lw_at 523 = [Cond.methodLink RX2 40 Lib.Math.abs.name] := rfl
theorem lwe524 : lw_at 524 = [Cond.static Lib.Math.abs.name] := rfl
theorem lwe525 : lw_at 525 = [Cond.code Lib.Math.abs.name Lib.Math.abs.code 1 (some .int)] := rfl
theorem lwe526 : lw_at 526 = [Cond.methodLink RL 175 yL_clean] := rfl
theorem lwe527 : lw_at 527 = [Cond.static yL_clean] := rfl
theorem lwe528 : lw_at 528 = [Cond.codeWith yL_clean cL_clean 4 (some .int) [(0, 9, 12, 13), (0, 9, 15, 17)]] := rfl
theorem lwe529 : lw_at 529 = [Cond.methodLink RL 55 yX7_clean] := rfl
theorem lwe530 : lw_at 530 = [Cond.instanceMethod yX7_clean] := rfl
theorem lwe531 : lw_at 531 = [Cond.selects RX7 yX7_clean yX7_clean] := rfl
theorem lwe532 : lw_at 532 = [Cond.code yX7_clean cX7_clean 4 (some .int)] := rfl
theorem lwe533 : lw_at 533 = [Cond.methodLink RX7 204 yX4_isTow] := rfl
theorem lwe534 : lw_at 534 = [Cond.methodLink RL 178 yL_boat] := rfl
theorem lwe535 : lw_at 535 = [Cond.static yL_boat] := rfl
theorem lwe536 : lw_at 536 = [Cond.codeWith yL_boat cL_boat 6 (some .int) [(0, 12, 15, 13), (0, 12, 19, 15), (0, 12, 23, 17)]] := rfl
theorem lwe537 : lw_at 537 = [Cond.methodLink RL 58 yX7_boat] := rfl
theorem lwe538 : lw_at 538 = [Cond.instanceMethod yX7_boat] := rfl
theorem lwe539 : lw_at 539 = [Cond.selects RX7 yX7_boat yX7_boat] := rfl
theorem lwe540 : lw_at 540 = [Cond.code yX7_boat cX7_boat 5 (some .int)] := rfl
theorem lwe541 : lw_at 541 = [Cond.instantiable RX1 15] := rfl
theorem lwe542 : lw_at 542 = [Cond.methodLink RX7 212 yX1_init] := rfl
theorem lwe543 : lw_at 543 = [Cond.instanceMethod yX1_init] := rfl
theorem lwe544 : lw_at 544 = [Cond.code yX1_init cX1_init 4 none] := rfl
theorem lwe560 : lw_at 560 = [Cond.methodLink RX1 3 objectInit] := rfl
theorem lwe561 : lw_at 561 = [Cond.classLink RX1 34 RX4] := rfl
theorem lwe562 : lw_at 562 = [Cond.methodLink RX1 36 yX4_init] := rfl
theorem lwe563 : lw_at 563 = [Cond.fieldLink RX1 25 "Towmaster$Boat" "number" "I"] := rfl
theorem lwe564 : lw_at 564 = [Cond.fieldLink RX7 218 "Towmaster$Boat" "number" "I"] := rfl
theorem lwe565 : lw_at 565 = [Cond.fieldLink RX1 28 "Towmaster$Boat" "power" "I"] := rfl
theorem lwe566 : lw_at 566 = [Cond.fieldLink RX7 485 "Towmaster$Boat" "power" "I"] := rfl
theorem lwe567 : lw_at 567 = [Cond.fieldLink RX1 31 "Towmaster$Boat" "hands" "I"] := rfl
theorem lwe568 : lw_at 568 = [Cond.fieldLink RX1 39 "Towmaster$Boat" "tow" "LTowmaster$Row;"] := rfl
theorem lwe569 : lw_at 569 = [Cond.fieldLink RX7 232 "Towmaster$Boat" "tow" "LTowmaster$Row;"] := rfl
theorem lwe570 : lw_at 570 = [Cond.fieldLink RX1 65 "Towmaster$Boat" "fuelLeft" "I"] := rfl
theorem lwe571 : lw_at 571 = [Cond.fieldLink RX7 226 "Towmaster$Boat" "fuelLeft" "I"] := rfl
theorem lwe572 : lw_at 572 = [Cond.fieldLink RX1 47 "Towmaster$Boat" "work" "I"] := rfl
theorem lwe573 : lw_at 573 = [Cond.fieldLink RX7 255 "Towmaster$Boat" "work" "I"] := rfl
theorem lwe574 : lw_at 574 = [Cond.fieldLink RX1 9 "Towmaster$Boat" "point" "I"] := rfl
theorem lwe575 : lw_at 575 = [Cond.fieldLink RX7 238 "Towmaster$Boat" "point" "I"] := rfl
theorem lwe576 : lw_at 576 = [Cond.fieldLink RX1 15 "Towmaster$Boat" "section" "I"] := rfl
theorem lwe577 : lw_at 577 = [Cond.fieldLink RX7 332 "Towmaster$Boat" "section" "I"] := rfl
theorem lwe578 : lw_at 578 = [Cond.fieldLink RX1 43 "Towmaster$Boat" "isGoingUp" "Z"] := rfl
theorem lwe579 : lw_at 579 = [Cond.fieldLink RX7 492 "Towmaster$Boat" "isGoingUp" "Z"] := rfl
theorem lwe580 : lw_at 580 = [Cond.fieldLink RX1 59 "Towmaster$Boat" "hoursLeft" "I"] := rfl
theorem lwe581 : lw_at 581 = [Cond.fieldLink RX7 301 "Towmaster$Boat" "hoursLeft" "I"] := rfl
theorem lwe582 : lw_at 582 = [Cond.fieldLink RX1 18 "Towmaster$Boat" "goal" "I"] := rfl
theorem lwe583 : lw_at 583 = [Cond.fieldLink RX7 275 "Towmaster$Boat" "goal" "I"] := rfl
theorem lwe584 : lw_at 584 = [Cond.fieldLink RX1 62 "Towmaster$Boat" "since" "I"] := rfl
theorem lwe585 : lw_at 585 = [Cond.fieldLink RX7 278 "Towmaster$Boat" "since" "I"] := rfl
theorem lwe586 : lw_at 586 = [Cond.fieldLink RX1 68 "Towmaster$Boat" "agreed" "I"] := rfl
theorem lwe587 : lw_at 587 = [Cond.fieldLink RX1 56 "Towmaster$Boat" "latestCause" "I"] := rfl
theorem lwe588 : lw_at 588 = [Cond.fieldLink RX7 344 "Towmaster$Boat" "latestCause" "I"] := rfl
theorem lwe589 : lw_at 589 = [Cond.fieldLink RX1 21 "Towmaster$Boat" "hoursWaited" "[I"] := rfl
theorem lwe590 : lw_at 590 = [Cond.fieldLink RX7 352 "Towmaster$Boat" "hoursWaited" "[I"] := rfl
theorem lwe591 : lw_at 591 = [Cond.methodLink RX7 214 yX1_standAt] := rfl
theorem lwe592 : lw_at 592 = [Cond.instanceMethod yX1_standAt] := rfl
theorem lwe593 : lw_at 593 = [Cond.selects RX1 yX1_standAt yX1_standAt] := rfl
theorem lwe594 : lw_at 594 = [Cond.code yX1_standAt cX1_standAt 3 none] := rfl
theorem lwe595 : lw_at 595 = [Cond.methodLink RL 181 yL_fuel] := rfl
theorem lwe596 : lw_at 596 = [Cond.static yL_fuel] := rfl
theorem lwe597 : lw_at 597 = [Cond.codeWith yL_fuel cL_fuel 5 (some .int) [(0, 10, 13, 13), (0, 10, 17, 15), (0, 10, 21, 17)]] := rfl
theorem lwe598 : lw_at 598 = [Cond.methodLink RL 61 yX7_fuel] := rfl
theorem lwe599 : lw_at 599 = [Cond.instanceMethod yX7_fuel] := rfl
theorem lwe600 : lw_at 600 = [Cond.selects RX7 yX7_fuel yX7_fuel] := rfl
theorem lwe601 : lw_at 601 = [Cond.code yX7_fuel cX7_fuel 4 (some .int)] := rfl
theorem lwe602 : lw_at 602 = [Cond.methodLink RX7 219 yX7_needBoat] := rfl
theorem lwe603 : lw_at 603 = [Cond.instanceMethod yX7_needBoat] := rfl
theorem lwe604 : lw_at 604 = [Cond.code yX7_needBoat cX7_needBoat 2 (some (.object "Towmaster$Boat"))] := rfl
theorem lwe605 : lw_at 605 = [Cond.methodLink RX7 223 yX1_isUnderWay] := rfl
theorem lwe606 : lw_at 606 = [Cond.instanceMethod yX1_isUnderWay] := rfl
theorem lwe607 : lw_at 607 = [Cond.selects RX1 yX1_isUnderWay yX1_isUnderWay] := rfl
theorem lwe608 : lw_at 608 = [Cond.code yX1_isUnderWay cX1_isUnderWay 1 (some .boolean)] := rfl
theorem lwe609 : lw_at 609 = [Cond.methodLink RL 184 yL_wide] := rfl
theorem lwe610 : lw_at 610 = [Cond.static yL_wide] := rfl
theorem lwe611 : lw_at 611 = [Cond.codeWith yL_wide cL_wide 5 (some .int) [(0, 10, 13, 13), (0, 10, 17, 15), (0, 10, 21, 17)]] := rfl
theorem lwe612 : lw_at 612 = [Cond.methodLink RL 64 yX7_wide] := rfl
theorem lwe613 : lw_at 613 = [Cond.instanceMethod yX7_wide] := rfl
theorem lwe614 : lw_at 614 = [Cond.selects RX7 yX7_wide yX7_wide] := rfl
theorem lwe615 : lw_at 615 = [Cond.code yX7_wide cX7_wide 5 (some .int)] := rfl
theorem lwe616 : lw_at 616 = [Cond.methodLink RL 187 yL_couple] := rfl
theorem lwe617 : lw_at 617 = [Cond.static yL_couple] := rfl
theorem lwe618 : lw_at 618 = [Cond.codeWith yL_couple cL_couple 5 (some .int) [(0, 10, 13, 13), (0, 10, 17, 17)]] := rfl
theorem lwe619 : lw_at 619 = [Cond.methodLink RL 67 yX7_couple] := rfl
theorem lwe620 : lw_at 620 = [Cond.instanceMethod yX7_couple] := rfl
theorem lwe621 : lw_at 621 = [Cond.selects RX7 yX7_couple yX7_couple] := rfl
theorem lwe622 : lw_at 622 = [Cond.code yX7_couple cX7_couple 6 (some .int)] := rfl
theorem lwe623 : lw_at 623 = [Cond.methodLink RX7 241 yX0_isTiedAt] := rfl
theorem lwe624 : lw_at 624 = [Cond.methodLink RX7 244 yX4_isDangerous] := rfl
theorem lwe625 : lw_at 625 = [Cond.instanceMethod yX4_isDangerous] := rfl
theorem lwe626 : lw_at 626 = [Cond.selects RX4 yX4_isDangerous yX4_isDangerous] := rfl
theorem lwe627 : lw_at 627 = [Cond.code yX4_isDangerous cX4_isDangerous 6 (some .boolean)] := rfl
theorem lwe628 : lw_at 628 = [Cond.methodLink RX4 78 yX4_seenAt] := rfl
theorem lwe629 : lw_at 629 = [Cond.instanceMethod yX4_seenAt] := rfl
theorem lwe630 : lw_at 630 = [Cond.code yX4_seenAt cX4_seenAt 5 (some (.object "Towmaster$Barge"))] := rfl
theorem lwe631 : lw_at 631 = [Cond.methodLink RX4 82 yX0_isDangerousBeside] := rfl
theorem lwe632 : lw_at 632 = [Cond.instanceMethod yX0_isDangerousBeside] := rfl
theorem lwe633 : lw_at 633 = [Cond.selects RX0 yX0_isDangerousBeside yX0_isDangerousBeside] := rfl
theorem lwe634 : lw_at 634 = [Cond.code yX0_isDangerousBeside cX0_isDangerousBeside 2 (some .boolean)] := rfl
theorem lwe635 : lw_at 635 = [Cond.methodLink RX7 248 yX4_behind] := rfl
theorem lwe636 : lw_at 636 = [Cond.methodLink RX7 252 yX4_release] := rfl
theorem lwe637 : lw_at 637 = [Cond.instanceMethod yX4_release] := rfl
theorem lwe638 : lw_at 638 = [Cond.selects RX4 yX4_release yX4_release] := rfl
theorem lwe639 : lw_at 639 = [Cond.code yX4_release cX4_release 3 none] := rfl
theorem lwe640 : lw_at 640 = [Cond.methodLink RX4 63 yJx4a65c_remove_915e3] := rfl
theorem lwe641 : lw_at 641 = [Cond.instanceMethod yJx4a65c_remove_915e3] := rfl
theorem lwe642 : lw_at 642 = [Cond.selects RJx4a65c yJx4a65c_remove_915e3 yJx4a65c_remove_915e3] := rfl
theorem lwe643 : lw_at 643 = [Cond.code yJx4a65c_remove_915e3 cJx4a65c_remove_915e3 4 (some (.object "java/lang/Object"))] := rfl
theorem lwe644 : lw_at 644 = [Cond.methodLink RJx4a65c 144 yJx4a65c_fastRemove_b59b0] := rfl
theorem lwe645 : lw_at 645 = [Cond.instanceMethod yJx4a65c_fastRemove_b59b0] := rfl
theorem lwe646 : lw_at 646 = [Cond.code yJx4a65c_fastRemove_b59b0 cJx4a65c_fastRemove_b59b0 4 none] := rfl
theorem lwe647 : lw_at 647 = [Cond.methodLink RJx4a65c 112 arraycopyName] := rfl
theorem lwe648 : lw_at 648 = [Cond.methodLink RL 190 yL_drop] := rfl
theorem lwe649 : lw_at 649 = [Cond.static yL_drop] := rfl
theorem lwe650 : lw_at 650 = [Cond.codeWith yL_drop cL_drop 6 (some .int) [(0, 12, 15, 13), (0, 12, 19, 17)]] := rfl
theorem lwe651 : lw_at 651 = [Cond.methodLink RL 70 yX7_drop] := rfl
theorem lwe652 : lw_at 652 = [Cond.instanceMethod yX7_drop] := rfl
theorem lwe653 : lw_at 653 = [Cond.selects RX7 yX7_drop yX7_drop] := rfl
theorem lwe654 : lw_at 654 = [Cond.code yX7_drop cX7_drop 7 (some .int)] := rfl
theorem lwe655 : lw_at 655 = [Cond.methodLink RX7 264 yX4_placeOf] := rfl
theorem lwe656 : lw_at 656 = [Cond.methodLink RL 193 yL_radio] := rfl
theorem lwe657 : lw_at 657 = [Cond.static yL_radio] := rfl
theorem lwe658 : lw_at 658 = [Cond.codeWith yL_radio cL_radio 6 (some .int) [(0, 19, 22, 13), (0, 19, 26, 15)]] := rfl
theorem lwe659 : lw_at 659 = [Cond.methodLink RL 73 yX7_radio] := rfl
theorem lwe660 : lw_at 660 = [Cond.instanceMethod yX7_radio] := rfl
theorem lwe661 : lw_at 661 = [Cond.selects RX7 yX7_radio yX7_radio] := rfl
theorem lwe662 : lw_at 662 = [Cond.code yX7_radio cX7_radio 7 (some .boolean)] := rfl
theorem lwe663 : lw_at 663 = [Cond.methodLink RX7 267 yX1_agreesWith] := rfl
theorem lwe664 : lw_at 664 = [Cond.instanceMethod yX1_agreesWith] := rfl
theorem lwe665 : lw_at 665 = [Cond.selects RX1 yX1_agreesWith yX1_agreesWith] := rfl
theorem lwe666 : lw_at 666 = [Cond.code yX1_agreesWith cX1_agreesWith 2 (some .boolean)] := rfl
theorem lwe667 : lw_at 667 = [Cond.methodLink RX7 271 yX1_agree] := rfl
theorem lwe668 : lw_at 668 = [Cond.instanceMethod yX1_agree] := rfl
theorem lwe669 : lw_at 669 = [Cond.selects RX1 yX1_agree yX1_agree] := rfl
theorem lwe670 : lw_at 670 = [Cond.code yX1_agree cX1_agree 4 none] := rfl
theorem lwe671 : lw_at 671 = [Cond.methodLink RL 196 yL_go] := rfl
theorem lwe672 : lw_at 672 = [Cond.static yL_go] := rfl
theorem lwe673 : lw_at 673 = [Cond.codeWith yL_go cL_go 5 (some .int) [(0, 10, 13, 13)]] := rfl
theorem lwe674 : lw_at 674 = [Cond.methodLink RL 77 yX7_go] := rfl
theorem lwe675 : lw_at 675 = [Cond.instanceMethod yX7_go] := rfl
theorem lwe676 : lw_at 676 = [Cond.selects RX7 yX7_go yX7_go] := rfl
theorem lwe677 : lw_at 677 = [Cond.code yX7_go cX7_go 5 (some .int)] := rfl
theorem lwe678 : lw_at 678 = [Cond.methodLink RL 199 yL_pass] := rfl
theorem lwe679 : lw_at 679 = [Cond.static yL_pass] := rfl
theorem lwe680 : lw_at 680 = [Cond.codeWith yL_pass cL_pass 4 (some .int) [(0, 9, 12, 15), (0, 9, 15, 17)]] := rfl
theorem lwe681 : lw_at 681 = [Cond.methodLink RL 80 yX7_pass] := rfl
theorem lwe682 : lw_at 682 = [Cond.instanceMethod yX7_pass] := rfl
theorem lwe683 : lw_at 683 = [Cond.selects RX7 yX7_pass yX7_pass] := rfl
theorem lwe684 : lw_at 684 = [Cond.code yX7_pass cX7_pass 3 (some .int)] := rfl
theorem lwe685 : lw_at 685 = [Cond.methodLink RX7 281 yX7_beginHour] := rfl
theorem lwe686 : lw_at 686 = [Cond.instanceMethod yX7_beginHour] := rfl
theorem lwe687 : lw_at 687 = [Cond.code yX7_beginHour cX7_beginHour 2 none] := rfl
theorem lwe688 : lw_at 688 = [Cond.methodLink RX7 290 yX7_stageIn] := rfl
theorem lwe689 : lw_at 689 = [Cond.instanceMethod yX7_stageIn] := rfl
theorem lwe690 : lw_at 690 = [Cond.code yX7_stageIn cX7_stageIn 3 (some .int)] := rfl
theorem lwe691 : lw_at 691 = [Cond.methodLink RX7 309 Lib.Math.min.name] := rfl
theorem lwe692 : lw_at 692 = [Cond.methodLink RX7 304 Lib.Math.max.name] := rfl
theorem lwe693 : lw_at 693 = [Cond.methodLink RX7 441 yX1_beginHour] := rfl
theorem lwe694 : lw_at 694 = [Cond.instanceMethod yX1_beginHour] := rfl
theorem lwe695 : lw_at 695 = [Cond.selects RX1 yX1_beginHour yX1_beginHour] := rfl
theorem lwe696 : lw_at 696 = [Cond.code yX1_beginHour cX1_beginHour 1 none] := rfl
theorem lwe697 : lw_at 697 = [Cond.methodLink RX1 50 Lib.Math.min.name] := rfl
theorem lwe698 : lw_at 698 = [Cond.methodLink RX7 284 yX7_travel] := rfl
theorem lwe699 : lw_at 699 = [Cond.instanceMethod yX7_travel] := rfl
theorem lwe700 : lw_at 700 = [Cond.code yX7_travel cX7_travel 4 none] := rfl
theorem lwe701 : lw_at 701 = [Cond.methodLink RX7 445 yX7_waterOf] := rfl
theorem lwe702 : lw_at 702 = [Cond.instanceMethod yX7_waterOf] := rfl
theorem lwe703 : lw_at 703 = [Cond.code yX7_waterOf cX7_waterOf 2 (some .int)] := rfl
theorem lwe704 : lw_at 704 = [Cond.methodLink RX7 338 yX4_draught] := rfl
theorem lwe705 : lw_at 705 = [Cond.instanceMethod yX4_draught] := rfl
theorem lwe706 : lw_at 706 = [Cond.selects RX4 yX4_draught yX4_draught] := rfl
theorem lwe707 : lw_at 707 = [Cond.code yX4_draught cX4_draught 3 (some .int)] := rfl
theorem lwe708 : lw_at 708 = [Cond.methodLink RX4 69 Lib.Math.max.name] := rfl
theorem lwe709 : lw_at 709 = [Cond.methodLink RX7 449 yX1_waitFor] := rfl
theorem lwe710 : lw_at 710 = [Cond.instanceMethod yX1_waitFor] := rfl
theorem lwe711 : lw_at 711 = [Cond.selects RX1 yX1_waitFor yX1_waitFor] := rfl
theorem lwe712 : lw_at 712 = [Cond.code yX1_waitFor cX1_waitFor 2 none] := rfl
theorem lwe713 : lw_at 713 = [Cond.methodLink RX7 452 yX7_arrive] := rfl
theorem lwe714 : lw_at 714 = [Cond.instanceMethod yX7_arrive] := rfl
theorem lwe715 : lw_at 715 = [Cond.code yX7_arrive cX7_arrive 4 none] := rfl
theorem lwe716 : lw_at 716 = [Cond.methodLink RX7 298 yX1_pointAhead] := rfl
theorem lwe717 : lw_at 717 = [Cond.instanceMethod yX1_pointAhead] := rfl
theorem lwe718 : lw_at 718 = [Cond.selects RX1 yX1_pointAhead yX1_pointAhead] := rfl
theorem lwe719 : lw_at 719 = [Cond.code yX1_pointAhead cX1_pointAhead 1 (some .int)] := rfl
theorem lwe720 : lw_at 720 = [Cond.methodLink RX7 287 yX7_sendOff] := rfl
theorem lwe721 : lw_at 721 = [Cond.instanceMethod yX7_sendOff] := rfl
theorem lwe722 : lw_at 722 = [Cond.code yX7_sendOff cX7_sendOff 6 none] := rfl
theorem lwe723 : lw_at 723 = [Cond.methodLink RX7 324 yX7_nextOf] := rfl
theorem lwe724 : lw_at 724 = [Cond.instanceMethod yX7_nextOf] := rfl
theorem lwe725 : lw_at 725 = [Cond.code yX7_nextOf cX7_nextOf 3 (some (.object "Towmaster$Section"))] := rfl
theorem lwe726 : lw_at 726 = [Cond.methodLink RX7 456 yX1_isBoundUp] := rfl
theorem lwe727 : lw_at 727 = [Cond.instanceMethod yX1_isBoundUp] := rfl
theorem lwe728 : lw_at 728 = [Cond.selects RX1 yX1_isBoundUp yX1_isBoundUp] := rfl
theorem lwe729 : lw_at 729 = [Cond.code yX1_isBoundUp cX1_isBoundUp 1 (some .boolean)] := rfl
theorem lwe730 : lw_at 730 = [Cond.methodLink RX7 328 yX7_causeFor] := rfl
theorem lwe731 : lw_at 731 = [Cond.instanceMethod yX7_causeFor] := rfl
theorem lwe732 : lw_at 732 = [Cond.code yX7_causeFor cX7_causeFor 5 (some .int)] := rfl
theorem lwe733 : lw_at 733 = [Cond.methodLink RX7 471 yX7_causeAheadOfMeeting] := rfl
theorem lwe734 : lw_at 734 = [Cond.instanceMethod yX7_causeAheadOfMeeting] := rfl
theorem lwe735 : lw_at 735 = [Cond.code yX7_causeAheadOfMeeting cX7_causeAheadOfMeeting 5 (some .int)] := rfl
theorem lwe736 : lw_at 736 = [Cond.methodLink RX7 316 yX7_causeOfSize] := rfl
theorem lwe737 : lw_at 737 = [Cond.instanceMethod yX7_causeOfSize] := rfl
theorem lwe738 : lw_at 738 = [Cond.code yX7_causeOfSize cX7_causeOfSize 5 (some .int)] := rfl
theorem lwe739 : lw_at 739 = [Cond.methodLink RX7 488 yX5_isTooSmallFor] := rfl
theorem lwe740 : lw_at 740 = [Cond.instanceMethod yX5_isTooSmallFor] := rfl
theorem lwe741 : lw_at 741 = [Cond.selects RX5 yX5_isTooSmallFor yX5_isTooSmallFor] := rfl
theorem lwe742 : lw_at 742 = [Cond.code yX5_isTooSmallFor cX5_isTooSmallFor 2 (some .boolean)] := rfl
theorem lwe743 : lw_at 743 = [Cond.methodLink RX5 44 yX4_size] := rfl
theorem lwe744 : lw_at 744 = [Cond.methodLink RX5 50 yX4_breadth] := rfl
theorem lwe745 : lw_at 745 = [Cond.instanceMethod yX4_breadth] := rfl
theorem lwe746 : lw_at 746 = [Cond.selects RX4 yX4_breadth yX4_breadth] := rfl
theorem lwe747 : lw_at 747 = [Cond.code yX4_breadth cX4_breadth 1 (some .int)] := rfl
theorem lwe748 : lw_at 748 = [Cond.methodLink RX4 75 Lib.Math.min.name] := rfl
theorem lwe749 : lw_at 749 = [Cond.methodLink RX7 335 yX4_weight] := rfl
theorem lwe750 : lw_at 750 = [Cond.instanceMethod yX4_weight] := rfl
theorem lwe751 : lw_at 751 = [Cond.selects RX4 yX4_weight yX4_weight] := rfl
theorem lwe752 : lw_at 752 = [Cond.code yX4_weight cX4_weight 3 (some .int)] := rfl
theorem lwe753 : lw_at 753 = [Cond.methodLink RX7 294 yX1_push] := rfl
theorem lwe754 : lw_at 754 = [Cond.instanceMethod yX1_push] := rfl
theorem lwe768 : lw_at 768 = [Cond.selects RX1 yX1_push yX1_push] := rfl
theorem lwe769 : lw_at 769 = [Cond.code yX1_push cX1_push 4 (some .int)] := rfl
theorem lwe770 : lw_at 770 = [Cond.methodLink RX7 320 yX5_hoursFor] := rfl
theorem lwe771 : lw_at 771 = [Cond.instanceMethod yX5_hoursFor] := rfl
theorem lwe772 : lw_at 772 = [Cond.selects RX5 yX5_hoursFor yX5_hoursFor] := rfl
theorem lwe773 : lw_at 773 = [Cond.code yX5_hoursFor cX5_hoursFor 3 (some .int)] := rfl
theorem lwe774 : lw_at 774 = [Cond.methodLink RX7 474 yX7_meetsIn] := rfl
theorem lwe775 : lw_at 775 = [Cond.instanceMethod yX7_meetsIn] := rfl
theorem lwe776 : lw_at 776 = [Cond.code yX7_meetsIn cX7_meetsIn 7 (some .boolean)] := rfl
theorem lwe777 : lw_at 777 = [Cond.methodLink RX7 341 yX4_breadth] := rfl
theorem lwe778 : lw_at 778 = [Cond.methodLink RX7 478 yX7_firstInto] := rfl
theorem lwe779 : lw_at 779 = [Cond.instanceMethod yX7_firstInto] := rfl
theorem lwe780 : lw_at 780 = [Cond.code yX7_firstInto cX7_firstInto 6 (some (.object "Towmaster$Boat"))] := rfl
theorem lwe781 : lw_at 781 = [Cond.methodLink RX7 501 yX1_earlierOf] := rfl
theorem lwe782 : lw_at 782 = [Cond.instanceMethod yX1_earlierOf] := rfl
theorem lwe783 : lw_at 783 = [Cond.selects RX1 yX1_earlierOf yX1_earlierOf] := rfl
theorem lwe784 : lw_at 784 = [Cond.code yX1_earlierOf cX1_earlierOf 2 (some (.object "Towmaster$Boat"))] := rfl
theorem lwe785 : lw_at 785 = [Cond.methodLink RX7 459 yX7_enter] := rfl
theorem lwe786 : lw_at 786 = [Cond.instanceMethod yX7_enter] := rfl
theorem lwe787 : lw_at 787 = [Cond.code yX7_enter cX7_enter 4 none] := rfl
theorem lwe788 : lw_at 788 = [Cond.methodLink RX7 464 yX1_setOut] := rfl
theorem lwe789 : lw_at 789 = [Cond.instanceMethod yX1_setOut] := rfl
theorem lwe790 : lw_at 790 = [Cond.selects RX1 yX1_setOut yX1_setOut] := rfl
theorem lwe791 : lw_at 791 = [Cond.code yX1_setOut cX1_setOut 4 none] := rfl
theorem lwe792 : lw_at 792 = [Cond.methodLink RX7 468 yX5_countEntry] := rfl
theorem lwe793 : lw_at 793 = [Cond.instanceMethod yX5_countEntry] := rfl
theorem lwe794 : lw_at 794 = [Cond.selects RX5 yX5_countEntry yX5_countEntry] := rfl
theorem lwe795 : lw_at 795 = [Cond.code yX5_countEntry cX5_countEntry 2 none] := rfl
theorem lwe796 : lw_at 796 = [Cond.methodLink RL 202 yL_water] := rfl
theorem lwe797 : lw_at 797 = [Cond.static yL_water] := rfl
theorem lwe798 : lw_at 798 = [Cond.codeWith yL_water cL_water 5 (some .int) [(0, 10, 13, 13), (0, 10, 17, 15)]] := rfl
theorem lwe799 : lw_at 799 = [Cond.methodLink RL 83 yX7_water] := rfl
theorem lwe800 : lw_at 800 = [Cond.instanceMethod yX7_water] := rfl
theorem lwe801 : lw_at 801 = [Cond.selects RX7 yX7_water yX7_water] := rfl
theorem lwe802 : lw_at 802 = [Cond.code yX7_water cX7_water 4 (some .int)] := rfl
theorem lwe803 : lw_at 803 = [Cond.methodLink RL 205 yL_most] := rfl
theorem lwe804 : lw_at 804 = [Cond.static yL_most] := rfl
theorem lwe805 : lw_at 805 = [Cond.codeWith yL_most cL_most 5 (some .int) [(0, 10, 13, 13)]] := rfl
theorem lwe806 : lw_at 806 = [Cond.methodLink RL 86 yX7_most] := rfl
theorem lwe807 : lw_at 807 = [Cond.instanceMethod yX7_most] := rfl
theorem lwe808 : lw_at 808 = [Cond.selects RX7 yX7_most yX7_most] := rfl
theorem lwe809 : lw_at 809 = [Cond.code yX7_most cX7_most 3 (some .int)] := rfl
theorem lwe810 : lw_at 810 = [Cond.methodLink RL 209 yL_hours] := rfl
theorem lwe811 : lw_at 811 = [Cond.static yL_hours] := rfl
theorem lwe812 : lw_at 812 = [Cond.codeWith yL_hours cL_hours 5 (some .int) [(0, 10, 13, 13)]] := rfl
theorem lwe813 : lw_at 813 = [Cond.methodLink RL 90 yX7_hours] := rfl
theorem lwe814 : lw_at 814 = [Cond.instanceMethod yX7_hours] := rfl
theorem lwe815 : lw_at 815 = [Cond.selects RX7 yX7_hours yX7_hours] := rfl
theorem lwe816 : lw_at 816 = [Cond.code yX7_hours cX7_hours 10 (some .int)] := rfl
theorem lwe817 : lw_at 817 = [Cond.methodLink RL 212 yL_bars] := rfl
theorem lwe818 : lw_at 818 = [Cond.static yL_bars] := rfl
theorem lwe819 : lw_at 819 = [Cond.codeWith yL_bars cL_bars 4 (some .int) [(0, 9, 12, 13)]] := rfl
theorem lwe820 : lw_at 820 = [Cond.methodLink RL 93 yX7_bars] := rfl
theorem lwe821 : lw_at 821 = [Cond.instanceMethod yX7_bars] := rfl
theorem lwe822 : lw_at 822 = [Cond.selects RX7 yX7_bars yX7_bars] := rfl
theorem lwe823 : lw_at 823 = [Cond.code yX7_bars cX7_bars 4 (some .int)] := rfl
theorem lwe824 : lw_at 824 = [Cond.methodLink RL 215 yL_ofBoat] := rfl
theorem lwe825 : lw_at 825 = [Cond.static yL_ofBoat] := rfl
theorem lwe826 : lw_at 826 = [Cond.codeWith yL_ofBoat cL_ofBoat 5 (some .int) [(0, 10, 13, 13)]] := rfl
theorem lwe827 : lw_at 827 = [Cond.methodLink RL 96 yX7_ofBoat] := rfl
theorem lwe828 : lw_at 828 = [Cond.instanceMethod yX7_ofBoat] := rfl
theorem lwe829 : lw_at 829 = [Cond.selects RX7 yX7_ofBoat yX7_ofBoat] := rfl
theorem lwe830 : lw_at 830 = [Cond.code yX7_ofBoat cX7_ofBoat 4 (some .int)] := rfl
theorem lwe831 : lw_at 831 = [Cond.methodLink RL 218 yL_waited] := rfl
theorem lwe832 : lw_at 832 = [Cond.static yL_waited] := rfl
theorem lwe833 : lw_at 833 = [Cond.codeWith yL_waited cL_waited 5 (some .int) [(0, 10, 13, 13)]] := rfl
theorem lwe834 : lw_at 834 = [Cond.methodLink RL 99 yX7_waited] := rfl
theorem lwe835 : lw_at 835 = [Cond.instanceMethod yX7_waited] := rfl
theorem lwe836 : lw_at 836 = [Cond.selects RX7 yX7_waited yX7_waited] := rfl
theorem lwe837 : lw_at 837 = [Cond.code yX7_waited cX7_waited 4 (some .int)] := rfl
theorem lwe838 : lw_at 838 = [Cond.methodLink RL 221 yL_ofBarge] := rfl
theorem lwe839 : lw_at 839 = [Cond.static yL_ofBarge] := rfl
theorem lwe840 : lw_at 840 = [Cond.codeWith yL_ofBarge cL_ofBarge 5 (some .int) [(0, 10, 13, 13)]] := rfl
theorem lwe841 : lw_at 841 = [Cond.methodLink RL 102 yX7_ofBarge] := rfl
theorem lwe842 : lw_at 842 = [Cond.instanceMethod yX7_ofBarge] := rfl
theorem lwe843 : lw_at 843 = [Cond.selects RX7 yX7_ofBarge yX7_ofBarge] := rfl
theorem lwe844 : lw_at 844 = [Cond.code yX7_ofBarge cX7_ofBarge 5 (some .int)] := rfl
theorem lwe845 : lw_at 845 = [Cond.methodLink RX7 357 yX7_whereIs] := rfl
theorem lwe846 : lw_at 846 = [Cond.instanceMethod yX7_whereIs] := rfl
theorem lwe847 : lw_at 847 = [Cond.code yX7_whereIs cX7_whereIs 3 (some .int)] := rfl
theorem lwe848 : lw_at 848 = [Cond.methodLink RL 224 yL_placeAnew] := rfl
theorem lwe849 : lw_at 849 = [Cond.static yL_placeAnew] := rfl
theorem lwe850 : lw_at 850 = [Cond.codeWith yL_placeAnew cL_placeAnew 4 (some .int) [(0, 9, 12, 13)]] := rfl
theorem lwe851 : lw_at 851 = [Cond.methodLink RL 105 yX7_placeAnew] := rfl
theorem lwe852 : lw_at 852 = [Cond.instanceMethod yX7_placeAnew] := rfl
theorem lwe853 : lw_at 853 = [Cond.selects RX7 yX7_placeAnew yX7_placeAnew] := rfl
theorem lwe854 : lw_at 854 = [Cond.code yX7_placeAnew cX7_placeAnew 6 (some .int)] := rfl
theorem lwe855 : lw_at 855 = [Cond.methodLink RX7 366 yX6_latestOfBarge] := rfl
theorem lwe856 : lw_at 856 = [Cond.instanceMethod yX6_latestOfBarge] := rfl
theorem lwe857 : lw_at 857 = [Cond.selects RX6 yX6_latestOfBarge yX6_latestOfBarge] := rfl
theorem lwe858 : lw_at 858 = [Cond.code yX6_latestOfBarge cX6_latestOfBarge 2 (some .int)] := rfl
theorem lwe859 : lw_at 859 = [Cond.methodLink RX6 34 yX6_latestOf] := rfl
theorem lwe860 : lw_at 860 = [Cond.instanceMethod yX6_latestOf] := rfl
theorem lwe861 : lw_at 861 = [Cond.code yX6_latestOf cX6_latestOf 9 (some .int)] := rfl
theorem lwe862 : lw_at 862 = [Cond.methodLink RX6 45 yX6_eventOf] := rfl
theorem lwe863 : lw_at 863 = [Cond.static yX6_eventOf] := rfl
theorem lwe864 : lw_at 864 = [Cond.code yX6_eventOf cX6_eventOf 1 (some .int)] := rfl
theorem lwe865 : lw_at 865 = [Cond.methodLink RX7 369 yX6_eventOf] := rfl
theorem lwe866 : lw_at 866 = [Cond.methodLink RX7 372 yX6_placeOf] := rfl
theorem lwe867 : lw_at 867 = [Cond.static yX6_placeOf] := rfl
theorem lwe868 : lw_at 868 = [Cond.code yX6_placeOf cX6_placeOf 1 (some .int)] := rfl
theorem lwe869 : lw_at 869 = [Cond.methodLink RX7 374 yX6_latestOfBoat] := rfl
theorem lwe870 : lw_at 870 = [Cond.instanceMethod yX6_latestOfBoat] := rfl
theorem lwe871 : lw_at 871 = [Cond.selects RX6 yX6_latestOfBoat yX6_latestOfBoat] := rfl
theorem lwe872 : lw_at 872 = [Cond.code yX6_latestOfBoat cX6_latestOfBoat 2 (some .int)] := rfl
theorem lwe873 : lw_at 873 = [Cond.methodLink RL 227 yL_shifts] := rfl
theorem lwe874 : lw_at 874 = [Cond.static yL_shifts] := rfl
theorem lwe875 : lw_at 875 = [Cond.codeWith yL_shifts cL_shifts 5 (some .int) [(0, 10, 13, 13), (0, 10, 17, 15)]] := rfl
theorem lwe876 : lw_at 876 = [Cond.methodLink RL 108 yX7_shifts] := rfl
theorem lwe877 : lw_at 877 = [Cond.instanceMethod yX7_shifts] := rfl
theorem lwe878 : lw_at 878 = [Cond.selects RX7 yX7_shifts yX7_shifts] := rfl
theorem lwe879 : lw_at 879 = [Cond.code yX7_shifts cX7_shifts 7 (some .int)] := rfl
theorem lwe880 : lw_at 880 = [Cond.methodLink RX7 377 yX7_needTiedSet] := rfl
theorem lwe881 : lw_at 881 = [Cond.instanceMethod yX7_needTiedSet] := rfl
theorem lwe882 : lw_at 882 = [Cond.code yX7_needTiedSet cX7_needTiedSet 6 (some (.object "java/util/ArrayList"))] := rfl
theorem lwe883 : lw_at 883 = [Cond.methodLink RX7 433 yJ6_bitCount_0f7a4] := rfl
theorem lwe884 : lw_at 884 = [Cond.static yJ6_bitCount_0f7a4] := rfl
theorem lwe885 : lw_at 885 = [Cond.code yJ6_bitCount_0f7a4 cJ6_bitCount_0f7a4 1 (some .int)] := rfl
theorem lwe886 : lw_at 886 = [Cond.constant RJ6 265 (1431655765)] := rfl
theorem lwe887 : lw_at 887 = [Cond.constant RJ6 266 (858993459)] := rfl
theorem lwe888 : lw_at 888 = [Cond.constant RJ6 267 (252645135)] := rfl
theorem lwe889 : lw_at 889 = [Cond.methodLink RX7 438 yX0_bit] := rfl
theorem lwe890 : lw_at 890 = [Cond.methodLink RX7 381 yX4_behindWithout] := rfl
theorem lwe891 : lw_at 891 = [Cond.methodLink RL 230 yL_shiftsAnew] := rfl
theorem lwe892 : lw_at 892 = [Cond.static yL_shiftsAnew] := rfl
theorem lwe893 : lw_at 893 = [Cond.codeWith yL_shiftsAnew cL_shiftsAnew 5 (some .int) [(0, 10, 13, 13), (0, 10, 17, 15)]] := rfl
theorem lwe894 : lw_at 894 = [Cond.methodLink RL 111 yX7_shiftsAnew] := rfl
theorem lwe895 : lw_at 895 = [Cond.instanceMethod yX7_shiftsAnew] := rfl
theorem lwe896 : lw_at 896 = [Cond.selects RX7 yX7_shiftsAnew yX7_shiftsAnew] := rfl
theorem lwe897 : lw_at 897 = [Cond.code yX7_shiftsAnew cX7_shiftsAnew 3 (some .int)] := rfl
theorem lwe898 : lw_at 898 = [Cond.methodLink RX7 385 yX7_fewestShifts] := rfl
theorem lwe899 : lw_at 899 = [Cond.static yX7_fewestShifts] := rfl
theorem lwe900 : lw_at 900 = [Cond.code yX7_fewestShifts cX7_fewestShifts 8 (some .int)] := rfl
theorem lwe901 : lw_at 901 = [Cond.methodLink RL 233 yL_ofContract] := rfl
theorem lwe902 : lw_at 902 = [Cond.static yL_ofContract] := rfl
theorem lwe903 : lw_at 903 = [Cond.codeWith yL_ofContract cL_ofContract 5 (some .int) [(0, 10, 13, 13)]] := rfl
theorem lwe904 : lw_at 904 = [Cond.methodLink RL 114 yX7_ofContract] := rfl
theorem lwe905 : lw_at 905 = [Cond.instanceMethod yX7_ofContract] := rfl
theorem lwe906 : lw_at 906 = [Cond.selects RX7 yX7_ofContract yX7_ofContract] := rfl
theorem lwe907 : lw_at 907 = [Cond.code yX7_ofContract cX7_ofContract 4 (some .int)] := rfl
theorem lwe908 : lw_at 908 = [Cond.methodLink RL 236 yL_all] := rfl
theorem lwe909 : lw_at 909 = [Cond.static yL_all] := rfl
theorem lwe910 : lw_at 910 = [Cond.codeWith yL_all cL_all 4 (some .int) [(0, 9, 12, 13)]] := rfl
theorem lwe911 : lw_at 911 = [Cond.methodLink RL 117 yX7_all] := rfl
theorem lwe912 : lw_at 912 = [Cond.instanceMethod yX7_all] := rfl
theorem lwe913 : lw_at 913 = [Cond.selects RX7 yX7_all yX7_all] := rfl
theorem lwe914 : lw_at 914 = [Cond.code yX7_all cX7_all 2 (some .int)] := rfl
theorem lwe915 : lw_at 915 = [Cond.methodLink RX7 400 yX7_paidInAll] := rfl
theorem lwe916 : lw_at 916 = [Cond.instanceMethod yX7_paidInAll] := rfl
theorem lwe917 : lw_at 917 = [Cond.code yX7_paidInAll cX7_paidInAll 3 (some .int)] := rfl
theorem lwe918 : lw_at 918 = [Cond.methodLink RX7 403 yX7_waitedInAll] := rfl
theorem lwe919 : lw_at 919 = [Cond.instanceMethod yX7_waitedInAll] := rfl
theorem lwe920 : lw_at 920 = [Cond.code yX7_waitedInAll cX7_waitedInAll 5 (some .int)] := rfl
theorem lwe921 : lw_at 921 = [Cond.classLink RL 121 RX8] := rfl
theorem lwe922 : lw_at 922 = [Cond.instantiable RX8 59] := rfl
theorem lwe923 : lw_at 923 = [Cond.methodLink RL 123 yX8_init] := rfl
theorem lwe924 : lw_at 924 = [Cond.instanceMethod yX8_init] := rfl
theorem lwe925 : lw_at 925 = [Cond.code yX8_init cX8_init 2 none] := rfl
theorem lwe926 : lw_at 926 = [Cond.methodLink RX8 1 objectInit] := rfl
theorem lwe927 : lw_at 927 = [Cond.fieldLink RX8 155 "TowmasterModel" "thrown" "I"] := rfl
theorem lwe928 : lw_at 928 = [Cond.fieldLink RX8 228 "TowmasterModel" "now" "I"] := rfl
theorem lwe929 : lw_at 929 = [Cond.fieldLink RX8 186 "TowmasterModel" "stage" "I"] := rfl
theorem lwe930 : lw_at 930 = [Cond.fieldLink RX8 189 "TowmasterModel" "fall" "I"] := rfl
theorem lwe931 : lw_at 931 = [Cond.fieldLink RX8 192 "TowmasterModel" "isFog" "Z"] := rfl
theorem lwe932 : lw_at 932 = [Cond.fieldLink RX8 7 "TowmasterModel" "areLocks" "[Z"] := rfl
theorem lwe933 : lw_at 933 = [Cond.fieldLink RX8 13 "TowmasterModel" "depths" "[I"] := rfl
theorem lwe934 : lw_at 934 = [Cond.fieldLink RX8 17 "TowmasterModel" "ices" "[I"] := rfl
theorem lwe935 : lw_at 935 = [Cond.fieldLink RX8 20 "TowmasterModel" "areShut" "[Z"] := rfl
theorem lwe936 : lw_at 936 = [Cond.fieldLink RX8 23 "TowmasterModel" "reachHours" "[I"] := rfl
theorem lwe937 : lw_at 937 = [Cond.fieldLink RX8 26 "TowmasterModel" "reachWidth" "[I"] := rfl
theorem lwe938 : lw_at 938 = [Cond.fieldLink RX8 29 "TowmasterModel" "areBends" "[Z"] := rfl
theorem lwe939 : lw_at 939 = [Cond.fieldLink RX8 32 "TowmasterModel" "chambers" "[I"] := rfl
theorem lwe940 : lw_at 940 = [Cond.fieldLink RX8 35 "TowmasterModel" "turns" "[I"] := rfl
theorem lwe941 : lw_at 941 = [Cond.fieldLink RX8 38 "TowmasterModel" "haveHelpers" "[Z"] := rfl
theorem lwe942 : lw_at 942 = [Cond.fieldLink RX8 41 "TowmasterModel" "wentUp" "[Z"] := rfl
theorem lwe943 : lw_at 943 = [Cond.fieldLink RX8 44 "TowmasterModel" "went" "[I"] := rfl
theorem lwe944 : lw_at 944 = [Cond.fieldLink RX8 47 "TowmasterModel" "rooms" "[I"] := rfl
theorem lwe945 : lw_at 945 = [Cond.fieldLink RX8 50 "TowmasterModel" "tied" "[I"] := rfl
theorem lwe946 : lw_at 946 = [Cond.fieldLink RX8 53 "TowmasterModel" "tiers" "[I"] := rfl
theorem lwe947 : lw_at 947 = [Cond.fieldLink RX8 56 "TowmasterModel" "loadedIn" "[I"] := rfl
theorem lwe948 : lw_at 948 = [Cond.fieldLink RX8 59 "TowmasterModel" "loaded" "[I"] := rfl
theorem lwe949 : lw_at 949 = [Cond.fieldLink RX8 167 "TowmasterModel" "barges" "I"] := rfl
theorem lwe950 : lw_at 950 = [Cond.fieldLink RX8 62 "TowmasterModel" "types" "[I"] := rfl
theorem lwe951 : lw_at 951 = [Cond.fieldLink RX8 65 "TowmasterModel" "cargo" "[I"] := rfl
theorem lwe952 : lw_at 952 = [Cond.fieldLink RX8 68 "TowmasterModel" "cargoOf" "[I"] := rfl
theorem lwe953 : lw_at 953 = [Cond.fieldLink RX8 71 "TowmasterModel" "usedFor" "[I"] := rfl
theorem lwe954 : lw_at 954 = [Cond.fieldLink RX8 74 "TowmasterModel" "tierOf" "[I"] := rfl
theorem lwe955 : lw_at 955 = [Cond.fieldLink RX8 77 "TowmasterModel" "towOf" "[I"] := rfl
theorem lwe956 : lw_at 956 = [Cond.fieldLink RX8 170 "TowmasterModel" "boats" "I"] := rfl
theorem lwe957 : lw_at 957 = [Cond.fieldLink RX8 80 "TowmasterModel" "powers" "[I"] := rfl
theorem lwe958 : lw_at 958 = [Cond.fieldLink RX8 83 "TowmasterModel" "hands" "[I"] := rfl
theorem lwe959 : lw_at 959 = [Cond.fieldLink RX8 86 "TowmasterModel" "tanks" "[I"] := rfl
theorem lwe960 : lw_at 960 = [Cond.fieldLink RX8 89 "TowmasterModel" "pointOf" "[I"] := rfl
theorem lwe961 : lw_at 961 = [Cond.fieldLink RX8 92 "TowmasterModel" "sectionOf" "[I"] := rfl
theorem lwe962 : lw_at 962 = [Cond.fieldLink RX8 95 "TowmasterModel" "goUp" "[Z"] := rfl
theorem lwe963 : lw_at 963 = [Cond.fieldLink RX8 98 "TowmasterModel" "left" "[I"] := rfl
theorem lwe964 : lw_at 964 = [Cond.fieldLink RX8 101 "TowmasterModel" "goals" "[I"] := rfl
theorem lwe965 : lw_at 965 = [Cond.fieldLink RX8 104 "TowmasterModel" "since" "[I"] := rfl
theorem lwe966 : lw_at 966 = [Cond.fieldLink RX8 107 "TowmasterModel" "work" "[I"] := rfl
theorem lwe967 : lw_at 967 = [Cond.fieldLink RX8 110 "TowmasterModel" "wides" "[I"] := rfl
theorem lwe968 : lw_at 968 = [Cond.fieldLink RX8 113 "TowmasterModel" "tows" "[I"] := rfl
theorem lwe969 : lw_at 969 = [Cond.fieldLink RX8 116 "TowmasterModel" "towed" "[I"] := rfl
theorem lwe970 : lw_at 970 = [Cond.fieldLink RX8 119 "TowmasterModel" "latest" "[I"] := rfl
theorem lwe971 : lw_at 971 = [Cond.fieldLink RX8 122 "TowmasterModel" "waits" "[I"] := rfl
theorem lwe972 : lw_at 972 = [Cond.fieldLink RX8 125 "TowmasterModel" "agree" "[Z"] := rfl
theorem lwe973 : lw_at 973 = [Cond.fieldLink RX8 173 "TowmasterModel" "contracts" "I"] := rfl
theorem lwe974 : lw_at 974 = [Cond.fieldLink RX8 128 "TowmasterModel" "kinds" "[I"] := rfl
theorem lwe975 : lw_at 975 = [Cond.fieldLink RX8 131 "TowmasterModel" "fromOf" "[I"] := rfl
theorem lwe976 : lw_at 976 = [Cond.fieldLink RX8 134 "TowmasterModel" "toOf" "[I"] := rfl
theorem lwe977 : lw_at 977 = [Cond.fieldLink RX8 137 "TowmasterModel" "unitsOf" "[I"] := rfl
theorem lwe978 : lw_at 978 = [Cond.fieldLink RX8 140 "TowmasterModel" "tills" "[I"] := rfl
theorem lwe979 : lw_at 979 = [Cond.fieldLink RX8 143 "TowmasterModel" "rates" "[I"] := rfl
theorem lwe980 : lw_at 980 = [Cond.fieldLink RX8 146 "TowmasterModel" "brought" "[I"] := rfl
theorem lwe981 : lw_at 981 = [Cond.fieldLink RX8 149 "TowmasterModel" "paid" "[I"] := rfl
theorem lwe982 : lw_at 982 = [Cond.fieldLink RX8 152 "TowmasterModel" "diverted" "[I"] := rfl
theorem lwe983 : lw_at 983 = [Cond.fieldLink RX8 265 "TowmasterModel" "shiftCost" "I"] := rfl
theorem lwe984 : lw_at 984 = [Cond.fieldLink RX8 244 "TowmasterModel" "cleanCost" "I"] := rfl
theorem lwe985 : lw_at 985 = [Cond.fieldLink RX8 253 "TowmasterModel" "fuelCost" "I"] := rfl
theorem lwe992 : lw_at 992 = [Cond.arrayClass .boolean] := rfl
theorem lwe993 : lw_at 993 = [Cond.methodLink RL 130 yX8_thrown] := rfl
theorem lwe994 : lw_at 994 = [Cond.instanceMethod yX8_thrown] := rfl
theorem lwe995 : lw_at 995 = [Cond.selects RX8 yX8_thrown yX8_thrown] := rfl
theorem lwe996 : lw_at 996 = [Cond.code yX8_thrown cX8_thrown 1 (some .int)] := rfl
theorem lwe997 : lw_at 997 = [Cond.methodLink RL 129 yX8_reach] := rfl
theorem lwe998 : lw_at 998 = [Cond.instanceMethod yX8_reach] := rfl
theorem lwe999 : lw_at 999 = [Cond.selects RX8 yX8_reach yX8_reach] := rfl
theorem lwe1000 : lw_at 1000 = [Cond.code yX8_reach cX8_reach 8 none] := rfl
theorem lwe1001 : lw_at 1001 = [Cond.methodLink RX8 176 yX8_isSection] := rfl
theorem lwe1002 : lw_at 1002 = [Cond.static yX8_isSection] := rfl
theorem lwe1003 : lw_at 1003 = [Cond.code yX8_isSection cX8_isSection 1 (some .boolean)] := rfl
theorem lwe1004 : lw_at 1004 = [Cond.methodLink RX8 159 yX8_in] := rfl
theorem lwe1005 : lw_at 1005 = [Cond.static yX8_in] := rfl
theorem lwe1006 : lw_at 1006 = [Cond.code yX8_in cX8_in 3 (some .boolean)] := rfl
theorem lwe1007 : lw_at 1007 = [Cond.methodLink RX8 179 yX8_boatsIn] := rfl
theorem lwe1008 : lw_at 1008 = [Cond.instanceMethod yX8_boatsIn] := rfl
theorem lwe1009 : lw_at 1009 = [Cond.code yX8_boatsIn cX8_boatsIn 4 (some .int)] := rfl
theorem lwe1010 : lw_at 1010 = [Cond.methodLink RX8 183 yX8_holds] := rfl
theorem lwe1011 : lw_at 1011 = [Cond.instanceMethod yX8_holds] := rfl
theorem lwe1012 : lw_at 1012 = [Cond.code yX8_holds cX8_holds 2 (some .boolean)] := rfl
theorem lwe1013 : lw_at 1013 = [Cond.methodLink RL 137 yX8_lock] := rfl
theorem lwe1014 : lw_at 1014 = [Cond.instanceMethod yX8_lock] := rfl
theorem lwe1015 : lw_at 1015 = [Cond.selects RX8 yX8_lock yX8_lock] := rfl
theorem lwe1016 : lw_at 1016 = [Cond.code yX8_lock cX8_lock 7 none] := rfl
theorem lwe1017 : lw_at 1017 = [Cond.methodLink RL 141 yX8_dredge] := rfl
theorem lwe1018 : lw_at 1018 = [Cond.instanceMethod yX8_dredge] := rfl
theorem lwe1019 : lw_at 1019 = [Cond.selects RX8 yX8_dredge yX8_dredge] := rfl
theorem lwe1020 : lw_at 1020 = [Cond.code yX8_dredge cX8_dredge 4 (some .int)] := rfl
theorem lwe1021 : lw_at 1021 = [Cond.methodLink RL 144 yX8_stage] := rfl
theorem lwe1022 : lw_at 1022 = [Cond.instanceMethod yX8_stage] := rfl
theorem lwe1023 : lw_at 1023 = [Cond.selects RX8 yX8_stage yX8_stage] := rfl
theorem lwe1024 : lw_at 1024 = [Cond.code yX8_stage cX8_stage 4 (some .int)] := rfl
theorem lwe1025 : lw_at 1025 = [Cond.methodLink RL 148 yX8_weather] := rfl
theorem lwe1026 : lw_at 1026 = [Cond.instanceMethod yX8_weather] := rfl
theorem lwe1027 : lw_at 1027 = [Cond.selects RX8 yX8_weather yX8_weather] := rfl
theorem lwe1028 : lw_at 1028 = [Cond.code yX8_weather cX8_weather 5 (some .int)] := rfl
theorem lwe1029 : lw_at 1029 = [Cond.methodLink RL 153 yX8_fog] := rfl
theorem lwe1030 : lw_at 1030 = [Cond.instanceMethod yX8_fog] := rfl
theorem lwe1031 : lw_at 1031 = [Cond.selects RX8 yX8_fog yX8_fog] := rfl
theorem lwe1032 : lw_at 1032 = [Cond.code yX8_fog cX8_fog 3 (some .boolean)] := rfl
theorem lwe1033 : lw_at 1033 = [Cond.methodLink RL 157 yX8_bank] := rfl
theorem lwe1034 : lw_at 1034 = [Cond.instanceMethod yX8_bank] := rfl
theorem lwe1035 : lw_at 1035 = [Cond.selects RX8 yX8_bank yX8_bank] := rfl
theorem lwe1036 : lw_at 1036 = [Cond.code yX8_bank cX8_bank 6 (some .int)] := rfl
theorem lwe1037 : lw_at 1037 = [Cond.methodLink RX8 196 yX8_isTier] := rfl
theorem lwe1038 : lw_at 1038 = [Cond.static yX8_isTier] := rfl
theorem lwe1039 : lw_at 1039 = [Cond.code yX8_isTier cX8_isTier 2 (some .boolean)] := rfl
theorem lwe1040 : lw_at 1040 = [Cond.methodLink RX8 163 yX8_isPoint] := rfl
theorem lwe1041 : lw_at 1041 = [Cond.static yX8_isPoint] := rfl
theorem lwe1042 : lw_at 1042 = [Cond.code yX8_isPoint cX8_isPoint 1 (some .boolean)] := rfl
theorem lwe1043 : lw_at 1043 = [Cond.methodLink RL 160 yX8_barge] := rfl
theorem lwe1044 : lw_at 1044 = [Cond.instanceMethod yX8_barge] := rfl
theorem lwe1045 : lw_at 1045 = [Cond.selects RX8 yX8_barge yX8_barge] := rfl
theorem lwe1046 : lw_at 1046 = [Cond.code yX8_barge cX8_barge 5 (some .int)] := rfl
theorem lwe1047 : lw_at 1047 = [Cond.methodLink RX8 200 yX8_hasRoom] := rfl
theorem lwe1048 : lw_at 1048 = [Cond.instanceMethod yX8_hasRoom] := rfl
theorem lwe1049 : lw_at 1049 = [Cond.code yX8_hasRoom cX8_hasRoom 2 (some .boolean)] := rfl
theorem lwe1050 : lw_at 1050 = [Cond.methodLink RX8 203 yX8_ties] := rfl
theorem lwe1051 : lw_at 1051 = [Cond.instanceMethod yX8_ties] := rfl
theorem lwe1052 : lw_at 1052 = [Cond.code yX8_ties cX8_ties 3 none] := rfl
theorem lwe1053 : lw_at 1053 = [Cond.methodLink RL 164 yX8_contract] := rfl
theorem lwe1054 : lw_at 1054 = [Cond.instanceMethod yX8_contract] := rfl
theorem lwe1055 : lw_at 1055 = [Cond.selects RX8 yX8_contract yX8_contract] := rfl
theorem lwe1056 : lw_at 1056 = [Cond.code yX8_contract cX8_contract 9 (some .int)] := rfl
theorem lwe1057 : lw_at 1057 = [Cond.methodLink RL 167 yX8_divert] := rfl
theorem lwe1058 : lw_at 1058 = [Cond.instanceMethod yX8_divert] := rfl
theorem lwe1059 : lw_at 1059 = [Cond.selects RX8 yX8_divert yX8_divert] := rfl
theorem lwe1060 : lw_at 1060 = [Cond.code yX8_divert cX8_divert 5 (some .int)] := rfl
theorem lwe1061 : lw_at 1061 = [Cond.methodLink RX8 207 yX8_isContract] := rfl
theorem lwe1062 : lw_at 1062 = [Cond.instanceMethod yX8_isContract] := rfl
theorem lwe1063 : lw_at 1063 = [Cond.code yX8_isContract cX8_isContract 2 (some .boolean)] := rfl
theorem lwe1064 : lw_at 1064 = [Cond.methodLink RL 170 yX8_load] := rfl
theorem lwe1065 : lw_at 1065 = [Cond.instanceMethod yX8_load] := rfl
theorem lwe1066 : lw_at 1066 = [Cond.selects RX8 yX8_load yX8_load] := rfl
theorem lwe1067 : lw_at 1067 = [Cond.code yX8_load cX8_load 6 (some .int)] := rfl
theorem lwe1068 : lw_at 1068 = [Cond.methodLink RX8 234 yX8_isBarge] := rfl
theorem lwe1069 : lw_at 1069 = [Cond.instanceMethod yX8_isBarge] := rfl
theorem lwe1070 : lw_at 1070 = [Cond.code yX8_isBarge cX8_isBarge 2 (some .boolean)] := rfl
theorem lwe1071 : lw_at 1071 = [Cond.methodLink RX8 237 yX8_canLoad] := rfl
theorem lwe1072 : lw_at 1072 = [Cond.instanceMethod yX8_canLoad] := rfl
theorem lwe1073 : lw_at 1073 = [Cond.code yX8_canLoad cX8_canLoad 7 (some .boolean)] := rfl
theorem lwe1074 : lw_at 1074 = [Cond.methodLink RX8 222 yX8_isOutermost] := rfl
theorem lwe1075 : lw_at 1075 = [Cond.instanceMethod yX8_isOutermost] := rfl
theorem lwe1076 : lw_at 1076 = [Cond.code yX8_isOutermost cX8_isOutermost 3 (some .boolean)] := rfl
theorem lwe1077 : lw_at 1077 = [Cond.methodLink RX8 210 yX8_isTied] := rfl
theorem lwe1078 : lw_at 1078 = [Cond.instanceMethod yX8_isTied] := rfl
theorem lwe1079 : lw_at 1079 = [Cond.code yX8_isTied cX8_isTied 2 (some .boolean)] := rfl
theorem lwe1080 : lw_at 1080 = [Cond.methodLink RX8 216 yX8_outside] := rfl
theorem lwe1081 : lw_at 1081 = [Cond.instanceMethod yX8_outside] := rfl
theorem lwe1082 : lw_at 1082 = [Cond.code yX8_outside cX8_outside 2 (some .int)] := rfl
theorem lwe1083 : lw_at 1083 = [Cond.methodLink RX8 213 yX8_placeOf] := rfl
theorem lwe1084 : lw_at 1084 = [Cond.instanceMethod yX8_placeOf] := rfl
theorem lwe1085 : lw_at 1085 = [Cond.code yX8_placeOf cX8_placeOf 4 (some .int)] := rfl
theorem lwe1086 : lw_at 1086 = [Cond.methodLink RX8 225 yX8_suits] := rfl
theorem lwe1087 : lw_at 1087 = [Cond.static yX8_suits] := rfl
theorem lwe1088 : lw_at 1088 = [Cond.code yX8_suits cX8_suits 2 (some .boolean)] := rfl
theorem lwe1089 : lw_at 1089 = [Cond.methodLink RX8 231 yX8_open] := rfl
theorem lwe1090 : lw_at 1090 = [Cond.instanceMethod yX8_open] := rfl
theorem lwe1091 : lw_at 1091 = [Cond.code yX8_open cX8_open 2 (some .int)] := rfl
theorem lwe1092 : lw_at 1092 = [Cond.methodLink RX8 219 yX8_inBarges] := rfl
theorem lwe1093 : lw_at 1093 = [Cond.instanceMethod yX8_inBarges] := rfl
theorem lwe1094 : lw_at 1094 = [Cond.code yX8_inBarges cX8_inBarges 4 (some .int)] := rfl
theorem lwe1095 : lw_at 1095 = [Cond.methodLink RL 174 yX8_unload] := rfl
theorem lwe1096 : lw_at 1096 = [Cond.instanceMethod yX8_unload] := rfl
theorem lwe1097 : lw_at 1097 = [Cond.selects RX8 yX8_unload yX8_unload] := rfl
theorem lwe1098 : lw_at 1098 = [Cond.code yX8_unload cX8_unload 6 (some .int)] := rfl
theorem lwe1099 : lw_at 1099 = [Cond.methodLink RX8 240 yX8_between] := rfl
theorem lwe1100 : lw_at 1100 = [Cond.static yX8_between] := rfl
theorem lwe1101 : lw_at 1101 = [Cond.code yX8_between cX8_between 2 (some .int)] := rfl
theorem lwe1102 : lw_at 1102 = [Cond.methodLink RL 177 yX8_clean] := rfl
theorem lwe1103 : lw_at 1103 = [Cond.instanceMethod yX8_clean] := rfl
theorem lwe1104 : lw_at 1104 = [Cond.selects RX8 yX8_clean yX8_clean] := rfl
theorem lwe1105 : lw_at 1105 = [Cond.code yX8_clean cX8_clean 4 (some .int)] := rfl
theorem lwe1106 : lw_at 1106 = [Cond.methodLink RL 180 yX8_boat] := rfl
theorem lwe1107 : lw_at 1107 = [Cond.instanceMethod yX8_boat] := rfl
theorem lwe1108 : lw_at 1108 = [Cond.selects RX8 yX8_boat yX8_boat] := rfl
theorem lwe1120 : lw_at 1120 = [Cond.code yX8_boat cX8_boat 5 (some .int)] := rfl
theorem lwe1121 : lw_at 1121 = [Cond.methodLink RL 183 yX8_fuel] := rfl
theorem lwe1122 : lw_at 1122 = [Cond.instanceMethod yX8_fuel] := rfl
theorem lwe1123 : lw_at 1123 = [Cond.selects RX8 yX8_fuel yX8_fuel] := rfl
theorem lwe1124 : lw_at 1124 = [Cond.code yX8_fuel cX8_fuel 4 (some .int)] := rfl
theorem lwe1125 : lw_at 1125 = [Cond.methodLink RX8 247 yX8_isBoat] := rfl
theorem lwe1126 : lw_at 1126 = [Cond.instanceMethod yX8_isBoat] := rfl
theorem lwe1127 : lw_at 1127 = [Cond.code yX8_isBoat cX8_isBoat 2 (some .boolean)] := rfl
theorem lwe1128 : lw_at 1128 = [Cond.methodLink RX8 250 yX8_stands] := rfl
theorem lwe1129 : lw_at 1129 = [Cond.instanceMethod yX8_stands] := rfl
theorem lwe1130 : lw_at 1130 = [Cond.code yX8_stands cX8_stands 2 (some .boolean)] := rfl
theorem lwe1131 : lw_at 1131 = [Cond.methodLink RL 186 yX8_wide] := rfl
theorem lwe1132 : lw_at 1132 = [Cond.instanceMethod yX8_wide] := rfl
theorem lwe1133 : lw_at 1133 = [Cond.selects RX8 yX8_wide yX8_wide] := rfl
theorem lwe1134 : lw_at 1134 = [Cond.code yX8_wide cX8_wide 5 (some .int)] := rfl
theorem lwe1135 : lw_at 1135 = [Cond.methodLink RL 189 yX8_couple] := rfl
theorem lwe1136 : lw_at 1136 = [Cond.instanceMethod yX8_couple] := rfl
theorem lwe1137 : lw_at 1137 = [Cond.selects RX8 yX8_couple yX8_couple] := rfl
theorem lwe1138 : lw_at 1138 = [Cond.code yX8_couple cX8_couple 8 (some .int)] := rfl
theorem lwe1139 : lw_at 1139 = [Cond.methodLink RX8 262 yX8_canCouple] := rfl
theorem lwe1140 : lw_at 1140 = [Cond.instanceMethod yX8_canCouple] := rfl
theorem lwe1141 : lw_at 1141 = [Cond.code yX8_canCouple cX8_canCouple 3 (some .boolean)] := rfl
theorem lwe1142 : lw_at 1142 = [Cond.methodLink RX8 259 yX8_isDangerous] := rfl
theorem lwe1143 : lw_at 1143 = [Cond.instanceMethod yX8_isDangerous] := rfl
theorem lwe1144 : lw_at 1144 = [Cond.code yX8_isDangerous cX8_isDangerous 6 (some .boolean)] := rfl
theorem lwe1145 : lw_at 1145 = [Cond.methodLink RX8 256 yX8_areUnlike] := rfl
theorem lwe1146 : lw_at 1146 = [Cond.instanceMethod yX8_areUnlike] := rfl
theorem lwe1147 : lw_at 1147 = [Cond.code yX8_areUnlike cX8_areUnlike 4 (some .boolean)] := rfl
theorem lwe1148 : lw_at 1148 = [Cond.methodLink RL 192 yX8_drop] := rfl
theorem lwe1149 : lw_at 1149 = [Cond.instanceMethod yX8_drop] := rfl
theorem lwe1150 : lw_at 1150 = [Cond.selects RX8 yX8_drop yX8_drop] := rfl
theorem lwe1151 : lw_at 1151 = [Cond.code yX8_drop cX8_drop 6 (some .int)] := rfl
theorem lwe1152 : lw_at 1152 = [Cond.methodLink RX8 275 yX8_canDrop] := rfl
theorem lwe1153 : lw_at 1153 = [Cond.instanceMethod yX8_canDrop] := rfl
theorem lwe1154 : lw_at 1154 = [Cond.code yX8_canDrop cX8_canDrop 6 (some .boolean)] := rfl
theorem lwe1155 : lw_at 1155 = [Cond.methodLink RX8 268 yX8_leaves] := rfl
theorem lwe1156 : lw_at 1156 = [Cond.instanceMethod yX8_leaves] := rfl
theorem lwe1157 : lw_at 1157 = [Cond.code yX8_leaves cX8_leaves 4 none] := rfl
theorem lwe1158 : lw_at 1158 = [Cond.methodLink RX8 271 yX8_returns] := rfl
theorem lwe1159 : lw_at 1159 = [Cond.instanceMethod yX8_returns] := rfl
theorem lwe1160 : lw_at 1160 = [Cond.code yX8_returns cX8_returns 5 none] := rfl
theorem lwe1161 : lw_at 1161 = [Cond.methodLink RL 195 yX8_radio] := rfl
theorem lwe1162 : lw_at 1162 = [Cond.instanceMethod yX8_radio] := rfl
theorem lwe1163 : lw_at 1163 = [Cond.selects RX8 yX8_radio yX8_radio] := rfl
theorem lwe1164 : lw_at 1164 = [Cond.code yX8_radio cX8_radio 6 (some .boolean)] := rfl
theorem lwe1165 : lw_at 1165 = [Cond.methodLink RL 198 yX8_go] := rfl
theorem lwe1166 : lw_at 1166 = [Cond.instanceMethod yX8_go] := rfl
theorem lwe1167 : lw_at 1167 = [Cond.selects RX8 yX8_go yX8_go] := rfl
theorem lwe1168 : lw_at 1168 = [Cond.code yX8_go cX8_go 4 (some .int)] := rfl
theorem lwe1169 : lw_at 1169 = [Cond.methodLink RL 201 yX8_pass] := rfl
theorem lwe1170 : lw_at 1170 = [Cond.instanceMethod yX8_pass] := rfl
theorem lwe1171 : lw_at 1171 = [Cond.selects RX8 yX8_pass yX8_pass] := rfl
theorem lwe1172 : lw_at 1172 = [Cond.code yX8_pass cX8_pass 3 (some .int)] := rfl
theorem lwe1173 : lw_at 1173 = [Cond.methodLink RX8 338 yX8_hour] := rfl
theorem lwe1174 : lw_at 1174 = [Cond.instanceMethod yX8_hour] := rfl
theorem lwe1175 : lw_at 1175 = [Cond.code yX8_hour cX8_hour 2 none] := rfl
theorem lwe1176 : lw_at 1176 = [Cond.methodLink RX8 328 yX8_held] := rfl
theorem lwe1177 : lw_at 1177 = [Cond.static yX8_held] := rfl
theorem lwe1178 : lw_at 1178 = [Cond.code yX8_held cX8_held 1 (some .int)] := rfl
theorem lwe1179 : lw_at 1179 = [Cond.methodLink RX8 331 yX8_moves] := rfl
theorem lwe1180 : lw_at 1180 = [Cond.instanceMethod yX8_moves] := rfl
theorem lwe1181 : lw_at 1181 = [Cond.code yX8_moves cX8_moves 3 none] := rfl
theorem lwe1182 : lw_at 1182 = [Cond.methodLink RX8 278 yX8_draughtOf] := rfl
theorem lwe1183 : lw_at 1183 = [Cond.instanceMethod yX8_draughtOf] := rfl
theorem lwe1184 : lw_at 1184 = [Cond.code yX8_draughtOf cX8_draughtOf 5 (some .int)] := rfl
theorem lwe1185 : lw_at 1185 = [Cond.methodLink RX8 316 yX8_waits] := rfl
theorem lwe1186 : lw_at 1186 = [Cond.instanceMethod yX8_waits] := rfl
theorem lwe1187 : lw_at 1187 = [Cond.code yX8_waits cX8_waits 3 none] := rfl
theorem lwe1188 : lw_at 1188 = [Cond.methodLink RX8 318 yX8_comes] := rfl
theorem lwe1189 : lw_at 1189 = [Cond.instanceMethod yX8_comes] := rfl
theorem lwe1190 : lw_at 1190 = [Cond.code yX8_comes cX8_comes 3 none] := rfl
theorem lwe1191 : lw_at 1191 = [Cond.methodLink RX8 334 yX8_starts] := rfl
theorem lwe1192 : lw_at 1192 = [Cond.instanceMethod yX8_starts] := rfl
theorem lwe1193 : lw_at 1193 = [Cond.code yX8_starts cX8_starts 4 none] := rfl
theorem lwe1194 : lw_at 1194 = [Cond.methodLink RX8 291 yX8_isUp] := rfl
theorem lwe1195 : lw_at 1195 = [Cond.instanceMethod yX8_isUp] := rfl
theorem lwe1196 : lw_at 1196 = [Cond.code yX8_isUp cX8_isUp 2 (some .boolean)] := rfl
theorem lwe1197 : lw_at 1197 = [Cond.methodLink RX8 322 yX8_barsNow] := rfl
theorem lwe1198 : lw_at 1198 = [Cond.instanceMethod yX8_barsNow] := rfl
theorem lwe1199 : lw_at 1199 = [Cond.code yX8_barsNow cX8_barsNow 4 (some .int)] := rfl
theorem lwe1200 : lw_at 1200 = [Cond.methodLink RX8 304 yX8_early] := rfl
theorem lwe1201 : lw_at 1201 = [Cond.instanceMethod yX8_early] := rfl
theorem lwe1202 : lw_at 1202 = [Cond.code yX8_early cX8_early 5 (some .int)] := rfl
theorem lwe1203 : lw_at 1203 = [Cond.methodLink RX8 294 yX8_nextOf] := rfl
theorem lwe1204 : lw_at 1204 = [Cond.instanceMethod yX8_nextOf] := rfl
theorem lwe1205 : lw_at 1205 = [Cond.code yX8_nextOf cX8_nextOf 2 (some .int)] := rfl
theorem lwe1206 : lw_at 1206 = [Cond.methodLink RX8 297 yX8_unfit] := rfl
theorem lwe1207 : lw_at 1207 = [Cond.instanceMethod yX8_unfit] := rfl
theorem lwe1208 : lw_at 1208 = [Cond.code yX8_unfit cX8_unfit 5 (some .int)] := rfl
theorem lwe1209 : lw_at 1209 = [Cond.methodLink RX8 281 yX8_widthOf] := rfl
theorem lwe1210 : lw_at 1210 = [Cond.instanceMethod yX8_widthOf] := rfl
theorem lwe1211 : lw_at 1211 = [Cond.code yX8_widthOf cX8_widthOf 2 (some .int)] := rfl
theorem lwe1212 : lw_at 1212 = [Cond.methodLink RX8 284 yX8_weightOf] := rfl
theorem lwe1213 : lw_at 1213 = [Cond.instanceMethod yX8_weightOf] := rfl
theorem lwe1214 : lw_at 1214 = [Cond.code yX8_weightOf cX8_weightOf 4 (some .int)] := rfl
theorem lwe1215 : lw_at 1215 = [Cond.methodLink RX8 287 yX8_mostOf] := rfl
theorem lwe1216 : lw_at 1216 = [Cond.instanceMethod yX8_mostOf] := rfl
theorem lwe1217 : lw_at 1217 = [Cond.code yX8_mostOf cX8_mostOf 3 (some .int)] := rfl
theorem lwe1218 : lw_at 1218 = [Cond.methodLink RX8 301 yX8_hoursIn] := rfl
theorem lwe1219 : lw_at 1219 = [Cond.instanceMethod yX8_hoursIn] := rfl
theorem lwe1220 : lw_at 1220 = [Cond.code yX8_hoursIn cX8_hoursIn 5 (some .int)] := rfl
theorem lwe1221 : lw_at 1221 = [Cond.methodLink RX8 310 yX8_meets] := rfl
theorem lwe1222 : lw_at 1222 = [Cond.instanceMethod yX8_meets] := rfl
theorem lwe1223 : lw_at 1223 = [Cond.code yX8_meets cX8_meets 6 (some .boolean)] := rfl
theorem lwe1224 : lw_at 1224 = [Cond.methodLink RX8 313 yX8_aheadAt] := rfl
theorem lwe1225 : lw_at 1225 = [Cond.instanceMethod yX8_aheadAt] := rfl
theorem lwe1226 : lw_at 1226 = [Cond.code yX8_aheadAt cX8_aheadAt 4 (some .int)] := rfl
theorem lwe1227 : lw_at 1227 = [Cond.methodLink RX8 307 yX8_aheadIn] := rfl
theorem lwe1228 : lw_at 1228 = [Cond.instanceMethod yX8_aheadIn] := rfl
theorem lwe1229 : lw_at 1229 = [Cond.code yX8_aheadIn cX8_aheadIn 6 (some .int)] := rfl
theorem lwe1230 : lw_at 1230 = [Cond.methodLink RX8 325 yX8_enters] := rfl
theorem lwe1231 : lw_at 1231 = [Cond.instanceMethod yX8_enters] := rfl
theorem lwe1232 : lw_at 1232 = [Cond.code yX8_enters cX8_enters 5 none] := rfl
theorem lwe1233 : lw_at 1233 = [Cond.methodLink RL 204 yX8_water] := rfl
theorem lwe1234 : lw_at 1234 = [Cond.instanceMethod yX8_water] := rfl
theorem lwe1235 : lw_at 1235 = [Cond.selects RX8 yX8_water yX8_water] := rfl
theorem lwe1236 : lw_at 1236 = [Cond.code yX8_water cX8_water 3 (some .int)] := rfl
theorem lwe1237 : lw_at 1237 = [Cond.methodLink RL 208 yX8_most] := rfl
theorem lwe1238 : lw_at 1238 = [Cond.instanceMethod yX8_most] := rfl
theorem lwe1239 : lw_at 1239 = [Cond.selects RX8 yX8_most yX8_most] := rfl
theorem lwe1240 : lw_at 1240 = [Cond.code yX8_most cX8_most 3 (some .int)] := rfl
theorem lwe1241 : lw_at 1241 = [Cond.methodLink RL 211 yX8_hours] := rfl
theorem lwe1242 : lw_at 1242 = [Cond.instanceMethod yX8_hours] := rfl
theorem lwe1243 : lw_at 1243 = [Cond.selects RX8 yX8_hours yX8_hours] := rfl
theorem lwe1244 : lw_at 1244 = [Cond.code yX8_hours cX8_hours 8 (some .int)] := rfl
theorem lwe1245 : lw_at 1245 = [Cond.methodLink RL 214 yX8_bars] := rfl
theorem lwe1246 : lw_at 1246 = [Cond.instanceMethod yX8_bars] := rfl
theorem lwe1247 : lw_at 1247 = [Cond.selects RX8 yX8_bars yX8_bars] := rfl
theorem lwe1248 : lw_at 1248 = [Cond.code yX8_bars cX8_bars 2 (some .int)] := rfl
theorem lwe1249 : lw_at 1249 = [Cond.methodLink RL 217 yX8_ofBoat] := rfl
theorem lwe1250 : lw_at 1250 = [Cond.instanceMethod yX8_ofBoat] := rfl
theorem lwe1251 : lw_at 1251 = [Cond.selects RX8 yX8_ofBoat yX8_ofBoat] := rfl
theorem lwe1252 : lw_at 1252 = [Cond.code yX8_ofBoat cX8_ofBoat 3 (some .int)] := rfl
theorem lwe1253 : lw_at 1253 = [Cond.methodLink RX8 341 yX8_told] := rfl
theorem lwe1254 : lw_at 1254 = [Cond.instanceMethod yX8_told] := rfl
theorem lwe1255 : lw_at 1255 = [Cond.code yX8_told cX8_told 3 (some .int)] := rfl
theorem lwe1256 : lw_at 1256 = [Cond.methodLink RL 220 yX8_waited] := rfl
theorem lwe1257 : lw_at 1257 = [Cond.instanceMethod yX8_waited] := rfl
theorem lwe1258 : lw_at 1258 = [Cond.selects RX8 yX8_waited yX8_waited] := rfl
theorem lwe1259 : lw_at 1259 = [Cond.code yX8_waited cX8_waited 3 (some .int)] := rfl
theorem lwe1260 : lw_at 1260 = [Cond.methodLink RL 223 yX8_ofBarge] := rfl
theorem lwe1261 : lw_at 1261 = [Cond.instanceMethod yX8_ofBarge] := rfl
theorem lwe1262 : lw_at 1262 = [Cond.selects RX8 yX8_ofBarge yX8_ofBarge] := rfl
theorem lwe1263 : lw_at 1263 = [Cond.code yX8_ofBarge cX8_ofBarge 3 (some .int)] := rfl
theorem lwe1264 : lw_at 1264 = [Cond.methodLink RX8 344 yX8_whereIs] := rfl
theorem lwe1265 : lw_at 1265 = [Cond.instanceMethod yX8_whereIs] := rfl
theorem lwe1266 : lw_at 1266 = [Cond.code yX8_whereIs cX8_whereIs 3 (some .int)] := rfl
theorem lwe1267 : lw_at 1267 = [Cond.methodLink RL 226 yX8_placeAnew] := rfl
theorem lwe1268 : lw_at 1268 = [Cond.instanceMethod yX8_placeAnew] := rfl
theorem lwe1269 : lw_at 1269 = [Cond.selects RX8 yX8_placeAnew yX8_placeAnew] := rfl
theorem lwe1270 : lw_at 1270 = [Cond.code yX8_placeAnew cX8_placeAnew 2 (some .int)] := rfl
theorem lwe1271 : lw_at 1271 = [Cond.methodLink RL 229 yX8_shifts] := rfl
theorem lwe1272 : lw_at 1272 = [Cond.instanceMethod yX8_shifts] := rfl
theorem lwe1273 : lw_at 1273 = [Cond.selects RX8 yX8_shifts yX8_shifts] := rfl
theorem lwe1274 : lw_at 1274 = [Cond.code yX8_shifts cX8_shifts 8 (some .int)] := rfl
theorem lwe1275 : lw_at 1275 = [Cond.methodLink RX8 347 yX8_isSet] := rfl
theorem lwe1276 : lw_at 1276 = [Cond.instanceMethod yX8_isSet] := rfl
theorem lwe1277 : lw_at 1277 = [Cond.code yX8_isSet cX8_isSet 7 (some .boolean)] := rfl
theorem lwe1278 : lw_at 1278 = [Cond.methodLink RL 232 yX8_shiftsAnew] := rfl
theorem lwe1279 : lw_at 1279 = [Cond.instanceMethod yX8_shiftsAnew] := rfl
theorem lwe1280 : lw_at 1280 = [Cond.selects RX8 yX8_shiftsAnew yX8_shiftsAnew] := rfl
theorem lwe1281 : lw_at 1281 = [Cond.code yX8_shiftsAnew cX8_shiftsAnew 3 (some .int)] := rfl
theorem lwe1282 : lw_at 1282 = [Cond.methodLink RX8 350 yX8_shifts] := rfl
theorem lwe1283 : lw_at 1283 = [Cond.methodLink RL 235 yX8_ofContract] := rfl
theorem lwe1284 : lw_at 1284 = [Cond.instanceMethod yX8_ofContract] := rfl
theorem lwe1285 : lw_at 1285 = [Cond.selects RX8 yX8_ofContract yX8_ofContract] := rfl
theorem lwe1286 : lw_at 1286 = [Cond.code yX8_ofContract cX8_ofContract 3 (some .int)] := rfl
theorem lwe1287 : lw_at 1287 = [Cond.methodLink RL 238 yX8_all] := rfl
theorem lwe1288 : lw_at 1288 = [Cond.instanceMethod yX8_all] := rfl
theorem lwe1289 : lw_at 1289 = [Cond.selects RX8 yX8_all yX8_all] := rfl
theorem lwe1290 : lw_at 1290 = [Cond.code yX8_all cX8_all 4 (some .int)] := rfl
theorem lwe1291 : lw_at 1291 = [Cond.arrayClass .long] := rfl
theorem lwe1292 : lw_at 1292 = [Cond.selects "[Ljava/lang/Object;" ⟨"java/lang/Object", "getClass", "()Ljava/lang/Class;"⟩ ⟨"java/lang/Object", "getClass", "()Ljava/lang/Class;"⟩] := rfl
