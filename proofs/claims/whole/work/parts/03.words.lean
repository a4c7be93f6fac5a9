theorem i_t1 : ∀ w ∈ tables_1_1, w ∈ lw_tbl := fun w h => List.mem_append_right _ (List.mem_append_left _ h)
theorem i_t2 : ∀ w ∈ tables_1_2, w ∈ lw_tbl := fun w h => List.mem_append_right _ (List.mem_append_right _ (List.mem_append_left _ h))
theorem i_t3 : ∀ w ∈ tables_1_3, w ∈ lw_tbl := fun w h => List.mem_append_right _ (List.mem_append_right _ (List.mem_append_right _ (List.mem_append_left _ h)))
theorem i_t4 : ∀ w ∈ tables_1_4, w ∈ lw_tbl := fun w h => List.mem_append_right _ (List.mem_append_right _ (List.mem_append_right _ (List.mem_append_right _ h)))
/-- the words that keep: every contract stands on them -/
def tb : List Cond := lw_tbl.filter goodWord
theorem tbl_in {ws : List Cond} (h : ∀ w ∈ ws, w ∈ tb) : GoodIn tb ws := fun w hw => ⟨h w hw, good_of_word (List.mem_filter.mp (h w hw)).2⟩
theorem mt {w : Cond} (h : w ∈ lw_tbl) (hg : goodWord w = true) : w ∈ tb := List.mem_filter.mpr ⟨h, hg⟩
theorem in_L : Cond.initialized RL ∈ tb := mt (i_t1 _ (List.mem_of_getElem? (i := 0) rfl)) rfl
theorem in_X6 : Cond.initialized RX6 ∈ tb := mt (i_t1 _ (List.mem_of_getElem? (i := 1) rfl)) rfl
theorem in_X2 : Cond.initialized RX2 ∈ tb := mt (i_t1 _ (List.mem_of_getElem? (i := 2) rfl)) rfl
theorem in_X5 : Cond.initialized RX5 ∈ tb := mt (i_t1 _ (List.mem_of_getElem? (i := 3) rfl)) rfl
theorem in_X4 : Cond.initialized RX4 ∈ tb := mt (i_t1 _ (List.mem_of_getElem? (i := 4) rfl)) rfl
theorem in_X3 : Cond.initialized RX3 ∈ tb := mt (i_t1 _ (List.mem_of_getElem? (i := 5) rfl)) rfl
theorem in_J9 : Cond.initialized "java/lang/Math" ∈ tb := mt (i_t1 _ (List.mem_of_getElem? (i := 6) rfl)) rfl
theorem in_X1 : Cond.initialized RX1 ∈ tb := mt (i_t1 _ (List.mem_of_getElem? (i := 7) rfl)) rfl
theorem in_X0 : Cond.initialized RX0 ∈ tb := mt (i_t1 _ (List.mem_of_getElem? (i := 8) rfl)) rfl
theorem in_X7 : Cond.initialized RX7 ∈ tb := mt (i_t1 _ (List.mem_of_getElem? (i := 9) rfl)) rfl
theorem cl_L_7 : Cond.classLink RL 7 RX6 ∈ tb := mt (i_t1 _ (List.mem_of_getElem? (i := 10) rfl)) rfl
theorem ib_X6 : Cond.instantiable RX6 6 ∈ tb := mt (i_t1 _ (List.mem_of_getElem? (i := 11) rfl)) rfl
theorem ml_L_9 : Cond.methodLink RL 9 yX6_init ∈ tb := mt (i_t1 _ (List.mem_of_getElem? (i := 12) rfl)) rfl
theorem im_X6_init : Cond.instanceMethod yX6_init ∈ tb := mt (i_t1 _ (List.mem_of_getElem? (i := 13) rfl)) rfl
theorem co_X6_init : Cond.code yX6_init cX6_init 1 none ∈ tb := mt (i_t1 _ (List.mem_of_getElem? (i := 14) rfl)) rfl
theorem ml_X6_3 : Cond.methodLink RX6 3 objectInit ∈ tb := mt (i_t1 _ (List.mem_of_getElem? (i := 15) rfl)) rfl
theorem im_objInit : Cond.instanceMethod objectInit ∈ tb := mt (i_t1 _ (List.mem_of_getElem? (i := 16) rfl)) rfl
theorem co_objInit : Cond.code objectInit ⟨#[0xb1]⟩ 1 none ∈ tb := mt (i_t1 _ (List.mem_of_getElem? (i := 17) rfl)) rfl
theorem cl_X6_9 : Cond.classLink RX6 9 RX2 ∈ tb := mt (i_t1 _ (List.mem_of_getElem? (i := 18) rfl)) rfl
theorem ib_X2 : Cond.instantiable RX2 3 ∈ tb := mt (i_t1 _ (List.mem_of_getElem? (i := 19) rfl)) rfl
theorem ml_X6_11 : Cond.methodLink RX6 11 yX2_init ∈ tb := mt (i_t1 _ (List.mem_of_getElem? (i := 20) rfl)) rfl
theorem im_X2_init : Cond.instanceMethod yX2_init ∈ tb := mt (i_t1 _ (List.mem_of_getElem? (i := 21) rfl)) rfl
theorem co_X2_init : Cond.code yX2_init cX2_init 1 none ∈ tb := mt (i_t1 _ (List.mem_of_getElem? (i := 22) rfl)) rfl
theorem ml_X2_3 : Cond.methodLink RX2 3 objectInit ∈ tb := mt (i_t1 _ (List.mem_of_getElem? (i := 23) rfl)) rfl
theorem fl_X2_9 : Cond.fieldLink RX2 9 "ThenTables$Loads" "undoneOn" "[I" ∈ tb := mt (i_t1 _ (List.mem_of_getElem? (i := 24) rfl)) rfl
theorem fl_X2_15 : Cond.fieldLink RX2 15 "ThenTables$Loads" "size" "I" ∈ tb := mt (i_t1 _ (List.mem_of_getElem? (i := 25) rfl)) rfl
theorem fl_X2_19 : Cond.fieldLink RX2 19 "ThenTables$Loads" "undone" "I" ∈ tb := mt (i_t1 _ (List.mem_of_getElem? (i := 26) rfl)) rfl
theorem ac_I : Cond.arrayClass .int ∈ tb := mt (i_t1 _ (List.mem_of_getElem? (i := 34) rfl)) rfl
theorem cl_X6_16 : Cond.classLink RX6 16 RX5 ∈ tb := mt (i_t1 _ (List.mem_of_getElem? (i := 35) rfl)) rfl
theorem ib_X5 : Cond.instantiable RX5 10 ∈ tb := mt (i_t1 _ (List.mem_of_getElem? (i := 36) rfl)) rfl
theorem ml_X6_18 : Cond.methodLink RX6 18 yX5_init ∈ tb := mt (i_t1 _ (List.mem_of_getElem? (i := 37) rfl)) rfl
theorem im_X5_init : Cond.instanceMethod yX5_init ∈ tb := mt (i_t1 _ (List.mem_of_getElem? (i := 38) rfl)) rfl
theorem co_X5_init : Cond.code yX5_init cX5_init 1 none ∈ tb := mt (i_t1 _ (List.mem_of_getElem? (i := 39) rfl)) rfl
theorem ml_X5_3 : Cond.methodLink RX5 3 objectInit ∈ tb := mt (i_t1 _ (List.mem_of_getElem? (i := 40) rfl)) rfl
theorem fl_X5_9 : Cond.fieldLink RX5 9 "ThenTables$Things" "codes" "[I" ∈ tb := mt (i_t1 _ (List.mem_of_getElem? (i := 41) rfl)) rfl
theorem fl_X5_15 : Cond.fieldLink RX5 15 "ThenTables$Things" "births" "[I" ∈ tb := mt (i_t1 _ (List.mem_of_getElem? (i := 42) rfl)) rfl
theorem fl_X5_18 : Cond.fieldLink RX5 18 "ThenTables$Things" "bornKnownFrom" "[I" ∈ tb := mt (i_t1 _ (List.mem_of_getElem? (i := 43) rfl)) rfl
theorem fl_X5_21 : Cond.fieldLink RX5 21 "ThenTables$Things" "endDays" "[I" ∈ tb := mt (i_t1 _ (List.mem_of_getElem? (i := 44) rfl)) rfl
theorem fl_X5_24 : Cond.fieldLink RX5 24 "ThenTables$Things" "endKnownFrom" "[I" ∈ tb := mt (i_t1 _ (List.mem_of_getElem? (i := 45) rfl)) rfl
theorem fl_X5_27 : Cond.fieldLink RX5 27 "ThenTables$Things" "endings" "[I" ∈ tb := mt (i_t1 _ (List.mem_of_getElem? (i := 46) rfl)) rfl
theorem fl_X5_30 : Cond.fieldLink RX5 30 "ThenTables$Things" "heirs" "[I" ∈ tb := mt (i_t1 _ (List.mem_of_getElem? (i := 47) rfl)) rfl
theorem fl_X5_33 : Cond.fieldLink RX5 33 "ThenTables$Things" "shareParts" "[I" ∈ tb := mt (i_t1 _ (List.mem_of_getElem? (i := 48) rfl)) rfl
theorem fl_X5_36 : Cond.fieldLink RX5 36 "ThenTables$Things" "shareWholes" "[I" ∈ tb := mt (i_t1 _ (List.mem_of_getElem? (i := 49) rfl)) rfl
theorem fl_X5_39 : Cond.fieldLink RX5 39 "ThenTables$Things" "size" "I" ∈ tb := mt (i_t1 _ (List.mem_of_getElem? (i := 50) rfl)) rfl
theorem cl_X6_23 : Cond.classLink RX6 23 RX4 ∈ tb := mt (i_t1 _ (List.mem_of_getElem? (i := 72) rfl)) rfl
theorem ib_X4 : Cond.instantiable RX4 5 ∈ tb := mt (i_t1 _ (List.mem_of_getElem? (i := 73) rfl)) rfl
theorem ml_X6_25 : Cond.methodLink RX6 25 yX4_init ∈ tb := mt (i_t1 _ (List.mem_of_getElem? (i := 74) rfl)) rfl
theorem im_X4_init : Cond.instanceMethod yX4_init ∈ tb := mt (i_t1 _ (List.mem_of_getElem? (i := 75) rfl)) rfl
theorem co_X4_init : Cond.code yX4_init cX4_init 2 none ∈ tb := mt (i_t1 _ (List.mem_of_getElem? (i := 76) rfl)) rfl
theorem ml_X4_3 : Cond.methodLink RX4 3 objectInit ∈ tb := mt (i_t1 _ (List.mem_of_getElem? (i := 77) rfl)) rfl
theorem cl_X4_9 : Cond.classLink RX4 9 RX3 ∈ tb := mt (i_t1 _ (List.mem_of_getElem? (i := 78) rfl)) rfl
theorem ib_X3 : Cond.instantiable RX3 5 ∈ tb := mt (i_t1 _ (List.mem_of_getElem? (i := 79) rfl)) rfl
theorem ml_X4_11 : Cond.methodLink RX4 11 yX3_init ∈ tb := mt (i_t1 _ (List.mem_of_getElem? (i := 80) rfl)) rfl
theorem im_X3_init : Cond.instanceMethod yX3_init ∈ tb := mt (i_t1 _ (List.mem_of_getElem? (i := 81) rfl)) rfl
theorem co_X3_init : Cond.code yX3_init cX3_init 3 none ∈ tb := mt (i_t1 _ (List.mem_of_getElem? (i := 82) rfl)) rfl
theorem ml_X3_3 : Cond.methodLink RX3 3 objectInit ∈ tb := mt (i_t1 _ (List.mem_of_getElem? (i := 83) rfl)) rfl
theorem ml_X3_15 : Cond.methodLink RX3 15 Lib.Math.max.name ∈ tb := mt (i_t1 _ (List.mem_of_getElem? (i := 84) rfl)) rfl
theorem st_Lib_Math_max_name : Cond.static Lib.Math.max.name ∈ tb := mt (i_t1 _ (List.mem_of_getElem? (i := 85) rfl)) rfl
theorem co_Lib_Math_max_name : Cond.code Lib.Math.max.name Lib.Math.max.code 2 (some .int) ∈ tb := mt (i_t1 _ (List.mem_of_getElem? (i := 86) rfl)) rfl
theorem fl_X3_9 : Cond.fieldLink RX3 9 "ThenTables$Log" "loads" "LThenTables$Loads;" ∈ tb := mt (i_t1 _ (List.mem_of_getElem? (i := 87) rfl)) rfl
theorem fl_X3_25 : Cond.fieldLink RX3 25 "ThenTables$Log" "toldOn" "[I" ∈ tb := mt (i_t1 _ (List.mem_of_getElem? (i := 88) rfl)) rfl
theorem fl_X3_29 : Cond.fieldLink RX3 29 "ThenTables$Log" "loadOf" "[I" ∈ tb := mt (i_t1 _ (List.mem_of_getElem? (i := 89) rfl)) rfl
theorem fl_X3_21 : Cond.fieldLink RX3 21 "ThenTables$Log" "most" "I" ∈ tb := mt (i_t1 _ (List.mem_of_getElem? (i := 90) rfl)) rfl
theorem fl_X3_32 : Cond.fieldLink RX3 32 "ThenTables$Log" "size" "I" ∈ tb := mt (i_t1 _ (List.mem_of_getElem? (i := 91) rfl)) rfl
theorem fl_X4_14 : Cond.fieldLink RX4 14 "ThenTables$Tellings" "log" "LThenTables$Log;" ∈ tb := mt (i_t1 _ (List.mem_of_getElem? (i := 103) rfl)) rfl
theorem fl_X4_20 : Cond.fieldLink RX4 20 "ThenTables$Tellings" "thingOf" "[I" ∈ tb := mt (i_t1 _ (List.mem_of_getElem? (i := 104) rfl)) rfl
theorem fl_X4_24 : Cond.fieldLink RX4 24 "ThenTables$Tellings" "markOf" "[I" ∈ tb := mt (i_t1 _ (List.mem_of_getElem? (i := 105) rfl)) rfl
theorem fl_X4_27 : Cond.fieldLink RX4 27 "ThenTables$Tellings" "fromOf" "[I" ∈ tb := mt (i_t1 _ (List.mem_of_getElem? (i := 106) rfl)) rfl
theorem fl_X4_30 : Cond.fieldLink RX4 30 "ThenTables$Tellings" "valueOf" "[I" ∈ tb := mt (i_t1 _ (List.mem_of_getElem? (i := 107) rfl)) rfl
theorem cl_X6_32 : Cond.classLink RX6 32 RX1 ∈ tb := mt (i_t1 _ (List.mem_of_getElem? (i := 119) rfl)) rfl
theorem ib_X1 : Cond.instantiable RX1 4 ∈ tb := mt (i_t1 _ (List.mem_of_getElem? (i := 120) rfl)) rfl
theorem ml_X6_34 : Cond.methodLink RX6 34 yX1_init ∈ tb := mt (i_t1 _ (List.mem_of_getElem? (i := 121) rfl)) rfl
theorem im_X1_init : Cond.instanceMethod yX1_init ∈ tb := mt (i_t1 _ (List.mem_of_getElem? (i := 122) rfl)) rfl
theorem co_X1_init : Cond.code yX1_init cX1_init 2 none ∈ tb := mt (i_t1 _ (List.mem_of_getElem? (i := 123) rfl)) rfl
theorem ml_X1_3 : Cond.methodLink RX1 3 objectInit ∈ tb := mt (i_t1 _ (List.mem_of_getElem? (i := 124) rfl)) rfl
theorem cl_X1_9 : Cond.classLink RX1 9 RX3 ∈ tb := mt (i_t1 _ (List.mem_of_getElem? (i := 125) rfl)) rfl
theorem ml_X1_11 : Cond.methodLink RX1 11 yX3_init ∈ tb := mt (i_t1 _ (List.mem_of_getElem? (i := 126) rfl)) rfl
theorem fl_X1_14 : Cond.fieldLink RX1 14 "ThenTables$Facts" "log" "LThenTables$Log;" ∈ tb := mt (i_t1 _ (List.mem_of_getElem? (i := 127) rfl)) rfl
theorem fl_X1_20 : Cond.fieldLink RX1 20 "ThenTables$Facts" "codes" "[I" ∈ tb := mt (i_t1 _ (List.mem_of_getElem? (i := 128) rfl)) rfl
theorem fl_X1_24 : Cond.fieldLink RX1 24 "ThenTables$Facts" "days" "[I" ∈ tb := mt (i_t1 _ (List.mem_of_getElem? (i := 129) rfl)) rfl
theorem fl_X1_27 : Cond.fieldLink RX1 27 "ThenTables$Facts" "amounts" "[I" ∈ tb := mt (i_t1 _ (List.mem_of_getElem? (i := 130) rfl)) rfl
theorem cl_X6_39 : Cond.classLink RX6 39 RX0 ∈ tb := mt (i_t1 _ (List.mem_of_getElem? (i := 140) rfl)) rfl
theorem ib_X0 : Cond.instantiable RX0 5 ∈ tb := mt (i_t1 _ (List.mem_of_getElem? (i := 141) rfl)) rfl
theorem ml_X6_41 : Cond.methodLink RX6 41 yX0_init ∈ tb := mt (i_t1 _ (List.mem_of_getElem? (i := 142) rfl)) rfl
theorem im_X0_init : Cond.instanceMethod yX0_init ∈ tb := mt (i_t1 _ (List.mem_of_getElem? (i := 143) rfl)) rfl
theorem co_X0_init : Cond.code yX0_init cX0_init 2 none ∈ tb := mt (i_t1 _ (List.mem_of_getElem? (i := 144) rfl)) rfl
theorem ml_X0_3 : Cond.methodLink RX0 3 objectInit ∈ tb := mt (i_t1 _ (List.mem_of_getElem? (i := 145) rfl)) rfl
theorem fl_X0_9 : Cond.fieldLink RX0 9 "ThenTables$Carrying" "things" "LThenTables$Things;" ∈ tb := mt (i_t1 _ (List.mem_of_getElem? (i := 146) rfl)) rfl
theorem fl_X0_15 : Cond.fieldLink RX0 15 "ThenTables$Carrying" "staying" "[J" ∈ tb := mt (i_t1 _ (List.mem_of_getElem? (i := 147) rfl)) rfl
theorem fl_X0_19 : Cond.fieldLink RX0 19 "ThenTables$Carrying" "lost" "J" ∈ tb := mt (i_t1 _ (List.mem_of_getElem? (i := 148) rfl)) rfl
theorem fl_X0_23 : Cond.fieldLink RX0 23 "ThenTables$Carrying" "onDay" "I" ∈ tb := mt (i_t1 _ (List.mem_of_getElem? (i := 149) rfl)) rfl
theorem fl_X0_27 : Cond.fieldLink RX0 27 "ThenTables$Carrying" "asKnown" "I" ∈ tb := mt (i_t1 _ (List.mem_of_getElem? (i := 150) rfl)) rfl
theorem ac_J : Cond.arrayClass .long ∈ tb := mt (i_t1 _ (List.mem_of_getElem? (i := 162) rfl)) rfl
theorem fl_X6_12 : Cond.fieldLink RX6 12 "ThenTables" "loads" "LThenTables$Loads;" ∈ tb := mt (i_t1 _ (List.mem_of_getElem? (i := 163) rfl)) rfl
theorem fl_X6_19 : Cond.fieldLink RX6 19 "ThenTables" "things" "LThenTables$Things;" ∈ tb := mt (i_t1 _ (List.mem_of_getElem? (i := 164) rfl)) rfl
theorem fl_X6_28 : Cond.fieldLink RX6 28 "ThenTables" "tellings" "LThenTables$Tellings;" ∈ tb := mt (i_t1 _ (List.mem_of_getElem? (i := 165) rfl)) rfl
theorem fl_X6_35 : Cond.fieldLink RX6 35 "ThenTables" "facts" "LThenTables$Facts;" ∈ tb := mt (i_t1 _ (List.mem_of_getElem? (i := 166) rfl)) rfl
theorem fl_X6_44 : Cond.fieldLink RX6 44 "ThenTables" "carrying" "LThenTables$Carrying;" ∈ tb := mt (i_t1 _ (List.mem_of_getElem? (i := 167) rfl)) rfl
theorem fl_X6_48 : Cond.fieldLink RX6 48 "ThenTables" "today" "I" ∈ tb := mt (i_t1 _ (List.mem_of_getElem? (i := 168) rfl)) rfl
theorem ml_L_13 : Cond.methodLink RL 13 yX6_day ∈ tb := mt (i_t1 _ (List.mem_of_getElem? (i := 182) rfl)) rfl
theorem im_X6_day : Cond.instanceMethod yX6_day ∈ tb := mt (i_t1 _ (List.mem_of_getElem? (i := 183) rfl)) rfl
theorem se_X6_day : Cond.selects RX6 yX6_day yX6_day ∈ tb := mt (i_t1 _ (List.mem_of_getElem? (i := 184) rfl)) rfl
theorem co_X6_day : Cond.code yX6_day cX6_day 2 (some .boolean) ∈ tb := mt (i_t1 _ (List.mem_of_getElem? (i := 185) rfl)) rfl
theorem ml_L_18 : Cond.methodLink RL 18 yX6_born ∈ tb := mt (i_t1 _ (List.mem_of_getElem? (i := 186) rfl)) rfl
theorem im_X6_born : Cond.instanceMethod yX6_born ∈ tb := mt (i_t1 _ (List.mem_of_getElem? (i := 187) rfl)) rfl
theorem se_X6_born : Cond.selects RX6 yX6_born yX6_born ∈ tb := mt (i_t1 _ (List.mem_of_getElem? (i := 188) rfl)) rfl
theorem co_X6_born : Cond.code yX6_born cX6_born 3 (some .int) ∈ tb := mt (i_t1 _ (List.mem_of_getElem? (i := 189) rfl)) rfl
theorem ml_X6_52 : Cond.methodLink RX6 52 yX6_isCode ∈ tb := mt (i_t1 _ (List.mem_of_getElem? (i := 190) rfl)) rfl
theorem st_X6_isCode : Cond.static yX6_isCode ∈ tb := mt (i_t1 _ (List.mem_of_getElem? (i := 191) rfl)) rfl
theorem co_X6_isCode : Cond.code yX6_isCode cX6_isCode 1 (some .boolean) ∈ tb := mt (i_t1 _ (List.mem_of_getElem? (i := 192) rfl)) rfl
theorem ml_X6_56 : Cond.methodLink RX6 56 yX6_isDay ∈ tb := mt (i_t1 _ (List.mem_of_getElem? (i := 193) rfl)) rfl
theorem st_X6_isDay : Cond.static yX6_isDay ∈ tb := mt (i_t1 _ (List.mem_of_getElem? (i := 194) rfl)) rfl
theorem co_X6_isDay : Cond.code yX6_isDay cX6_isDay 1 (some .boolean) ∈ tb := mt (i_t1 _ (List.mem_of_getElem? (i := 195) rfl)) rfl
theorem ml_X6_59 : Cond.methodLink RX6 59 yX5_isTaken ∈ tb := mt (i_t1 _ (List.mem_of_getElem? (i := 196) rfl)) rfl
theorem im_X5_isTaken : Cond.instanceMethod yX5_isTaken ∈ tb := mt (i_t1 _ (List.mem_of_getElem? (i := 197) rfl)) rfl
theorem se_X5_isTaken : Cond.selects RX5 yX5_isTaken yX5_isTaken ∈ tb := mt (i_t1 _ (List.mem_of_getElem? (i := 198) rfl)) rfl
theorem co_X5_isTaken : Cond.code yX5_isTaken cX5_isTaken 6 (some .boolean) ∈ tb := mt (i_t1 _ (List.mem_of_getElem? (i := 199) rfl)) rfl
theorem ml_X6_63 : Cond.methodLink RX6 63 yX5_room ∈ tb := mt (i_t1 _ (List.mem_of_getElem? (i := 200) rfl)) rfl
theorem im_X5_room : Cond.instanceMethod yX5_room ∈ tb := mt (i_t1 _ (List.mem_of_getElem? (i := 201) rfl)) rfl
theorem se_X5_room : Cond.selects RX5 yX5_room yX5_room ∈ tb := mt (i_t1 _ (List.mem_of_getElem? (i := 202) rfl)) rfl
theorem co_X5_room : Cond.code yX5_room cX5_room 1 (some .int) ∈ tb := mt (i_t1 _ (List.mem_of_getElem? (i := 203) rfl)) rfl
theorem ml_X6_67 : Cond.methodLink RX6 67 yX5_add ∈ tb := mt (i_t1 _ (List.mem_of_getElem? (i := 204) rfl)) rfl
theorem im_X5_add : Cond.instanceMethod yX5_add ∈ tb := mt (i_t1 _ (List.mem_of_getElem? (i := 205) rfl)) rfl
theorem se_X5_add : Cond.selects RX5 yX5_add yX5_add ∈ tb := mt (i_t1 _ (List.mem_of_getElem? (i := 206) rfl)) rfl
theorem co_X5_add : Cond.code yX5_add cX5_add 4 (some .int) ∈ tb := mt (i_t1 _ (List.mem_of_getElem? (i := 207) rfl)) rfl
theorem ml_X5_43 : Cond.methodLink RX5 43 yX5_room ∈ tb := mt (i_t1 _ (List.mem_of_getElem? (i := 208) rfl)) rfl
theorem ml_L_23 : Cond.methodLink RL 23 yX6_ends ∈ tb := mt (i_t1 _ (List.mem_of_getElem? (i := 209) rfl)) rfl
theorem im_X6_ends : Cond.instanceMethod yX6_ends ∈ tb := mt (i_t1 _ (List.mem_of_getElem? (i := 210) rfl)) rfl
theorem se_X6_ends : Cond.selects RX6 yX6_ends yX6_ends ∈ tb := mt (i_t1 _ (List.mem_of_getElem? (i := 211) rfl)) rfl
theorem co_X6_ends : Cond.code yX6_ends cX6_ends 3 (some .boolean) ∈ tb := mt (i_t1 _ (List.mem_of_getElem? (i := 212) rfl)) rfl
theorem ml_X6_71 : Cond.methodLink RX6 71 yX6_canEnd ∈ tb := mt (i_t1 _ (List.mem_of_getElem? (i := 213) rfl)) rfl
theorem im_X6_canEnd : Cond.instanceMethod yX6_canEnd ∈ tb := mt (i_t1 _ (List.mem_of_getElem? (i := 215) rfl)) rfl
theorem co_X6_canEnd : Cond.code yX6_canEnd cX6_canEnd 3 (some .boolean) ∈ tb := mt (i_t1 _ (List.mem_of_getElem? (i := 216) rfl)) rfl
theorem ml_X6_86 : Cond.methodLink RX6 86 yX5_has ∈ tb := mt (i_t1 _ (List.mem_of_getElem? (i := 217) rfl)) rfl
theorem im_X5_has : Cond.instanceMethod yX5_has ∈ tb := mt (i_t1 _ (List.mem_of_getElem? (i := 218) rfl)) rfl
theorem se_X5_has : Cond.selects RX5 yX5_has yX5_has ∈ tb := mt (i_t1 _ (List.mem_of_getElem? (i := 219) rfl)) rfl
theorem co_X5_has : Cond.code yX5_has cX5_has 2 (some .boolean) ∈ tb := mt (i_t1 _ (List.mem_of_getElem? (i := 220) rfl)) rfl
theorem ml_X6_194 : Cond.methodLink RX6 194 yX5_hasEnd ∈ tb := mt (i_t1 _ (List.mem_of_getElem? (i := 221) rfl)) rfl
theorem im_X5_hasEnd : Cond.instanceMethod yX5_hasEnd ∈ tb := mt (i_t1 _ (List.mem_of_getElem? (i := 222) rfl)) rfl
theorem se_X5_hasEnd : Cond.selects RX5 yX5_hasEnd yX5_hasEnd ∈ tb := mt (i_t1 _ (List.mem_of_getElem? (i := 223) rfl)) rfl
theorem co_X5_hasEnd : Cond.code yX5_hasEnd cX5_hasEnd 2 (some .boolean) ∈ tb := mt (i_t1 _ (List.mem_of_getElem? (i := 224) rfl)) rfl
theorem ml_X6_129 : Cond.methodLink RX6 129 yX5_birthOf ∈ tb := mt (i_t1 _ (List.mem_of_getElem? (i := 225) rfl)) rfl
theorem im_X5_birthOf : Cond.instanceMethod yX5_birthOf ∈ tb := mt (i_t1 _ (List.mem_of_getElem? (i := 226) rfl)) rfl
theorem se_X5_birthOf : Cond.selects RX5 yX5_birthOf yX5_birthOf ∈ tb := mt (i_t1 _ (List.mem_of_getElem? (i := 227) rfl)) rfl
theorem co_X5_birthOf : Cond.code yX5_birthOf cX5_birthOf 2 (some .int) ∈ tb := mt (i_t1 _ (List.mem_of_getElem? (i := 228) rfl)) rfl
theorem ml_X6_75 : Cond.methodLink RX6 75 yX5_finish ∈ tb := mt (i_t1 _ (List.mem_of_getElem? (i := 229) rfl)) rfl
theorem im_X5_finish : Cond.instanceMethod yX5_finish ∈ tb := mt (i_t1 _ (List.mem_of_getElem? (i := 230) rfl)) rfl
theorem se_X5_finish : Cond.selects RX5 yX5_finish yX5_finish ∈ tb := mt (i_t1 _ (List.mem_of_getElem? (i := 231) rfl)) rfl
theorem co_X5_finish : Cond.code yX5_finish cX5_finish 6 none ∈ tb := mt (i_t1 _ (List.mem_of_getElem? (i := 232) rfl)) rfl
theorem ml_L_28 : Cond.methodLink RL 28 yX6_split ∈ tb := mt (i_t1 _ (List.mem_of_getElem? (i := 233) rfl)) rfl
theorem im_X6_split : Cond.instanceMethod yX6_split ∈ tb := mt (i_t1 _ (List.mem_of_getElem? (i := 234) rfl)) rfl
theorem se_X6_split : Cond.selects RX6 yX6_split yX6_split ∈ tb := mt (i_t1 _ (List.mem_of_getElem? (i := 235) rfl)) rfl
theorem co_X6_split : Cond.code yX6_split cX6_split 8 (some .int) ∈ tb := mt (i_t1 _ (List.mem_of_getElem? (i := 236) rfl)) rfl
theorem ml_X6_79 : Cond.methodLink RX6 79 yX6_isShare ∈ tb := mt (i_t1 _ (List.mem_of_getElem? (i := 237) rfl)) rfl
theorem st_X6_isShare : Cond.static yX6_isShare ∈ tb := mt (i_t1 _ (List.mem_of_getElem? (i := 238) rfl)) rfl
theorem co_X6_isShare : Cond.code yX6_isShare cX6_isShare 2 (some .boolean) ∈ tb := mt (i_t1 _ (List.mem_of_getElem? (i := 239) rfl)) rfl
theorem ml_X6_82 : Cond.methodLink RX6 82 yX5_setShare ∈ tb := mt (i_t2 _ (List.mem_of_getElem? (i := 0) rfl)) rfl
theorem im_X5_setShare : Cond.instanceMethod yX5_setShare ∈ tb := mt (i_t2 _ (List.mem_of_getElem? (i := 1) rfl)) rfl
theorem se_X5_setShare : Cond.selects RX5 yX5_setShare yX5_setShare ∈ tb := mt (i_t2 _ (List.mem_of_getElem? (i := 2) rfl)) rfl
theorem co_X5_setShare : Cond.code yX5_setShare cX5_setShare 4 none ∈ tb := mt (i_t2 _ (List.mem_of_getElem? (i := 3) rfl)) rfl
theorem ml_L_33 : Cond.methodLink RL 33 yX6_join ∈ tb := mt (i_t2 _ (List.mem_of_getElem? (i := 4) rfl)) rfl
theorem im_X6_join : Cond.instanceMethod yX6_join ∈ tb := mt (i_t2 _ (List.mem_of_getElem? (i := 5) rfl)) rfl
theorem se_X6_join : Cond.selects RX6 yX6_join yX6_join ∈ tb := mt (i_t2 _ (List.mem_of_getElem? (i := 6) rfl)) rfl
theorem co_X6_join : Cond.code yX6_join cX6_join 6 (some .int) ∈ tb := mt (i_t2 _ (List.mem_of_getElem? (i := 7) rfl)) rfl
theorem ml_L_38 : Cond.methodLink RL 38 yX6_mark ∈ tb := mt (i_t2 _ (List.mem_of_getElem? (i := 8) rfl)) rfl
theorem im_X6_mark : Cond.instanceMethod yX6_mark ∈ tb := mt (i_t2 _ (List.mem_of_getElem? (i := 9) rfl)) rfl
theorem se_X6_mark : Cond.selects RX6 yX6_mark yX6_mark ∈ tb := mt (i_t2 _ (List.mem_of_getElem? (i := 10) rfl)) rfl
theorem co_X6_mark : Cond.code yX6_mark cX6_mark 5 (some .boolean) ∈ tb := mt (i_t2 _ (List.mem_of_getElem? (i := 11) rfl)) rfl
theorem ml_X6_89 : Cond.methodLink RX6 89 yX6_isMark ∈ tb := mt (i_t2 _ (List.mem_of_getElem? (i := 12) rfl)) rfl
theorem st_X6_isMark : Cond.static yX6_isMark ∈ tb := mt (i_t2 _ (List.mem_of_getElem? (i := 13) rfl)) rfl
theorem co_X6_isMark : Cond.code yX6_isMark cX6_isMark 1 (some .boolean) ∈ tb := mt (i_t2 _ (List.mem_of_getElem? (i := 14) rfl)) rfl
theorem ml_X6_92 : Cond.methodLink RX6 92 yX4_isFull ∈ tb := mt (i_t2 _ (List.mem_of_getElem? (i := 15) rfl)) rfl
theorem im_X4_isFull : Cond.instanceMethod yX4_isFull ∈ tb := mt (i_t2 _ (List.mem_of_getElem? (i := 16) rfl)) rfl
theorem se_X4_isFull : Cond.selects RX4 yX4_isFull yX4_isFull ∈ tb := mt (i_t2 _ (List.mem_of_getElem? (i := 17) rfl)) rfl
theorem co_X4_isFull : Cond.code yX4_isFull cX4_isFull 1 (some .boolean) ∈ tb := mt (i_t2 _ (List.mem_of_getElem? (i := 18) rfl)) rfl
theorem ml_X4_37 : Cond.methodLink RX4 37 yX3_isFull ∈ tb := mt (i_t2 _ (List.mem_of_getElem? (i := 19) rfl)) rfl
theorem im_X3_isFull : Cond.instanceMethod yX3_isFull ∈ tb := mt (i_t2 _ (List.mem_of_getElem? (i := 20) rfl)) rfl
theorem se_X3_isFull : Cond.selects RX3 yX3_isFull yX3_isFull ∈ tb := mt (i_t2 _ (List.mem_of_getElem? (i := 21) rfl)) rfl
theorem co_X3_isFull : Cond.code yX3_isFull cX3_isFull 1 (some .boolean) ∈ tb := mt (i_t2 _ (List.mem_of_getElem? (i := 22) rfl)) rfl
theorem ml_X6_96 : Cond.methodLink RX6 96 yX6_isFixed ∈ tb := mt (i_t2 _ (List.mem_of_getElem? (i := 23) rfl)) rfl
theorem im_X6_isFixed : Cond.instanceMethod yX6_isFixed ∈ tb := mt (i_t2 _ (List.mem_of_getElem? (i := 25) rfl)) rfl
theorem co_X6_isFixed : Cond.code yX6_isFixed cX6_isFixed 2 (some .boolean) ∈ tb := mt (i_t2 _ (List.mem_of_getElem? (i := 26) rfl)) rfl
theorem ml_X6_123 : Cond.methodLink RX6 123 yX4_valueOn ∈ tb := mt (i_t2 _ (List.mem_of_getElem? (i := 27) rfl)) rfl
theorem im_X4_valueOn : Cond.instanceMethod yX4_valueOn ∈ tb := mt (i_t2 _ (List.mem_of_getElem? (i := 28) rfl)) rfl
theorem se_X4_valueOn : Cond.selects RX4 yX4_valueOn yX4_valueOn ∈ tb := mt (i_t2 _ (List.mem_of_getElem? (i := 29) rfl)) rfl
theorem co_X4_valueOn : Cond.code yX4_valueOn cX4_valueOn 7 (some .int) ∈ tb := mt (i_t2 _ (List.mem_of_getElem? (i := 30) rfl)) rfl
theorem ml_X4_33 : Cond.methodLink RX4 33 yX3_size ∈ tb := mt (i_t2 _ (List.mem_of_getElem? (i := 31) rfl)) rfl
theorem im_X3_size : Cond.instanceMethod yX3_size ∈ tb := mt (i_t2 _ (List.mem_of_getElem? (i := 32) rfl)) rfl
theorem se_X3_size : Cond.selects RX3 yX3_size yX3_size ∈ tb := mt (i_t2 _ (List.mem_of_getElem? (i := 33) rfl)) rfl
theorem co_X3_size : Cond.code yX3_size cX3_size 1 (some .int) ∈ tb := mt (i_t2 _ (List.mem_of_getElem? (i := 34) rfl)) rfl
theorem ml_X4_48 : Cond.methodLink RX4 48 yX4_isOf ∈ tb := mt (i_t2 _ (List.mem_of_getElem? (i := 35) rfl)) rfl
theorem im_X4_isOf : Cond.instanceMethod yX4_isOf ∈ tb := mt (i_t2 _ (List.mem_of_getElem? (i := 37) rfl)) rfl
theorem co_X4_isOf : Cond.code yX4_isOf cX4_isOf 4 (some .boolean) ∈ tb := mt (i_t2 _ (List.mem_of_getElem? (i := 38) rfl)) rfl
theorem ml_X4_52 : Cond.methodLink RX4 52 yX3_isKnown ∈ tb := mt (i_t2 _ (List.mem_of_getElem? (i := 39) rfl)) rfl
theorem im_X3_isKnown : Cond.instanceMethod yX3_isKnown ∈ tb := mt (i_t2 _ (List.mem_of_getElem? (i := 40) rfl)) rfl
theorem se_X3_isKnown : Cond.selects RX3 yX3_isKnown yX3_isKnown ∈ tb := mt (i_t2 _ (List.mem_of_getElem? (i := 41) rfl)) rfl
theorem co_X3_isKnown : Cond.code yX3_isKnown cX3_isKnown 3 (some .boolean) ∈ tb := mt (i_t2 _ (List.mem_of_getElem? (i := 42) rfl)) rfl
theorem ml_X3_45 : Cond.methodLink RX3 45 yX2_isUndone ∈ tb := mt (i_t2 _ (List.mem_of_getElem? (i := 43) rfl)) rfl
theorem im_X2_isUndone : Cond.instanceMethod yX2_isUndone ∈ tb := mt (i_t2 _ (List.mem_of_getElem? (i := 44) rfl)) rfl
theorem se_X2_isUndone : Cond.selects RX2 yX2_isUndone yX2_isUndone ∈ tb := mt (i_t2 _ (List.mem_of_getElem? (i := 45) rfl)) rfl
theorem co_X2_isUndone : Cond.code yX2_isUndone cX2_isUndone 3 (some .boolean) ∈ tb := mt (i_t2 _ (List.mem_of_getElem? (i := 46) rfl)) rfl
theorem ml_X4_56 : Cond.methodLink RX4 56 yX4_outdoes ∈ tb := mt (i_t2 _ (List.mem_of_getElem? (i := 47) rfl)) rfl
theorem im_X4_outdoes : Cond.instanceMethod yX4_outdoes ∈ tb := mt (i_t2 _ (List.mem_of_getElem? (i := 49) rfl)) rfl
theorem co_X4_outdoes : Cond.code yX4_outdoes cX4_outdoes 4 (some .boolean) ∈ tb := mt (i_t2 _ (List.mem_of_getElem? (i := 50) rfl)) rfl
theorem ml_X6_99 : Cond.methodLink RX6 99 yX4_add ∈ tb := mt (i_t2 _ (List.mem_of_getElem? (i := 51) rfl)) rfl
theorem im_X4_add : Cond.instanceMethod yX4_add ∈ tb := mt (i_t2 _ (List.mem_of_getElem? (i := 52) rfl)) rfl
theorem se_X4_add : Cond.selects RX4 yX4_add yX4_add ∈ tb := mt (i_t2 _ (List.mem_of_getElem? (i := 53) rfl)) rfl
theorem co_X4_add : Cond.code yX4_add cX4_add 7 none ∈ tb := mt (i_t2 _ (List.mem_of_getElem? (i := 54) rfl)) rfl
theorem ml_X4_45 : Cond.methodLink RX4 45 yX3_add ∈ tb := mt (i_t2 _ (List.mem_of_getElem? (i := 55) rfl)) rfl
theorem im_X3_add : Cond.instanceMethod yX3_add ∈ tb := mt (i_t2 _ (List.mem_of_getElem? (i := 56) rfl)) rfl
theorem se_X3_add : Cond.selects RX3 yX3_add yX3_add ∈ tb := mt (i_t2 _ (List.mem_of_getElem? (i := 57) rfl)) rfl
theorem co_X3_add : Cond.code yX3_add cX3_add 2 (some .int) ∈ tb := mt (i_t2 _ (List.mem_of_getElem? (i := 58) rfl)) rfl
theorem ml_X3_35 : Cond.methodLink RX3 35 yX3_isFull ∈ tb := mt (i_t2 _ (List.mem_of_getElem? (i := 59) rfl)) rfl
theorem ml_X3_39 : Cond.methodLink RX3 39 yX2_open ∈ tb := mt (i_t2 _ (List.mem_of_getElem? (i := 60) rfl)) rfl
theorem im_X2_open : Cond.instanceMethod yX2_open ∈ tb := mt (i_t2 _ (List.mem_of_getElem? (i := 61) rfl)) rfl
theorem se_X2_open : Cond.selects RX2 yX2_open yX2_open ∈ tb := mt (i_t2 _ (List.mem_of_getElem? (i := 62) rfl)) rfl
theorem co_X2_open : Cond.code yX2_open cX2_open 1 (some .int) ∈ tb := mt (i_t2 _ (List.mem_of_getElem? (i := 63) rfl)) rfl
theorem ml_L_43 : Cond.methodLink RL 43 yX6_fact ∈ tb := mt (i_t2 _ (List.mem_of_getElem? (i := 64) rfl)) rfl
theorem im_X6_fact : Cond.instanceMethod yX6_fact ∈ tb := mt (i_t2 _ (List.mem_of_getElem? (i := 65) rfl)) rfl
theorem se_X6_fact : Cond.selects RX6 yX6_fact yX6_fact ∈ tb := mt (i_t2 _ (List.mem_of_getElem? (i := 66) rfl)) rfl
theorem co_X6_fact : Cond.code yX6_fact cX6_fact 4 (some .int) ∈ tb := mt (i_t2 _ (List.mem_of_getElem? (i := 67) rfl)) rfl
theorem ml_X6_101 : Cond.methodLink RX6 101 yX1_isFull ∈ tb := mt (i_t2 _ (List.mem_of_getElem? (i := 68) rfl)) rfl
theorem im_X1_isFull : Cond.instanceMethod yX1_isFull ∈ tb := mt (i_t2 _ (List.mem_of_getElem? (i := 69) rfl)) rfl
theorem se_X1_isFull : Cond.selects RX1 yX1_isFull yX1_isFull ∈ tb := mt (i_t2 _ (List.mem_of_getElem? (i := 70) rfl)) rfl
theorem co_X1_isFull : Cond.code yX1_isFull cX1_isFull 1 (some .boolean) ∈ tb := mt (i_t2 _ (List.mem_of_getElem? (i := 71) rfl)) rfl
theorem ml_X1_34 : Cond.methodLink RX1 34 yX3_isFull ∈ tb := mt (i_t2 _ (List.mem_of_getElem? (i := 72) rfl)) rfl
theorem ml_X6_102 : Cond.methodLink RX6 102 yX1_add ∈ tb := mt (i_t2 _ (List.mem_of_getElem? (i := 73) rfl)) rfl
theorem im_X1_add : Cond.instanceMethod yX1_add ∈ tb := mt (i_t2 _ (List.mem_of_getElem? (i := 74) rfl)) rfl
theorem se_X1_add : Cond.selects RX1 yX1_add yX1_add ∈ tb := mt (i_t2 _ (List.mem_of_getElem? (i := 75) rfl)) rfl
theorem co_X1_add : Cond.code yX1_add cX1_add 6 (some .int) ∈ tb := mt (i_t2 _ (List.mem_of_getElem? (i := 76) rfl)) rfl
theorem ml_X1_46 : Cond.methodLink RX1 46 yX3_add ∈ tb := mt (i_t2 _ (List.mem_of_getElem? (i := 77) rfl)) rfl
theorem ml_L_48 : Cond.methodLink RL 48 yX6_load ∈ tb := mt (i_t2 _ (List.mem_of_getElem? (i := 78) rfl)) rfl
theorem im_X6_load : Cond.instanceMethod yX6_load ∈ tb := mt (i_t2 _ (List.mem_of_getElem? (i := 79) rfl)) rfl
theorem se_X6_load : Cond.selects RX6 yX6_load yX6_load ∈ tb := mt (i_t2 _ (List.mem_of_getElem? (i := 80) rfl)) rfl
theorem co_X6_load : Cond.code yX6_load cX6_load 1 (some .int) ∈ tb := mt (i_t2 _ (List.mem_of_getElem? (i := 81) rfl)) rfl
theorem ml_X6_105 : Cond.methodLink RX6 105 yX2_openNext ∈ tb := mt (i_t2 _ (List.mem_of_getElem? (i := 82) rfl)) rfl
theorem im_X2_openNext : Cond.instanceMethod yX2_openNext ∈ tb := mt (i_t2 _ (List.mem_of_getElem? (i := 83) rfl)) rfl
theorem se_X2_openNext : Cond.selects RX2 yX2_openNext yX2_openNext ∈ tb := mt (i_t2 _ (List.mem_of_getElem? (i := 84) rfl)) rfl
theorem co_X2_openNext : Cond.code yX2_openNext cX2_openNext 1 (some .int) ∈ tb := mt (i_t2 _ (List.mem_of_getElem? (i := 85) rfl)) rfl
theorem ml_X2_22 : Cond.methodLink RX2 22 yX2_open ∈ tb := mt (i_t2 _ (List.mem_of_getElem? (i := 86) rfl)) rfl
theorem ml_L_53 : Cond.methodLink RL 53 yX6_undo ∈ tb := mt (i_t2 _ (List.mem_of_getElem? (i := 87) rfl)) rfl
theorem im_X6_undo : Cond.instanceMethod yX6_undo ∈ tb := mt (i_t2 _ (List.mem_of_getElem? (i := 88) rfl)) rfl
theorem se_X6_undo : Cond.selects RX6 yX6_undo yX6_undo ∈ tb := mt (i_t2 _ (List.mem_of_getElem? (i := 89) rfl)) rfl
theorem co_X6_undo : Cond.code yX6_undo cX6_undo 2 (some .int) ∈ tb := mt (i_t2 _ (List.mem_of_getElem? (i := 90) rfl)) rfl
theorem ml_X6_108 : Cond.methodLink RX6 108 yX2_canBeUndone ∈ tb := mt (i_t2 _ (List.mem_of_getElem? (i := 91) rfl)) rfl
theorem im_X2_canBeUndone : Cond.instanceMethod yX2_canBeUndone ∈ tb := mt (i_t2 _ (List.mem_of_getElem? (i := 92) rfl)) rfl
theorem se_X2_canBeUndone : Cond.selects RX2 yX2_canBeUndone yX2_canBeUndone ∈ tb := mt (i_t2 _ (List.mem_of_getElem? (i := 93) rfl)) rfl
theorem co_X2_canBeUndone : Cond.code yX2_canBeUndone cX2_canBeUndone 2 (some .boolean) ∈ tb := mt (i_t2 _ (List.mem_of_getElem? (i := 94) rfl)) rfl
theorem ml_X6_111 : Cond.methodLink RX6 111 yX2_setUndone ∈ tb := mt (i_t2 _ (List.mem_of_getElem? (i := 95) rfl)) rfl
theorem im_X2_setUndone : Cond.instanceMethod yX2_setUndone ∈ tb := mt (i_t2 _ (List.mem_of_getElem? (i := 96) rfl)) rfl
theorem se_X2_setUndone : Cond.selects RX2 yX2_setUndone yX2_setUndone ∈ tb := mt (i_t2 _ (List.mem_of_getElem? (i := 97) rfl)) rfl
theorem co_X2_setUndone : Cond.code yX2_setUndone cX2_setUndone 3 none ∈ tb := mt (i_t2 _ (List.mem_of_getElem? (i := 98) rfl)) rfl
theorem ml_X6_115 : Cond.methodLink RX6 115 yX4_sizeOfLoad ∈ tb := mt (i_t2 _ (List.mem_of_getElem? (i := 99) rfl)) rfl
theorem im_X4_sizeOfLoad : Cond.instanceMethod yX4_sizeOfLoad ∈ tb := mt (i_t2 _ (List.mem_of_getElem? (i := 100) rfl)) rfl
theorem se_X4_sizeOfLoad : Cond.selects RX4 yX4_sizeOfLoad yX4_sizeOfLoad ∈ tb := mt (i_t2 _ (List.mem_of_getElem? (i := 101) rfl)) rfl
theorem co_X4_sizeOfLoad : Cond.code yX4_sizeOfLoad cX4_sizeOfLoad 2 (some .int) ∈ tb := mt (i_t2 _ (List.mem_of_getElem? (i := 102) rfl)) rfl
theorem ml_X4_41 : Cond.methodLink RX4 41 yX3_sizeOfLoad ∈ tb := mt (i_t2 _ (List.mem_of_getElem? (i := 103) rfl)) rfl
theorem im_X3_sizeOfLoad : Cond.instanceMethod yX3_sizeOfLoad ∈ tb := mt (i_t2 _ (List.mem_of_getElem? (i := 104) rfl)) rfl
theorem se_X3_sizeOfLoad : Cond.selects RX3 yX3_sizeOfLoad yX3_sizeOfLoad ∈ tb := mt (i_t2 _ (List.mem_of_getElem? (i := 105) rfl)) rfl
theorem co_X3_sizeOfLoad : Cond.code yX3_sizeOfLoad cX3_sizeOfLoad 4 (some .int) ∈ tb := mt (i_t2 _ (List.mem_of_getElem? (i := 106) rfl)) rfl
theorem ml_X6_119 : Cond.methodLink RX6 119 yX1_sizeOfLoad ∈ tb := mt (i_t2 _ (List.mem_of_getElem? (i := 107) rfl)) rfl
theorem im_X1_sizeOfLoad : Cond.instanceMethod yX1_sizeOfLoad ∈ tb := mt (i_t2 _ (List.mem_of_getElem? (i := 108) rfl)) rfl
theorem se_X1_sizeOfLoad : Cond.selects RX1 yX1_sizeOfLoad yX1_sizeOfLoad ∈ tb := mt (i_t2 _ (List.mem_of_getElem? (i := 109) rfl)) rfl
theorem co_X1_sizeOfLoad : Cond.code yX1_sizeOfLoad cX1_sizeOfLoad 2 (some .int) ∈ tb := mt (i_t2 _ (List.mem_of_getElem? (i := 110) rfl)) rfl
theorem ml_X1_38 : Cond.methodLink RX1 38 yX3_sizeOfLoad ∈ tb := mt (i_t2 _ (List.mem_of_getElem? (i := 111) rfl)) rfl
theorem ml_L_58 : Cond.methodLink RL 58 yX6_told ∈ tb := mt (i_t2 _ (List.mem_of_getElem? (i := 112) rfl)) rfl
theorem im_X6_told : Cond.instanceMethod yX6_told ∈ tb := mt (i_t2 _ (List.mem_of_getElem? (i := 113) rfl)) rfl
theorem se_X6_told : Cond.selects RX6 yX6_told yX6_told ∈ tb := mt (i_t2 _ (List.mem_of_getElem? (i := 114) rfl)) rfl
theorem co_X6_told : Cond.code yX6_told cX6_told 5 (some .int) ∈ tb := mt (i_t2 _ (List.mem_of_getElem? (i := 115) rfl)) rfl
theorem ml_X6_120 : Cond.methodLink RX6 120 yX5_isKnown ∈ tb := mt (i_t2 _ (List.mem_of_getElem? (i := 116) rfl)) rfl
theorem im_X5_isKnown : Cond.instanceMethod yX5_isKnown ∈ tb := mt (i_t2 _ (List.mem_of_getElem? (i := 117) rfl)) rfl
theorem se_X5_isKnown : Cond.selects RX5 yX5_isKnown yX5_isKnown ∈ tb := mt (i_t2 _ (List.mem_of_getElem? (i := 118) rfl)) rfl
theorem co_X5_isKnown : Cond.code yX5_isKnown cX5_isKnown 3 (some .boolean) ∈ tb := mt (i_t2 _ (List.mem_of_getElem? (i := 119) rfl)) rfl
theorem ml_X5_47 : Cond.methodLink RX5 47 yX5_has ∈ tb := mt (i_t2 _ (List.mem_of_getElem? (i := 120) rfl)) rfl
theorem ml_L_62 : Cond.methodLink RL 62 yX6_thing ∈ tb := mt (i_t2 _ (List.mem_of_getElem? (i := 121) rfl)) rfl
theorem im_X6_thing : Cond.instanceMethod yX6_thing ∈ tb := mt (i_t2 _ (List.mem_of_getElem? (i := 122) rfl)) rfl
theorem se_X6_thing : Cond.selects RX6 yX6_thing yX6_thing ∈ tb := mt (i_t2 _ (List.mem_of_getElem? (i := 123) rfl)) rfl
theorem co_X6_thing : Cond.code yX6_thing cX6_thing 4 (some .int) ∈ tb := mt (i_t2 _ (List.mem_of_getElem? (i := 124) rfl)) rfl
theorem ml_X6_126 : Cond.methodLink RX6 126 yX5_codeOf ∈ tb := mt (i_t2 _ (List.mem_of_getElem? (i := 125) rfl)) rfl
theorem im_X5_codeOf : Cond.instanceMethod yX5_codeOf ∈ tb := mt (i_t2 _ (List.mem_of_getElem? (i := 126) rfl)) rfl
theorem se_X5_codeOf : Cond.selects RX5 yX5_codeOf yX5_codeOf ∈ tb := mt (i_t2 _ (List.mem_of_getElem? (i := 127) rfl)) rfl
theorem co_X5_codeOf : Cond.code yX5_codeOf cX5_codeOf 2 (some .int) ∈ tb := mt (i_t2 _ (List.mem_of_getElem? (i := 128) rfl)) rfl
theorem ml_X6_132 : Cond.methodLink RX6 132 yX5_endOf ∈ tb := mt (i_t2 _ (List.mem_of_getElem? (i := 129) rfl)) rfl
theorem im_X5_endOf : Cond.instanceMethod yX5_endOf ∈ tb := mt (i_t2 _ (List.mem_of_getElem? (i := 130) rfl)) rfl
theorem se_X5_endOf : Cond.selects RX5 yX5_endOf yX5_endOf ∈ tb := mt (i_t2 _ (List.mem_of_getElem? (i := 131) rfl)) rfl
theorem co_X5_endOf : Cond.code yX5_endOf cX5_endOf 3 (some .int) ∈ tb := mt (i_t2 _ (List.mem_of_getElem? (i := 132) rfl)) rfl
theorem ml_X5_51 : Cond.methodLink RX5 51 yX5_isEndKnown ∈ tb := mt (i_t2 _ (List.mem_of_getElem? (i := 133) rfl)) rfl
theorem im_X5_isEndKnown : Cond.instanceMethod yX5_isEndKnown ∈ tb := mt (i_t2 _ (List.mem_of_getElem? (i := 135) rfl)) rfl
theorem co_X5_isEndKnown : Cond.code yX5_isEndKnown cX5_isEndKnown 3 (some .boolean) ∈ tb := mt (i_t2 _ (List.mem_of_getElem? (i := 136) rfl)) rfl
theorem ml_X6_136 : Cond.methodLink RX6 136 yX5_endingOf ∈ tb := mt (i_t2 _ (List.mem_of_getElem? (i := 137) rfl)) rfl
theorem im_X5_endingOf : Cond.instanceMethod yX5_endingOf ∈ tb := mt (i_t2 _ (List.mem_of_getElem? (i := 138) rfl)) rfl
theorem se_X5_endingOf : Cond.selects RX5 yX5_endingOf yX5_endingOf ∈ tb := mt (i_t2 _ (List.mem_of_getElem? (i := 139) rfl)) rfl
theorem co_X5_endingOf : Cond.code yX5_endingOf cX5_endingOf 3 (some .int) ∈ tb := mt (i_t2 _ (List.mem_of_getElem? (i := 140) rfl)) rfl
theorem ml_X6_139 : Cond.methodLink RX6 139 yX5_heirOf ∈ tb := mt (i_t2 _ (List.mem_of_getElem? (i := 141) rfl)) rfl
theorem im_X5_heirOf : Cond.instanceMethod yX5_heirOf ∈ tb := mt (i_t2 _ (List.mem_of_getElem? (i := 142) rfl)) rfl
theorem se_X5_heirOf : Cond.selects RX5 yX5_heirOf yX5_heirOf ∈ tb := mt (i_t2 _ (List.mem_of_getElem? (i := 143) rfl)) rfl
theorem co_X5_heirOf : Cond.code yX5_heirOf cX5_heirOf 3 (some .int) ∈ tb := mt (i_t2 _ (List.mem_of_getElem? (i := 144) rfl)) rfl
theorem ml_X6_142 : Cond.methodLink RX6 142 yX4_timesToldOver ∈ tb := mt (i_t2 _ (List.mem_of_getElem? (i := 145) rfl)) rfl
theorem im_X4_timesToldOver : Cond.instanceMethod yX4_timesToldOver ∈ tb := mt (i_t2 _ (List.mem_of_getElem? (i := 146) rfl)) rfl
theorem se_X4_timesToldOver : Cond.selects RX4 yX4_timesToldOver yX4_timesToldOver ∈ tb := mt (i_t2 _ (List.mem_of_getElem? (i := 147) rfl)) rfl
theorem co_X4_timesToldOver : Cond.code yX4_timesToldOver cX4_timesToldOver 6 (some .int) ∈ tb := mt (i_t2 _ (List.mem_of_getElem? (i := 148) rfl)) rfl
theorem ml_L_66 : Cond.methodLink RL 66 yX6_hangs ∈ tb := mt (i_t2 _ (List.mem_of_getElem? (i := 149) rfl)) rfl
theorem im_X6_hangs : Cond.instanceMethod yX6_hangs ∈ tb := mt (i_t2 _ (List.mem_of_getElem? (i := 150) rfl)) rfl
theorem se_X6_hangs : Cond.selects RX6 yX6_hangs yX6_hangs ∈ tb := mt (i_t2 _ (List.mem_of_getElem? (i := 151) rfl)) rfl
theorem co_X6_hangs : Cond.code yX6_hangs cX6_hangs 3 (some .int) ∈ tb := mt (i_t2 _ (List.mem_of_getElem? (i := 152) rfl)) rfl
theorem ml_X6_145 : Cond.methodLink RX6 145 yX1_isKnown ∈ tb := mt (i_t2 _ (List.mem_of_getElem? (i := 153) rfl)) rfl
theorem im_X1_isKnown : Cond.instanceMethod yX1_isKnown ∈ tb := mt (i_t2 _ (List.mem_of_getElem? (i := 154) rfl)) rfl
theorem se_X1_isKnown : Cond.selects RX1 yX1_isKnown yX1_isKnown ∈ tb := mt (i_t2 _ (List.mem_of_getElem? (i := 155) rfl)) rfl
theorem co_X1_isKnown : Cond.code yX1_isKnown cX1_isKnown 3 (some .boolean) ∈ tb := mt (i_t2 _ (List.mem_of_getElem? (i := 156) rfl)) rfl
theorem ml_X1_42 : Cond.methodLink RX1 42 yX3_isKnown ∈ tb := mt (i_t2 _ (List.mem_of_getElem? (i := 157) rfl)) rfl
theorem ml_X6_146 : Cond.methodLink RX6 146 yX6_thingOfFact ∈ tb := mt (i_t2 _ (List.mem_of_getElem? (i := 158) rfl)) rfl
theorem im_X6_thingOfFact : Cond.instanceMethod yX6_thingOfFact ∈ tb := mt (i_t2 _ (List.mem_of_getElem? (i := 160) rfl)) rfl
theorem co_X6_thingOfFact : Cond.code yX6_thingOfFact cX6_thingOfFact 3 (some .int) ∈ tb := mt (i_t2 _ (List.mem_of_getElem? (i := 161) rfl)) rfl
theorem ml_X6_197 : Cond.methodLink RX6 197 yX1_codeOf ∈ tb := mt (i_t2 _ (List.mem_of_getElem? (i := 162) rfl)) rfl
theorem im_X1_codeOf : Cond.instanceMethod yX1_codeOf ∈ tb := mt (i_t2 _ (List.mem_of_getElem? (i := 163) rfl)) rfl
theorem se_X1_codeOf : Cond.selects RX1 yX1_codeOf yX1_codeOf ∈ tb := mt (i_t2 _ (List.mem_of_getElem? (i := 164) rfl)) rfl
theorem co_X1_codeOf : Cond.code yX1_codeOf cX1_codeOf 2 (some .int) ∈ tb := mt (i_t2 _ (List.mem_of_getElem? (i := 165) rfl)) rfl
theorem ml_X6_198 : Cond.methodLink RX6 198 yX1_dayOf ∈ tb := mt (i_t2 _ (List.mem_of_getElem? (i := 166) rfl)) rfl
theorem im_X1_dayOf : Cond.instanceMethod yX1_dayOf ∈ tb := mt (i_t2 _ (List.mem_of_getElem? (i := 167) rfl)) rfl
theorem se_X1_dayOf : Cond.selects RX1 yX1_dayOf yX1_dayOf ∈ tb := mt (i_t2 _ (List.mem_of_getElem? (i := 168) rfl)) rfl
theorem co_X1_dayOf : Cond.code yX1_dayOf cX1_dayOf 2 (some .int) ∈ tb := mt (i_t2 _ (List.mem_of_getElem? (i := 169) rfl)) rfl
theorem ml_X6_149 : Cond.methodLink RX6 149 yX5_livingOn ∈ tb := mt (i_t2 _ (List.mem_of_getElem? (i := 170) rfl)) rfl
theorem im_X5_livingOn : Cond.instanceMethod yX5_livingOn ∈ tb := mt (i_t2 _ (List.mem_of_getElem? (i := 171) rfl)) rfl
theorem se_X5_livingOn : Cond.selects RX5 yX5_livingOn yX5_livingOn ∈ tb := mt (i_t2 _ (List.mem_of_getElem? (i := 172) rfl)) rfl
theorem co_X5_livingOn : Cond.code yX5_livingOn cX5_livingOn 5 (some .int) ∈ tb := mt (i_t2 _ (List.mem_of_getElem? (i := 173) rfl)) rfl
theorem ml_X5_62 : Cond.methodLink RX5 62 yX5_livesOn ∈ tb := mt (i_t2 _ (List.mem_of_getElem? (i := 174) rfl)) rfl
theorem im_X5_livesOn : Cond.instanceMethod yX5_livesOn ∈ tb := mt (i_t2 _ (List.mem_of_getElem? (i := 175) rfl)) rfl
theorem se_X5_livesOn : Cond.selects RX5 yX5_livesOn yX5_livesOn ∈ tb := mt (i_t2 _ (List.mem_of_getElem? (i := 176) rfl)) rfl
theorem co_X5_livesOn : Cond.code yX5_livesOn cX5_livesOn 4 (some .boolean) ∈ tb := mt (i_t2 _ (List.mem_of_getElem? (i := 177) rfl)) rfl
theorem ml_X5_55 : Cond.methodLink RX5 55 yX5_isKnown ∈ tb := mt (i_t2 _ (List.mem_of_getElem? (i := 178) rfl)) rfl
theorem ml_X5_58 : Cond.methodLink RX5 58 yX5_endOf ∈ tb := mt (i_t2 _ (List.mem_of_getElem? (i := 179) rfl)) rfl
theorem ml_L_70 : Cond.methodLink RL 70 yX6_find ∈ tb := mt (i_t2 _ (List.mem_of_getElem? (i := 180) rfl)) rfl
theorem im_X6_find : Cond.instanceMethod yX6_find ∈ tb := mt (i_t2 _ (List.mem_of_getElem? (i := 181) rfl)) rfl
theorem se_X6_find : Cond.selects RX6 yX6_find yX6_find ∈ tb := mt (i_t2 _ (List.mem_of_getElem? (i := 182) rfl)) rfl
theorem co_X6_find : Cond.code yX6_find cX6_find 4 (some .int) ∈ tb := mt (i_t2 _ (List.mem_of_getElem? (i := 183) rfl)) rfl
theorem ml_L_74 : Cond.methodLink RL 74 yX6_then ∈ tb := mt (i_t2 _ (List.mem_of_getElem? (i := 184) rfl)) rfl
theorem im_X6_then : Cond.instanceMethod yX6_then ∈ tb := mt (i_t2 _ (List.mem_of_getElem? (i := 185) rfl)) rfl
theorem se_X6_then : Cond.selects RX6 yX6_then yX6_then ∈ tb := mt (i_t2 _ (List.mem_of_getElem? (i := 186) rfl)) rfl
theorem co_X6_then : Cond.code yX6_then cX6_then 7 (some .long) ∈ tb := mt (i_t2 _ (List.mem_of_getElem? (i := 187) rfl)) rfl
theorem ml_X6_152 : Cond.methodLink RX6 152 yX6_isAnswer ∈ tb := mt (i_t2 _ (List.mem_of_getElem? (i := 188) rfl)) rfl
theorem st_X6_isAnswer : Cond.static yX6_isAnswer ∈ tb := mt (i_t2 _ (List.mem_of_getElem? (i := 189) rfl)) rfl
theorem co_X6_isAnswer : Cond.code yX6_isAnswer cX6_isAnswer 1 (some .boolean) ∈ tb := mt (i_t2 _ (List.mem_of_getElem? (i := 190) rfl)) rfl
theorem ml_X6_155 : Cond.methodLink RX6 155 yX1_size ∈ tb := mt (i_t2 _ (List.mem_of_getElem? (i := 191) rfl)) rfl
theorem im_X1_size : Cond.instanceMethod yX1_size ∈ tb := mt (i_t2 _ (List.mem_of_getElem? (i := 192) rfl)) rfl
theorem se_X1_size : Cond.selects RX1 yX1_size yX1_size ∈ tb := mt (i_t2 _ (List.mem_of_getElem? (i := 193) rfl)) rfl
theorem co_X1_size : Cond.code yX1_size cX1_size 1 (some .int) ∈ tb := mt (i_t2 _ (List.mem_of_getElem? (i := 194) rfl)) rfl
theorem ml_X1_30 : Cond.methodLink RX1 30 yX3_size ∈ tb := mt (i_t2 _ (List.mem_of_getElem? (i := 195) rfl)) rfl
theorem ml_X6_158 : Cond.methodLink RX6 158 yX6_isMarkedThen ∈ tb := mt (i_t2 _ (List.mem_of_getElem? (i := 196) rfl)) rfl
theorem im_X6_isMarkedThen : Cond.instanceMethod yX6_isMarkedThen ∈ tb := mt (i_t2 _ (List.mem_of_getElem? (i := 198) rfl)) rfl
theorem co_X6_isMarkedThen : Cond.code yX6_isMarkedThen cX6_isMarkedThen 6 (some .boolean) ∈ tb := mt (i_t2 _ (List.mem_of_getElem? (i := 199) rfl)) rfl
theorem ml_X6_161 : Cond.methodLink RX6 161 yX1_amountOf ∈ tb := mt (i_t2 _ (List.mem_of_getElem? (i := 200) rfl)) rfl
theorem im_X1_amountOf : Cond.instanceMethod yX1_amountOf ∈ tb := mt (i_t2 _ (List.mem_of_getElem? (i := 201) rfl)) rfl
theorem se_X1_amountOf : Cond.selects RX1 yX1_amountOf yX1_amountOf ∈ tb := mt (i_t2 _ (List.mem_of_getElem? (i := 202) rfl)) rfl
theorem co_X1_amountOf : Cond.code yX1_amountOf cX1_amountOf 2 (some .int) ∈ tb := mt (i_t2 _ (List.mem_of_getElem? (i := 203) rfl)) rfl
theorem ml_L_79 : Cond.methodLink RL 79 yX6_by ∈ tb := mt (i_t2 _ (List.mem_of_getElem? (i := 204) rfl)) rfl
theorem im_X6_by : Cond.instanceMethod yX6_by ∈ tb := mt (i_t2 _ (List.mem_of_getElem? (i := 205) rfl)) rfl
theorem se_X6_by : Cond.selects RX6 yX6_by yX6_by ∈ tb := mt (i_t2 _ (List.mem_of_getElem? (i := 206) rfl)) rfl
theorem co_X6_by : Cond.code yX6_by cX6_by 8 (some .long) ∈ tb := mt (i_t2 _ (List.mem_of_getElem? (i := 207) rfl)) rfl
theorem ml_X6_164 : Cond.methodLink RX6 164 yX6_carryAll ∈ tb := mt (i_t2 _ (List.mem_of_getElem? (i := 208) rfl)) rfl
theorem im_X6_carryAll : Cond.instanceMethod yX6_carryAll ∈ tb := mt (i_t2 _ (List.mem_of_getElem? (i := 210) rfl)) rfl
theorem co_X6_carryAll : Cond.code yX6_carryAll cX6_carryAll 4 none ∈ tb := mt (i_t2 _ (List.mem_of_getElem? (i := 211) rfl)) rfl
theorem ml_X6_201 : Cond.methodLink RX6 201 yX0_start ∈ tb := mt (i_t2 _ (List.mem_of_getElem? (i := 212) rfl)) rfl
theorem im_X0_start : Cond.instanceMethod yX0_start ∈ tb := mt (i_t2 _ (List.mem_of_getElem? (i := 213) rfl)) rfl
theorem se_X0_start : Cond.selects RX0 yX0_start yX0_start ∈ tb := mt (i_t2 _ (List.mem_of_getElem? (i := 214) rfl)) rfl
theorem co_X0_start : Cond.code yX0_start cX0_start 4 none ∈ tb := mt (i_t2 _ (List.mem_of_getElem? (i := 215) rfl)) rfl
theorem ml_X6_204 : Cond.methodLink RX6 204 yX0_add ∈ tb := mt (i_t2 _ (List.mem_of_getElem? (i := 216) rfl)) rfl
theorem im_X0_add : Cond.instanceMethod yX0_add ∈ tb := mt (i_t2 _ (List.mem_of_getElem? (i := 217) rfl)) rfl
theorem se_X0_add : Cond.selects RX0 yX0_add yX0_add ∈ tb := mt (i_t2 _ (List.mem_of_getElem? (i := 218) rfl)) rfl
theorem co_X0_add : Cond.code yX0_add cX0_add 3 none ∈ tb := mt (i_t2 _ (List.mem_of_getElem? (i := 219) rfl)) rfl
theorem ml_X0_30 : Cond.methodLink RX0 30 yX0_carry ∈ tb := mt (i_t2 _ (List.mem_of_getElem? (i := 220) rfl)) rfl
theorem st_X0_carry : Cond.static yX0_carry ∈ tb := mt (i_t2 _ (List.mem_of_getElem? (i := 221) rfl)) rfl
theorem co_X0_carry : Cond.code yX0_carry cX0_carry 8 none ∈ tb := mt (i_t2 _ (List.mem_of_getElem? (i := 222) rfl)) rfl
theorem ml_X0_34 : Cond.methodLink RX0 34 yX5_has ∈ tb := mt (i_t2 _ (List.mem_of_getElem? (i := 223) rfl)) rfl
theorem ml_X0_40 : Cond.methodLink RX0 40 yX5_livesOn ∈ tb := mt (i_t2 _ (List.mem_of_getElem? (i := 224) rfl)) rfl
theorem ml_X0_44 : Cond.methodLink RX0 44 yX5_birthOf ∈ tb := mt (i_t2 _ (List.mem_of_getElem? (i := 225) rfl)) rfl
theorem ml_X0_48 : Cond.methodLink RX0 48 yX5_endingOf ∈ tb := mt (i_t2 _ (List.mem_of_getElem? (i := 226) rfl)) rfl
theorem ml_X0_52 : Cond.methodLink RX0 52 yX5_heirOf ∈ tb := mt (i_t2 _ (List.mem_of_getElem? (i := 227) rfl)) rfl
theorem ml_X0_55 : Cond.methodLink RX0 55 yX5_firstShareOf ∈ tb := mt (i_t2 _ (List.mem_of_getElem? (i := 228) rfl)) rfl
theorem im_X5_firstShareOf : Cond.instanceMethod yX5_firstShareOf ∈ tb := mt (i_t2 _ (List.mem_of_getElem? (i := 229) rfl)) rfl
theorem se_X5_firstShareOf : Cond.selects RX5 yX5_firstShareOf yX5_firstShareOf ∈ tb := mt (i_t2 _ (List.mem_of_getElem? (i := 230) rfl)) rfl
theorem co_X5_firstShareOf : Cond.code yX5_firstShareOf cX5_firstShareOf 4 (some .int) ∈ tb := mt (i_t2 _ (List.mem_of_getElem? (i := 231) rfl)) rfl
theorem ml_X6_167 : Cond.methodLink RX6 167 yX5_size ∈ tb := mt (i_t2 _ (List.mem_of_getElem? (i := 232) rfl)) rfl
theorem im_X5_size : Cond.instanceMethod yX5_size ∈ tb := mt (i_t2 _ (List.mem_of_getElem? (i := 233) rfl)) rfl
theorem se_X5_size : Cond.selects RX5 yX5_size yX5_size ∈ tb := mt (i_t2 _ (List.mem_of_getElem? (i := 234) rfl)) rfl
theorem co_X5_size : Cond.code yX5_size cX5_size 1 (some .int) ∈ tb := mt (i_t2 _ (List.mem_of_getElem? (i := 235) rfl)) rfl
theorem ml_X6_168 : Cond.methodLink RX6 168 yX0_stayingOn ∈ tb := mt (i_t2 _ (List.mem_of_getElem? (i := 236) rfl)) rfl
theorem im_X0_stayingOn : Cond.instanceMethod yX0_stayingOn ∈ tb := mt (i_t2 _ (List.mem_of_getElem? (i := 237) rfl)) rfl
theorem se_X0_stayingOn : Cond.selects RX0 yX0_stayingOn yX0_stayingOn ∈ tb := mt (i_t2 _ (List.mem_of_getElem? (i := 238) rfl)) rfl
theorem co_X0_stayingOn : Cond.code yX0_stayingOn cX0_stayingOn 2 (some .long) ∈ tb := mt (i_t2 _ (List.mem_of_getElem? (i := 239) rfl)) rfl
theorem ml_L_84 : Cond.methodLink RL 84 yX6_sum ∈ tb := mt (i_t3 _ (List.mem_of_getElem? (i := 0) rfl)) rfl
theorem im_X6_sum : Cond.instanceMethod yX6_sum ∈ tb := mt (i_t3 _ (List.mem_of_getElem? (i := 1) rfl)) rfl
theorem se_X6_sum : Cond.selects RX6 yX6_sum yX6_sum ∈ tb := mt (i_t3 _ (List.mem_of_getElem? (i := 2) rfl)) rfl
theorem co_X6_sum : Cond.code yX6_sum cX6_sum 4 (some .long) ∈ tb := mt (i_t3 _ (List.mem_of_getElem? (i := 3) rfl)) rfl
theorem ml_X6_172 : Cond.methodLink RX6 172 yX6_sumOfFacts ∈ tb := mt (i_t3 _ (List.mem_of_getElem? (i := 4) rfl)) rfl
theorem im_X6_sumOfFacts : Cond.instanceMethod yX6_sumOfFacts ∈ tb := mt (i_t3 _ (List.mem_of_getElem? (i := 6) rfl)) rfl
theorem co_X6_sumOfFacts : Cond.code yX6_sumOfFacts cX6_sumOfFacts 6 (some .long) ∈ tb := mt (i_t3 _ (List.mem_of_getElem? (i := 7) rfl)) rfl
theorem ml_X6_176 : Cond.methodLink RX6 176 yX0_nowhere ∈ tb := mt (i_t3 _ (List.mem_of_getElem? (i := 8) rfl)) rfl
theorem im_X0_nowhere : Cond.instanceMethod yX0_nowhere ∈ tb := mt (i_t3 _ (List.mem_of_getElem? (i := 9) rfl)) rfl
theorem se_X0_nowhere : Cond.selects RX0 yX0_nowhere yX0_nowhere ∈ tb := mt (i_t3 _ (List.mem_of_getElem? (i := 10) rfl)) rfl
theorem co_X0_nowhere : Cond.code yX0_nowhere cX0_nowhere 1 (some .long) ∈ tb := mt (i_t3 _ (List.mem_of_getElem? (i := 11) rfl)) rfl
theorem ml_L_88 : Cond.methodLink RL 88 yX6_compare ∈ tb := mt (i_t3 _ (List.mem_of_getElem? (i := 12) rfl)) rfl
theorem im_X6_compare : Cond.instanceMethod yX6_compare ∈ tb := mt (i_t3 _ (List.mem_of_getElem? (i := 13) rfl)) rfl
theorem se_X6_compare : Cond.selects RX6 yX6_compare yX6_compare ∈ tb := mt (i_t3 _ (List.mem_of_getElem? (i := 14) rfl)) rfl
theorem co_X6_compare : Cond.code yX6_compare cX6_compare 6 (some .int) ∈ tb := mt (i_t3 _ (List.mem_of_getElem? (i := 15) rfl)) rfl
theorem ml_X6_180 : Cond.methodLink RX6 180 yX6_countLiving ∈ tb := mt (i_t3 _ (List.mem_of_getElem? (i := 16) rfl)) rfl
theorem im_X6_countLiving : Cond.instanceMethod yX6_countLiving ∈ tb := mt (i_t3 _ (List.mem_of_getElem? (i := 18) rfl)) rfl
theorem co_X6_countLiving : Cond.code yX6_countLiving cX6_countLiving 8 (some .int) ∈ tb := mt (i_t3 _ (List.mem_of_getElem? (i := 19) rfl)) rfl
theorem ml_X6_206 : Cond.methodLink RX6 206 yX5_livesOn ∈ tb := mt (i_t3 _ (List.mem_of_getElem? (i := 20) rfl)) rfl
theorem ml_X6_184 : Cond.methodLink RX6 184 yX6_countMoved ∈ tb := mt (i_t3 _ (List.mem_of_getElem? (i := 21) rfl)) rfl
theorem im_X6_countMoved : Cond.instanceMethod yX6_countMoved ∈ tb := mt (i_t3 _ (List.mem_of_getElem? (i := 23) rfl)) rfl
theorem co_X6_countMoved : Cond.code yX6_countMoved cX6_countMoved 7 (some .int) ∈ tb := mt (i_t3 _ (List.mem_of_getElem? (i := 24) rfl)) rfl
theorem ml_L_93 : Cond.methodLink RL 93 yX6_count ∈ tb := mt (i_t3 _ (List.mem_of_getElem? (i := 25) rfl)) rfl
theorem im_X6_count : Cond.instanceMethod yX6_count ∈ tb := mt (i_t3 _ (List.mem_of_getElem? (i := 26) rfl)) rfl
theorem se_X6_count : Cond.selects RX6 yX6_count yX6_count ∈ tb := mt (i_t3 _ (List.mem_of_getElem? (i := 27) rfl)) rfl
theorem co_X6_count : Cond.code yX6_count cX6_count 2 (some .int) ∈ tb := mt (i_t3 _ (List.mem_of_getElem? (i := 28) rfl)) rfl
theorem ml_X6_187 : Cond.methodLink RX6 187 yX4_size ∈ tb := mt (i_t3 _ (List.mem_of_getElem? (i := 29) rfl)) rfl
theorem im_X4_size : Cond.instanceMethod yX4_size ∈ tb := mt (i_t3 _ (List.mem_of_getElem? (i := 30) rfl)) rfl
theorem se_X4_size : Cond.selects RX4 yX4_size yX4_size ∈ tb := mt (i_t3 _ (List.mem_of_getElem? (i := 31) rfl)) rfl
theorem co_X4_size : Cond.code yX4_size cX4_size 1 (some .int) ∈ tb := mt (i_t3 _ (List.mem_of_getElem? (i := 32) rfl)) rfl
theorem ml_X6_188 : Cond.methodLink RX6 188 yX2_open ∈ tb := mt (i_t3 _ (List.mem_of_getElem? (i := 33) rfl)) rfl
theorem ml_X6_191 : Cond.methodLink RX6 191 yX2_undoneCount ∈ tb := mt (i_t3 _ (List.mem_of_getElem? (i := 34) rfl)) rfl
theorem im_X2_undoneCount : Cond.instanceMethod yX2_undoneCount ∈ tb := mt (i_t3 _ (List.mem_of_getElem? (i := 35) rfl)) rfl
theorem se_X2_undoneCount : Cond.selects RX2 yX2_undoneCount yX2_undoneCount ∈ tb := mt (i_t3 _ (List.mem_of_getElem? (i := 36) rfl)) rfl
theorem co_X2_undoneCount : Cond.code yX2_undoneCount cX2_undoneCount 1 (some .int) ∈ tb := mt (i_t3 _ (List.mem_of_getElem? (i := 37) rfl)) rfl
theorem cl_L_10 : Cond.classLink RL 10 RX7 ∈ tb := mt (i_t3 _ (List.mem_of_getElem? (i := 38) rfl)) rfl
theorem ib_X7 : Cond.instantiable RX7 26 ∈ tb := mt (i_t3 _ (List.mem_of_getElem? (i := 39) rfl)) rfl
theorem ml_L_12 : Cond.methodLink RL 12 yX7_init ∈ tb := mt (i_t3 _ (List.mem_of_getElem? (i := 40) rfl)) rfl
theorem im_X7_init : Cond.instanceMethod yX7_init ∈ tb := mt (i_t3 _ (List.mem_of_getElem? (i := 41) rfl)) rfl
theorem co_X7_init : Cond.code yX7_init cX7_init 2 none ∈ tb := mt (i_t3 _ (List.mem_of_getElem? (i := 42) rfl)) rfl
theorem ml_X7_1 : Cond.methodLink RX7 1 objectInit ∈ tb := mt (i_t3 _ (List.mem_of_getElem? (i := 43) rfl)) rfl
theorem fl_X7_81 : Cond.fieldLink RX7 81 "ThenTablesModel" "today" "I" ∈ tb := mt (i_t3 _ (List.mem_of_getElem? (i := 44) rfl)) rfl
theorem fl_X7_77 : Cond.fieldLink RX7 77 "ThenTablesModel" "things" "I" ∈ tb := mt (i_t3 _ (List.mem_of_getElem? (i := 45) rfl)) rfl
theorem fl_X7_142 : Cond.fieldLink RX7 142 "ThenTablesModel" "facts" "I" ∈ tb := mt (i_t3 _ (List.mem_of_getElem? (i := 46) rfl)) rfl
theorem fl_X7_122 : Cond.fieldLink RX7 122 "ThenTablesModel" "tellings" "I" ∈ tb := mt (i_t3 _ (List.mem_of_getElem? (i := 47) rfl)) rfl
theorem fl_X7_128 : Cond.fieldLink RX7 128 "ThenTablesModel" "open" "I" ∈ tb := mt (i_t3 _ (List.mem_of_getElem? (i := 48) rfl)) rfl
theorem fl_X7_7 : Cond.fieldLink RX7 7 "ThenTablesModel" "code" "[I" ∈ tb := mt (i_t3 _ (List.mem_of_getElem? (i := 49) rfl)) rfl
theorem fl_X7_13 : Cond.fieldLink RX7 13 "ThenTablesModel" "birth" "[I" ∈ tb := mt (i_t3 _ (List.mem_of_getElem? (i := 50) rfl)) rfl
theorem fl_X7_16 : Cond.fieldLink RX7 16 "ThenTablesModel" "bornKnown" "[I" ∈ tb := mt (i_t3 _ (List.mem_of_getElem? (i := 51) rfl)) rfl
theorem fl_X7_19 : Cond.fieldLink RX7 19 "ThenTablesModel" "end" "[I" ∈ tb := mt (i_t3 _ (List.mem_of_getElem? (i := 52) rfl)) rfl
theorem fl_X7_22 : Cond.fieldLink RX7 22 "ThenTablesModel" "endKnown" "[I" ∈ tb := mt (i_t3 _ (List.mem_of_getElem? (i := 53) rfl)) rfl
theorem fl_X7_25 : Cond.fieldLink RX7 25 "ThenTablesModel" "how" "[I" ∈ tb := mt (i_t3 _ (List.mem_of_getElem? (i := 54) rfl)) rfl
theorem fl_X7_28 : Cond.fieldLink RX7 28 "ThenTablesModel" "heir" "[I" ∈ tb := mt (i_t3 _ (List.mem_of_getElem? (i := 55) rfl)) rfl
theorem fl_X7_31 : Cond.fieldLink RX7 31 "ThenTablesModel" "share" "[I" ∈ tb := mt (i_t3 _ (List.mem_of_getElem? (i := 56) rfl)) rfl
theorem fl_X7_34 : Cond.fieldLink RX7 34 "ThenTablesModel" "whole" "[I" ∈ tb := mt (i_t3 _ (List.mem_of_getElem? (i := 57) rfl)) rfl
theorem fl_X7_37 : Cond.fieldLink RX7 37 "ThenTablesModel" "factCode" "[I" ∈ tb := mt (i_t3 _ (List.mem_of_getElem? (i := 58) rfl)) rfl
theorem fl_X7_40 : Cond.fieldLink RX7 40 "ThenTablesModel" "factDay" "[I" ∈ tb := mt (i_t3 _ (List.mem_of_getElem? (i := 59) rfl)) rfl
theorem fl_X7_43 : Cond.fieldLink RX7 43 "ThenTablesModel" "amount" "[I" ∈ tb := mt (i_t3 _ (List.mem_of_getElem? (i := 60) rfl)) rfl
theorem fl_X7_46 : Cond.fieldLink RX7 46 "ThenTablesModel" "factKnown" "[I" ∈ tb := mt (i_t3 _ (List.mem_of_getElem? (i := 61) rfl)) rfl
theorem fl_X7_49 : Cond.fieldLink RX7 49 "ThenTablesModel" "factLoad" "[I" ∈ tb := mt (i_t3 _ (List.mem_of_getElem? (i := 62) rfl)) rfl
theorem fl_X7_52 : Cond.fieldLink RX7 52 "ThenTablesModel" "markThing" "[I" ∈ tb := mt (i_t3 _ (List.mem_of_getElem? (i := 63) rfl)) rfl
theorem fl_X7_55 : Cond.fieldLink RX7 55 "ThenTablesModel" "markOf" "[I" ∈ tb := mt (i_t3 _ (List.mem_of_getElem? (i := 64) rfl)) rfl
theorem fl_X7_58 : Cond.fieldLink RX7 58 "ThenTablesModel" "markFrom" "[I" ∈ tb := mt (i_t3 _ (List.mem_of_getElem? (i := 65) rfl)) rfl
theorem fl_X7_61 : Cond.fieldLink RX7 61 "ThenTablesModel" "markValue" "[I" ∈ tb := mt (i_t3 _ (List.mem_of_getElem? (i := 66) rfl)) rfl
theorem fl_X7_64 : Cond.fieldLink RX7 64 "ThenTablesModel" "markKnown" "[I" ∈ tb := mt (i_t3 _ (List.mem_of_getElem? (i := 67) rfl)) rfl
theorem fl_X7_67 : Cond.fieldLink RX7 67 "ThenTablesModel" "markLoad" "[I" ∈ tb := mt (i_t3 _ (List.mem_of_getElem? (i := 68) rfl)) rfl
theorem fl_X7_70 : Cond.fieldLink RX7 70 "ThenTablesModel" "undone" "[I" ∈ tb := mt (i_t3 _ (List.mem_of_getElem? (i := 69) rfl)) rfl
theorem ml_L_17 : Cond.methodLink RL 17 yX7_day ∈ tb := mt (i_t3 _ (List.mem_of_getElem? (i := 123) rfl)) rfl
theorem im_X7_day : Cond.instanceMethod yX7_day ∈ tb := mt (i_t3 _ (List.mem_of_getElem? (i := 124) rfl)) rfl
theorem se_X7_day : Cond.selects RX7 yX7_day yX7_day ∈ tb := mt (i_t3 _ (List.mem_of_getElem? (i := 125) rfl)) rfl
theorem co_X7_day : Cond.code yX7_day cX7_day 2 (some .boolean) ∈ tb := mt (i_t3 _ (List.mem_of_getElem? (i := 126) rfl)) rfl
theorem ml_L_22 : Cond.methodLink RL 22 yX7_born ∈ tb := mt (i_t3 _ (List.mem_of_getElem? (i := 127) rfl)) rfl
theorem im_X7_born : Cond.instanceMethod yX7_born ∈ tb := mt (i_t3 _ (List.mem_of_getElem? (i := 128) rfl)) rfl
theorem se_X7_born : Cond.selects RX7 yX7_born yX7_born ∈ tb := mt (i_t3 _ (List.mem_of_getElem? (i := 129) rfl)) rfl
theorem co_X7_born : Cond.code yX7_born cX7_born 3 (some .int) ∈ tb := mt (i_t3 _ (List.mem_of_getElem? (i := 130) rfl)) rfl
theorem ml_X7_91 : Cond.methodLink RX7 91 yX7_isCode ∈ tb := mt (i_t3 _ (List.mem_of_getElem? (i := 131) rfl)) rfl
theorem st_X7_isCode : Cond.static yX7_isCode ∈ tb := mt (i_t3 _ (List.mem_of_getElem? (i := 132) rfl)) rfl
theorem co_X7_isCode : Cond.code yX7_isCode cX7_isCode 1 (some .boolean) ∈ tb := mt (i_t3 _ (List.mem_of_getElem? (i := 133) rfl)) rfl
theorem ml_X7_73 : Cond.methodLink RX7 73 yX7_isIn ∈ tb := mt (i_t3 _ (List.mem_of_getElem? (i := 134) rfl)) rfl
theorem st_X7_isIn : Cond.static yX7_isIn ∈ tb := mt (i_t3 _ (List.mem_of_getElem? (i := 135) rfl)) rfl
theorem co_X7_isIn : Cond.code yX7_isIn cX7_isIn 3 (some .boolean) ∈ tb := mt (i_t3 _ (List.mem_of_getElem? (i := 136) rfl)) rfl
theorem ml_X7_95 : Cond.methodLink RX7 95 yX7_isDay ∈ tb := mt (i_t3 _ (List.mem_of_getElem? (i := 137) rfl)) rfl
theorem st_X7_isDay : Cond.static yX7_isDay ∈ tb := mt (i_t3 _ (List.mem_of_getElem? (i := 138) rfl)) rfl
theorem co_X7_isDay : Cond.code yX7_isDay cX7_isDay 1 (some .boolean) ∈ tb := mt (i_t3 _ (List.mem_of_getElem? (i := 139) rfl)) rfl
theorem ml_X7_98 : Cond.methodLink RX7 98 yX7_isTaken ∈ tb := mt (i_t3 _ (List.mem_of_getElem? (i := 140) rfl)) rfl
theorem im_X7_isTaken : Cond.instanceMethod yX7_isTaken ∈ tb := mt (i_t3 _ (List.mem_of_getElem? (i := 142) rfl)) rfl
theorem co_X7_isTaken : Cond.code yX7_isTaken cX7_isTaken 7 (some .boolean) ∈ tb := mt (i_t3 _ (List.mem_of_getElem? (i := 143) rfl)) rfl
theorem ml_X7_88 : Cond.methodLink RX7 88 yX7_lives ∈ tb := mt (i_t3 _ (List.mem_of_getElem? (i := 144) rfl)) rfl
theorem im_X7_lives : Cond.instanceMethod yX7_lives ∈ tb := mt (i_t3 _ (List.mem_of_getElem? (i := 146) rfl)) rfl
theorem co_X7_lives : Cond.code yX7_lives cX7_lives 4 (some .boolean) ∈ tb := mt (i_t3 _ (List.mem_of_getElem? (i := 147) rfl)) rfl
theorem ml_X7_84 : Cond.methodLink RX7 84 yX7_endBy ∈ tb := mt (i_t3 _ (List.mem_of_getElem? (i := 148) rfl)) rfl
theorem im_X7_endBy : Cond.instanceMethod yX7_endBy ∈ tb := mt (i_t3 _ (List.mem_of_getElem? (i := 150) rfl)) rfl
theorem co_X7_endBy : Cond.code yX7_endBy cX7_endBy 3 (some .int) ∈ tb := mt (i_t3 _ (List.mem_of_getElem? (i := 151) rfl)) rfl
theorem ml_X7_102 : Cond.methodLink RX7 102 yX7_comes ∈ tb := mt (i_t3 _ (List.mem_of_getElem? (i := 152) rfl)) rfl
theorem im_X7_comes : Cond.instanceMethod yX7_comes ∈ tb := mt (i_t3 _ (List.mem_of_getElem? (i := 154) rfl)) rfl
theorem co_X7_comes : Cond.code yX7_comes cX7_comes 4 (some .int) ∈ tb := mt (i_t3 _ (List.mem_of_getElem? (i := 155) rfl)) rfl
theorem ml_L_27 : Cond.methodLink RL 27 yX7_ends ∈ tb := mt (i_t3 _ (List.mem_of_getElem? (i := 156) rfl)) rfl
theorem im_X7_ends : Cond.instanceMethod yX7_ends ∈ tb := mt (i_t3 _ (List.mem_of_getElem? (i := 157) rfl)) rfl
theorem se_X7_ends : Cond.selects RX7 yX7_ends yX7_ends ∈ tb := mt (i_t3 _ (List.mem_of_getElem? (i := 158) rfl)) rfl
theorem co_X7_ends : Cond.code yX7_ends cX7_ends 3 (some .boolean) ∈ tb := mt (i_t3 _ (List.mem_of_getElem? (i := 159) rfl)) rfl
theorem ml_X7_108 : Cond.methodLink RX7 108 yX7_mayEnd ∈ tb := mt (i_t3 _ (List.mem_of_getElem? (i := 160) rfl)) rfl
theorem im_X7_mayEnd : Cond.instanceMethod yX7_mayEnd ∈ tb := mt (i_t3 _ (List.mem_of_getElem? (i := 162) rfl)) rfl
theorem co_X7_mayEnd : Cond.code yX7_mayEnd cX7_mayEnd 3 (some .boolean) ∈ tb := mt (i_t3 _ (List.mem_of_getElem? (i := 163) rfl)) rfl
theorem ml_X7_105 : Cond.methodLink RX7 105 yX7_isThing ∈ tb := mt (i_t3 _ (List.mem_of_getElem? (i := 164) rfl)) rfl
theorem im_X7_isThing : Cond.instanceMethod yX7_isThing ∈ tb := mt (i_t3 _ (List.mem_of_getElem? (i := 166) rfl)) rfl
theorem co_X7_isThing : Cond.code yX7_isThing cX7_isThing 2 (some .boolean) ∈ tb := mt (i_t3 _ (List.mem_of_getElem? (i := 167) rfl)) rfl
theorem ml_X7_112 : Cond.methodLink RX7 112 yX7_goes ∈ tb := mt (i_t3 _ (List.mem_of_getElem? (i := 168) rfl)) rfl
theorem im_X7_goes : Cond.instanceMethod yX7_goes ∈ tb := mt (i_t3 _ (List.mem_of_getElem? (i := 170) rfl)) rfl
theorem co_X7_goes : Cond.code yX7_goes cX7_goes 7 none ∈ tb := mt (i_t3 _ (List.mem_of_getElem? (i := 171) rfl)) rfl
theorem ml_L_32 : Cond.methodLink RL 32 yX7_split ∈ tb := mt (i_t3 _ (List.mem_of_getElem? (i := 172) rfl)) rfl
theorem im_X7_split : Cond.instanceMethod yX7_split ∈ tb := mt (i_t3 _ (List.mem_of_getElem? (i := 173) rfl)) rfl
theorem se_X7_split : Cond.selects RX7 yX7_split yX7_split ∈ tb := mt (i_t3 _ (List.mem_of_getElem? (i := 174) rfl)) rfl
theorem co_X7_split : Cond.code yX7_split cX7_split 8 (some .int) ∈ tb := mt (i_t3 _ (List.mem_of_getElem? (i := 175) rfl)) rfl
theorem ml_L_37 : Cond.methodLink RL 37 yX7_join ∈ tb := mt (i_t3 _ (List.mem_of_getElem? (i := 176) rfl)) rfl
theorem im_X7_join : Cond.instanceMethod yX7_join ∈ tb := mt (i_t3 _ (List.mem_of_getElem? (i := 177) rfl)) rfl
theorem se_X7_join : Cond.selects RX7 yX7_join yX7_join ∈ tb := mt (i_t3 _ (List.mem_of_getElem? (i := 178) rfl)) rfl
theorem co_X7_join : Cond.code yX7_join cX7_join 6 (some .int) ∈ tb := mt (i_t3 _ (List.mem_of_getElem? (i := 179) rfl)) rfl
theorem ml_L_42 : Cond.methodLink RL 42 yX7_mark ∈ tb := mt (i_t3 _ (List.mem_of_getElem? (i := 180) rfl)) rfl
theorem im_X7_mark : Cond.instanceMethod yX7_mark ∈ tb := mt (i_t3 _ (List.mem_of_getElem? (i := 181) rfl)) rfl
theorem se_X7_mark : Cond.selects RX7 yX7_mark yX7_mark ∈ tb := mt (i_t3 _ (List.mem_of_getElem? (i := 182) rfl)) rfl
theorem co_X7_mark : Cond.code yX7_mark cX7_mark 6 (some .boolean) ∈ tb := mt (i_t3 _ (List.mem_of_getElem? (i := 183) rfl)) rfl
theorem ml_X7_119 : Cond.methodLink RX7 119 yX7_isMark ∈ tb := mt (i_t3 _ (List.mem_of_getElem? (i := 184) rfl)) rfl
theorem st_X7_isMark : Cond.static yX7_isMark ∈ tb := mt (i_t3 _ (List.mem_of_getElem? (i := 185) rfl)) rfl
theorem co_X7_isMark : Cond.code yX7_isMark cX7_isMark 1 (some .boolean) ∈ tb := mt (i_t3 _ (List.mem_of_getElem? (i := 186) rfl)) rfl
theorem ml_X7_125 : Cond.methodLink RX7 125 yX7_isTelling ∈ tb := mt (i_t3 _ (List.mem_of_getElem? (i := 187) rfl)) rfl
theorem im_X7_isTelling : Cond.instanceMethod yX7_isTelling ∈ tb := mt (i_t3 _ (List.mem_of_getElem? (i := 189) rfl)) rfl
theorem co_X7_isTelling : Cond.code yX7_isTelling cX7_isTelling 5 (some .boolean) ∈ tb := mt (i_t3 _ (List.mem_of_getElem? (i := 190) rfl)) rfl
theorem ml_X7_116 : Cond.methodLink RX7 116 yX7_isKnown ∈ tb := mt (i_t3 _ (List.mem_of_getElem? (i := 191) rfl)) rfl
theorem im_X7_isKnown : Cond.instanceMethod yX7_isKnown ∈ tb := mt (i_t3 _ (List.mem_of_getElem? (i := 193) rfl)) rfl
theorem co_X7_isKnown : Cond.code yX7_isKnown cX7_isKnown 4 (some .boolean) ∈ tb := mt (i_t3 _ (List.mem_of_getElem? (i := 194) rfl)) rfl
theorem ml_L_61 : Cond.methodLink RL 61 yX7_told ∈ tb := mt (i_t3 _ (List.mem_of_getElem? (i := 195) rfl)) rfl
theorem im_X7_told : Cond.instanceMethod yX7_told ∈ tb := mt (i_t3 _ (List.mem_of_getElem? (i := 196) rfl)) rfl
theorem se_X7_told : Cond.selects RX7 yX7_told yX7_told ∈ tb := mt (i_t3 _ (List.mem_of_getElem? (i := 197) rfl)) rfl
theorem co_X7_told : Cond.code yX7_told cX7_told 5 (some .int) ∈ tb := mt (i_t3 _ (List.mem_of_getElem? (i := 198) rfl)) rfl
theorem ml_X7_131 : Cond.methodLink RX7 131 yX7_valueOf ∈ tb := mt (i_t3 _ (List.mem_of_getElem? (i := 199) rfl)) rfl
theorem im_X7_valueOf : Cond.instanceMethod yX7_valueOf ∈ tb := mt (i_t3 _ (List.mem_of_getElem? (i := 201) rfl)) rfl
theorem co_X7_valueOf : Cond.code yX7_valueOf cX7_valueOf 7 (some .int) ∈ tb := mt (i_t3 _ (List.mem_of_getElem? (i := 202) rfl)) rfl
theorem ml_L_65 : Cond.methodLink RL 65 yX7_thing ∈ tb := mt (i_t3 _ (List.mem_of_getElem? (i := 203) rfl)) rfl
theorem im_X7_thing : Cond.instanceMethod yX7_thing ∈ tb := mt (i_t3 _ (List.mem_of_getElem? (i := 204) rfl)) rfl
theorem se_X7_thing : Cond.selects RX7 yX7_thing yX7_thing ∈ tb := mt (i_t3 _ (List.mem_of_getElem? (i := 205) rfl)) rfl
theorem co_X7_thing : Cond.code yX7_thing cX7_thing 5 (some .int) ∈ tb := mt (i_t3 _ (List.mem_of_getElem? (i := 206) rfl)) rfl
theorem ml_X7_139 : Cond.methodLink RX7 139 yX7_turns ∈ tb := mt (i_t3 _ (List.mem_of_getElem? (i := 207) rfl)) rfl
theorem im_X7_turns : Cond.instanceMethod yX7_turns ∈ tb := mt (i_t3 _ (List.mem_of_getElem? (i := 209) rfl)) rfl
theorem co_X7_turns : Cond.code yX7_turns cX7_turns 6 (some .int) ∈ tb := mt (i_t3 _ (List.mem_of_getElem? (i := 210) rfl)) rfl
theorem ml_X7_135 : Cond.methodLink RX7 135 yX7_one ∈ tb := mt (i_t3 _ (List.mem_of_getElem? (i := 211) rfl)) rfl
theorem st_X7_one : Cond.static yX7_one ∈ tb := mt (i_t3 _ (List.mem_of_getElem? (i := 212) rfl)) rfl
theorem co_X7_one : Cond.code yX7_one cX7_one 1 (some .int) ∈ tb := mt (i_t3 _ (List.mem_of_getElem? (i := 213) rfl)) rfl
theorem ml_L_47 : Cond.methodLink RL 47 yX7_fact ∈ tb := mt (i_t3 _ (List.mem_of_getElem? (i := 214) rfl)) rfl
theorem im_X7_fact : Cond.instanceMethod yX7_fact ∈ tb := mt (i_t3 _ (List.mem_of_getElem? (i := 215) rfl)) rfl
theorem se_X7_fact : Cond.selects RX7 yX7_fact yX7_fact ∈ tb := mt (i_t3 _ (List.mem_of_getElem? (i := 216) rfl)) rfl
theorem co_X7_fact : Cond.code yX7_fact cX7_fact 4 (some .int) ∈ tb := mt (i_t3 _ (List.mem_of_getElem? (i := 217) rfl)) rfl
theorem ml_L_52 : Cond.methodLink RL 52 yX7_load ∈ tb := mt (i_t3 _ (List.mem_of_getElem? (i := 218) rfl)) rfl
theorem im_X7_load : Cond.instanceMethod yX7_load ∈ tb := mt (i_t3 _ (List.mem_of_getElem? (i := 219) rfl)) rfl
theorem se_X7_load : Cond.selects RX7 yX7_load yX7_load ∈ tb := mt (i_t3 _ (List.mem_of_getElem? (i := 220) rfl)) rfl
theorem co_X7_load : Cond.code yX7_load cX7_load 1 (some .int) ∈ tb := mt (i_t3 _ (List.mem_of_getElem? (i := 221) rfl)) rfl
theorem ml_L_57 : Cond.methodLink RL 57 yX7_undo ∈ tb := mt (i_t3 _ (List.mem_of_getElem? (i := 222) rfl)) rfl
theorem im_X7_undo : Cond.instanceMethod yX7_undo ∈ tb := mt (i_t3 _ (List.mem_of_getElem? (i := 223) rfl)) rfl
theorem se_X7_undo : Cond.selects RX7 yX7_undo yX7_undo ∈ tb := mt (i_t3 _ (List.mem_of_getElem? (i := 224) rfl)) rfl
theorem co_X7_undo : Cond.code yX7_undo cX7_undo 4 (some .int) ∈ tb := mt (i_t3 _ (List.mem_of_getElem? (i := 225) rfl)) rfl
theorem ml_L_69 : Cond.methodLink RL 69 yX7_hangs ∈ tb := mt (i_t3 _ (List.mem_of_getElem? (i := 226) rfl)) rfl
theorem im_X7_hangs : Cond.instanceMethod yX7_hangs ∈ tb := mt (i_t3 _ (List.mem_of_getElem? (i := 227) rfl)) rfl
theorem se_X7_hangs : Cond.selects RX7 yX7_hangs yX7_hangs ∈ tb := mt (i_t3 _ (List.mem_of_getElem? (i := 228) rfl)) rfl
theorem co_X7_hangs : Cond.code yX7_hangs cX7_hangs 3 (some .int) ∈ tb := mt (i_t3 _ (List.mem_of_getElem? (i := 229) rfl)) rfl
theorem ml_X7_149 : Cond.methodLink RX7 149 yX7_isFact ∈ tb := mt (i_t3 _ (List.mem_of_getElem? (i := 230) rfl)) rfl
theorem im_X7_isFact : Cond.instanceMethod yX7_isFact ∈ tb := mt (i_t3 _ (List.mem_of_getElem? (i := 232) rfl)) rfl
theorem co_X7_isFact : Cond.code yX7_isFact cX7_isFact 3 (some .boolean) ∈ tb := mt (i_t3 _ (List.mem_of_getElem? (i := 233) rfl)) rfl
theorem ml_X7_152 : Cond.methodLink RX7 152 yX7_thingOf ∈ tb := mt (i_t3 _ (List.mem_of_getElem? (i := 234) rfl)) rfl
theorem im_X7_thingOf : Cond.instanceMethod yX7_thingOf ∈ tb := mt (i_t3 _ (List.mem_of_getElem? (i := 236) rfl)) rfl
theorem co_X7_thingOf : Cond.code yX7_thingOf cX7_thingOf 3 (some .int) ∈ tb := mt (i_t3 _ (List.mem_of_getElem? (i := 237) rfl)) rfl
theorem ml_X7_145 : Cond.methodLink RX7 145 yX7_living ∈ tb := mt (i_t3 _ (List.mem_of_getElem? (i := 238) rfl)) rfl
theorem im_X7_living : Cond.instanceMethod yX7_living ∈ tb := mt (i_t4 _ (List.mem_of_getElem? (i := 0) rfl)) rfl
theorem co_X7_living : Cond.code yX7_living cX7_living 5 (some .int) ∈ tb := mt (i_t4 _ (List.mem_of_getElem? (i := 1) rfl)) rfl
theorem ml_L_73 : Cond.methodLink RL 73 yX7_find ∈ tb := mt (i_t4 _ (List.mem_of_getElem? (i := 2) rfl)) rfl
theorem im_X7_find : Cond.instanceMethod yX7_find ∈ tb := mt (i_t4 _ (List.mem_of_getElem? (i := 3) rfl)) rfl
theorem se_X7_find : Cond.selects RX7 yX7_find yX7_find ∈ tb := mt (i_t4 _ (List.mem_of_getElem? (i := 4) rfl)) rfl
theorem co_X7_find : Cond.code yX7_find cX7_find 4 (some .int) ∈ tb := mt (i_t4 _ (List.mem_of_getElem? (i := 5) rfl)) rfl
theorem ml_L_78 : Cond.methodLink RL 78 yX7_then ∈ tb := mt (i_t4 _ (List.mem_of_getElem? (i := 6) rfl)) rfl
theorem im_X7_then : Cond.instanceMethod yX7_then ∈ tb := mt (i_t4 _ (List.mem_of_getElem? (i := 7) rfl)) rfl
theorem se_X7_then : Cond.selects RX7 yX7_then yX7_then ∈ tb := mt (i_t4 _ (List.mem_of_getElem? (i := 8) rfl)) rfl
theorem co_X7_then : Cond.code yX7_then cX7_then 8 (some .long) ∈ tb := mt (i_t4 _ (List.mem_of_getElem? (i := 9) rfl)) rfl
theorem ml_X7_155 : Cond.methodLink RX7 155 yX7_isAsked ∈ tb := mt (i_t4 _ (List.mem_of_getElem? (i := 10) rfl)) rfl
theorem im_X7_isAsked : Cond.instanceMethod yX7_isAsked ∈ tb := mt (i_t4 _ (List.mem_of_getElem? (i := 12) rfl)) rfl
theorem co_X7_isAsked : Cond.code yX7_isAsked cX7_isAsked 4 (some .boolean) ∈ tb := mt (i_t4 _ (List.mem_of_getElem? (i := 13) rfl)) rfl
theorem ml_L_83 : Cond.methodLink RL 83 yX7_by ∈ tb := mt (i_t4 _ (List.mem_of_getElem? (i := 14) rfl)) rfl
theorem im_X7_by : Cond.instanceMethod yX7_by ∈ tb := mt (i_t4 _ (List.mem_of_getElem? (i := 15) rfl)) rfl
theorem se_X7_by : Cond.selects RX7 yX7_by yX7_by ∈ tb := mt (i_t4 _ (List.mem_of_getElem? (i := 16) rfl)) rfl
theorem co_X7_by : Cond.code yX7_by cX7_by 5 (some .long) ∈ tb := mt (i_t4 _ (List.mem_of_getElem? (i := 17) rfl)) rfl
theorem ml_X7_162 : Cond.methodLink RX7 162 yX7_allCarried ∈ tb := mt (i_t4 _ (List.mem_of_getElem? (i := 18) rfl)) rfl
theorem im_X7_allCarried : Cond.instanceMethod yX7_allCarried ∈ tb := mt (i_t4 _ (List.mem_of_getElem? (i := 20) rfl)) rfl
theorem co_X7_allCarried : Cond.code yX7_allCarried cX7_allCarried 9 (some .long) ∈ tb := mt (i_t4 _ (List.mem_of_getElem? (i := 21) rfl)) rfl
theorem ml_X7_158 : Cond.methodLink RX7 158 yX7_carried ∈ tb := mt (i_t4 _ (List.mem_of_getElem? (i := 22) rfl)) rfl
theorem im_X7_carried : Cond.instanceMethod yX7_carried ∈ tb := mt (i_t4 _ (List.mem_of_getElem? (i := 24) rfl)) rfl
theorem co_X7_carried : Cond.code yX7_carried cX7_carried 9 (some .long) ∈ tb := mt (i_t4 _ (List.mem_of_getElem? (i := 25) rfl)) rfl
theorem ml_L_87 : Cond.methodLink RL 87 yX7_sum ∈ tb := mt (i_t4 _ (List.mem_of_getElem? (i := 26) rfl)) rfl
theorem im_X7_sum : Cond.instanceMethod yX7_sum ∈ tb := mt (i_t4 _ (List.mem_of_getElem? (i := 27) rfl)) rfl
theorem se_X7_sum : Cond.selects RX7 yX7_sum yX7_sum ∈ tb := mt (i_t4 _ (List.mem_of_getElem? (i := 28) rfl)) rfl
theorem co_X7_sum : Cond.code yX7_sum cX7_sum 7 (some .long) ∈ tb := mt (i_t4 _ (List.mem_of_getElem? (i := 29) rfl)) rfl
theorem ml_L_92 : Cond.methodLink RL 92 yX7_compare ∈ tb := mt (i_t4 _ (List.mem_of_getElem? (i := 30) rfl)) rfl
theorem im_X7_compare : Cond.instanceMethod yX7_compare ∈ tb := mt (i_t4 _ (List.mem_of_getElem? (i := 31) rfl)) rfl
theorem se_X7_compare : Cond.selects RX7 yX7_compare yX7_compare ∈ tb := mt (i_t4 _ (List.mem_of_getElem? (i := 32) rfl)) rfl
theorem co_X7_compare : Cond.code yX7_compare cX7_compare 11 (some .int) ∈ tb := mt (i_t4 _ (List.mem_of_getElem? (i := 33) rfl)) rfl
theorem ml_L_96 : Cond.methodLink RL 96 yX7_count ∈ tb := mt (i_t4 _ (List.mem_of_getElem? (i := 34) rfl)) rfl
theorem im_X7_count : Cond.instanceMethod yX7_count ∈ tb := mt (i_t4 _ (List.mem_of_getElem? (i := 35) rfl)) rfl
theorem se_X7_count : Cond.selects RX7 yX7_count yX7_count ∈ tb := mt (i_t4 _ (List.mem_of_getElem? (i := 36) rfl)) rfl
theorem co_X7_count : Cond.code yX7_count cX7_count 4 (some .int) ∈ tb := mt (i_t4 _ (List.mem_of_getElem? (i := 37) rfl)) rfl
theorem se_X6_canEnd : Cond.selects RX6 yX6_canEnd yX6_canEnd ∈ tb := mt (List.mem_append_left _ (List.mem_of_getElem? (i := 0) rfl)) rfl
theorem se_X6_isFixed : Cond.selects RX6 yX6_isFixed yX6_isFixed ∈ tb := mt (List.mem_append_left _ (List.mem_of_getElem? (i := 1) rfl)) rfl
theorem se_X4_isOf : Cond.selects RX4 yX4_isOf yX4_isOf ∈ tb := mt (List.mem_append_left _ (List.mem_of_getElem? (i := 2) rfl)) rfl
theorem se_X4_outdoes : Cond.selects RX4 yX4_outdoes yX4_outdoes ∈ tb := mt (List.mem_append_left _ (List.mem_of_getElem? (i := 3) rfl)) rfl
theorem se_X5_isEndKnown : Cond.selects RX5 yX5_isEndKnown yX5_isEndKnown ∈ tb := mt (List.mem_append_left _ (List.mem_of_getElem? (i := 4) rfl)) rfl
theorem se_X6_thingOfFact : Cond.selects RX6 yX6_thingOfFact yX6_thingOfFact ∈ tb := mt (List.mem_append_left _ (List.mem_of_getElem? (i := 5) rfl)) rfl
theorem se_X6_isMarkedThen : Cond.selects RX6 yX6_isMarkedThen yX6_isMarkedThen ∈ tb := mt (List.mem_append_left _ (List.mem_of_getElem? (i := 6) rfl)) rfl
theorem se_X6_carryAll : Cond.selects RX6 yX6_carryAll yX6_carryAll ∈ tb := mt (List.mem_append_left _ (List.mem_of_getElem? (i := 7) rfl)) rfl
theorem se_X6_sumOfFacts : Cond.selects RX6 yX6_sumOfFacts yX6_sumOfFacts ∈ tb := mt (List.mem_append_left _ (List.mem_of_getElem? (i := 8) rfl)) rfl
theorem se_X6_countLiving : Cond.selects RX6 yX6_countLiving yX6_countLiving ∈ tb := mt (List.mem_append_left _ (List.mem_of_getElem? (i := 9) rfl)) rfl
theorem se_X6_countMoved : Cond.selects RX6 yX6_countMoved yX6_countMoved ∈ tb := mt (List.mem_append_left _ (List.mem_of_getElem? (i := 10) rfl)) rfl
theorem se_X7_isTaken : Cond.selects RX7 yX7_isTaken yX7_isTaken ∈ tb := mt (List.mem_append_left _ (List.mem_of_getElem? (i := 11) rfl)) rfl
theorem se_X7_lives : Cond.selects RX7 yX7_lives yX7_lives ∈ tb := mt (List.mem_append_left _ (List.mem_of_getElem? (i := 12) rfl)) rfl
theorem se_X7_endBy : Cond.selects RX7 yX7_endBy yX7_endBy ∈ tb := mt (List.mem_append_left _ (List.mem_of_getElem? (i := 13) rfl)) rfl
theorem se_X7_comes : Cond.selects RX7 yX7_comes yX7_comes ∈ tb := mt (List.mem_append_left _ (List.mem_of_getElem? (i := 14) rfl)) rfl
theorem se_X7_mayEnd : Cond.selects RX7 yX7_mayEnd yX7_mayEnd ∈ tb := mt (List.mem_append_left _ (List.mem_of_getElem? (i := 15) rfl)) rfl
theorem se_X7_isThing : Cond.selects RX7 yX7_isThing yX7_isThing ∈ tb := mt (List.mem_append_left _ (List.mem_of_getElem? (i := 16) rfl)) rfl
theorem se_X7_goes : Cond.selects RX7 yX7_goes yX7_goes ∈ tb := mt (List.mem_append_left _ (List.mem_of_getElem? (i := 17) rfl)) rfl
theorem se_X7_isTelling : Cond.selects RX7 yX7_isTelling yX7_isTelling ∈ tb := mt (List.mem_append_left _ (List.mem_of_getElem? (i := 18) rfl)) rfl
theorem se_X7_isKnown : Cond.selects RX7 yX7_isKnown yX7_isKnown ∈ tb := mt (List.mem_append_left _ (List.mem_of_getElem? (i := 19) rfl)) rfl
theorem se_X7_valueOf : Cond.selects RX7 yX7_valueOf yX7_valueOf ∈ tb := mt (List.mem_append_left _ (List.mem_of_getElem? (i := 20) rfl)) rfl
theorem se_X7_turns : Cond.selects RX7 yX7_turns yX7_turns ∈ tb := mt (List.mem_append_left _ (List.mem_of_getElem? (i := 21) rfl)) rfl
theorem se_X7_isFact : Cond.selects RX7 yX7_isFact yX7_isFact ∈ tb := mt (List.mem_append_left _ (List.mem_of_getElem? (i := 22) rfl)) rfl
theorem se_X7_thingOf : Cond.selects RX7 yX7_thingOf yX7_thingOf ∈ tb := mt (List.mem_append_left _ (List.mem_of_getElem? (i := 23) rfl)) rfl
theorem se_X7_living : Cond.selects RX7 yX7_living yX7_living ∈ tb := mt (List.mem_append_left _ (List.mem_of_getElem? (i := 24) rfl)) rfl
theorem se_X7_isAsked : Cond.selects RX7 yX7_isAsked yX7_isAsked ∈ tb := mt (List.mem_append_left _ (List.mem_of_getElem? (i := 25) rfl)) rfl
theorem se_X7_allCarried : Cond.selects RX7 yX7_allCarried yX7_allCarried ∈ tb := mt (List.mem_append_left _ (List.mem_of_getElem? (i := 26) rfl)) rfl
theorem se_X7_carried : Cond.selects RX7 yX7_carried yX7_carried ∈ tb := mt (List.mem_append_left _ (List.mem_of_getElem? (i := 27) rfl)) rfl
theorem ly_X2_0 : u_lay RX2 TX2 0 ∈ tb := mt (i_t1 _ (List.mem_of_getElem? (i := 27) rfl)) rfl
theorem ly_X2_1 : u_lay RX2 TX2 1 ∈ tb := mt (i_t1 _ (List.mem_of_getElem? (i := 29) rfl)) rfl
theorem ly_X2_2 : u_lay RX2 TX2 2 ∈ tb := mt (i_t1 _ (List.mem_of_getElem? (i := 31) rfl)) rfl
theorem inX2 : ∀ w ∈ u_ws RX2 TX2 3, w ∈ tb := by
  intro w hw
  obtain ⟨k, hk, rfl⟩ := List.mem_map.mp hw
  have hk : k < 3 := List.mem_range.mp hk
  match k, hk with
  | 0, _ => exact ly_X2_0
  | 1, _ => exact ly_X2_1
  | 2, _ => exact ly_X2_2
  | k + 3, h => exact absurd h (by omega)
theorem ly_X5_0 : u_lay RX5 TX5 0 ∈ tb := mt (i_t1 _ (List.mem_of_getElem? (i := 51) rfl)) rfl
theorem ly_X5_1 : u_lay RX5 TX5 1 ∈ tb := mt (i_t1 _ (List.mem_of_getElem? (i := 53) rfl)) rfl
theorem ly_X5_2 : u_lay RX5 TX5 2 ∈ tb := mt (i_t1 _ (List.mem_of_getElem? (i := 55) rfl)) rfl
theorem ly_X5_3 : u_lay RX5 TX5 3 ∈ tb := mt (i_t1 _ (List.mem_of_getElem? (i := 57) rfl)) rfl
theorem ly_X5_4 : u_lay RX5 TX5 4 ∈ tb := mt (i_t1 _ (List.mem_of_getElem? (i := 59) rfl)) rfl
theorem ly_X5_5 : u_lay RX5 TX5 5 ∈ tb := mt (i_t1 _ (List.mem_of_getElem? (i := 61) rfl)) rfl
theorem ly_X5_6 : u_lay RX5 TX5 6 ∈ tb := mt (i_t1 _ (List.mem_of_getElem? (i := 63) rfl)) rfl
theorem ly_X5_7 : u_lay RX5 TX5 7 ∈ tb := mt (i_t1 _ (List.mem_of_getElem? (i := 65) rfl)) rfl
theorem ly_X5_8 : u_lay RX5 TX5 8 ∈ tb := mt (i_t1 _ (List.mem_of_getElem? (i := 67) rfl)) rfl
theorem ly_X5_9 : u_lay RX5 TX5 9 ∈ tb := mt (i_t1 _ (List.mem_of_getElem? (i := 69) rfl)) rfl
theorem inX5 : ∀ w ∈ u_ws RX5 TX5 10, w ∈ tb := by
  intro w hw
  obtain ⟨k, hk, rfl⟩ := List.mem_map.mp hw
  have hk : k < 10 := List.mem_range.mp hk
  match k, hk with
  | 0, _ => exact ly_X5_0
  | 1, _ => exact ly_X5_1
  | 2, _ => exact ly_X5_2
  | 3, _ => exact ly_X5_3
  | 4, _ => exact ly_X5_4
  | 5, _ => exact ly_X5_5
  | 6, _ => exact ly_X5_6
  | 7, _ => exact ly_X5_7
  | 8, _ => exact ly_X5_8
  | 9, _ => exact ly_X5_9
  | k + 10, h => exact absurd h (by omega)
theorem ly_X3_0 : u_lay RX3 TX3 0 ∈ tb := mt (i_t1 _ (List.mem_of_getElem? (i := 92) rfl)) rfl
theorem ly_X3_1 : u_lay RX3 TX3 1 ∈ tb := mt (i_t1 _ (List.mem_of_getElem? (i := 94) rfl)) rfl
theorem ly_X3_2 : u_lay RX3 TX3 2 ∈ tb := mt (i_t1 _ (List.mem_of_getElem? (i := 96) rfl)) rfl
theorem ly_X3_3 : u_lay RX3 TX3 3 ∈ tb := mt (i_t1 _ (List.mem_of_getElem? (i := 98) rfl)) rfl
theorem ly_X3_4 : u_lay RX3 TX3 4 ∈ tb := mt (i_t1 _ (List.mem_of_getElem? (i := 100) rfl)) rfl
theorem inX3 : ∀ w ∈ u_ws RX3 TX3 5, w ∈ tb := by
  intro w hw
  obtain ⟨k, hk, rfl⟩ := List.mem_map.mp hw
  have hk : k < 5 := List.mem_range.mp hk
  match k, hk with
  | 0, _ => exact ly_X3_0
  | 1, _ => exact ly_X3_1
  | 2, _ => exact ly_X3_2
  | 3, _ => exact ly_X3_3
  | 4, _ => exact ly_X3_4
  | k + 5, h => exact absurd h (by omega)
theorem ly_X4_0 : u_lay RX4 TX4 0 ∈ tb := mt (i_t1 _ (List.mem_of_getElem? (i := 108) rfl)) rfl
theorem ly_X4_1 : u_lay RX4 TX4 1 ∈ tb := mt (i_t1 _ (List.mem_of_getElem? (i := 110) rfl)) rfl
theorem ly_X4_2 : u_lay RX4 TX4 2 ∈ tb := mt (i_t1 _ (List.mem_of_getElem? (i := 112) rfl)) rfl
theorem ly_X4_3 : u_lay RX4 TX4 3 ∈ tb := mt (i_t1 _ (List.mem_of_getElem? (i := 114) rfl)) rfl
theorem ly_X4_4 : u_lay RX4 TX4 4 ∈ tb := mt (i_t1 _ (List.mem_of_getElem? (i := 116) rfl)) rfl
theorem inX4 : ∀ w ∈ u_ws RX4 TX4 5, w ∈ tb := by
  intro w hw
  obtain ⟨k, hk, rfl⟩ := List.mem_map.mp hw
  have hk : k < 5 := List.mem_range.mp hk
  match k, hk with
  | 0, _ => exact ly_X4_0
  | 1, _ => exact ly_X4_1
  | 2, _ => exact ly_X4_2
  | 3, _ => exact ly_X4_3
  | 4, _ => exact ly_X4_4
  | k + 5, h => exact absurd h (by omega)
theorem ly_X1_0 : u_lay RX1 TX1 0 ∈ tb := mt (i_t1 _ (List.mem_of_getElem? (i := 131) rfl)) rfl
theorem ly_X1_1 : u_lay RX1 TX1 1 ∈ tb := mt (i_t1 _ (List.mem_of_getElem? (i := 133) rfl)) rfl
theorem ly_X1_2 : u_lay RX1 TX1 2 ∈ tb := mt (i_t1 _ (List.mem_of_getElem? (i := 135) rfl)) rfl
theorem ly_X1_3 : u_lay RX1 TX1 3 ∈ tb := mt (i_t1 _ (List.mem_of_getElem? (i := 137) rfl)) rfl
theorem inX1 : ∀ w ∈ u_ws RX1 TX1 4, w ∈ tb := by
  intro w hw
  obtain ⟨k, hk, rfl⟩ := List.mem_map.mp hw
  have hk : k < 4 := List.mem_range.mp hk
  match k, hk with
  | 0, _ => exact ly_X1_0
  | 1, _ => exact ly_X1_1
  | 2, _ => exact ly_X1_2
  | 3, _ => exact ly_X1_3
  | k + 4, h => exact absurd h (by omega)
theorem ly_X0_0 : u_lay RX0 TX0 0 ∈ tb := mt (i_t1 _ (List.mem_of_getElem? (i := 151) rfl)) rfl
theorem ly_X0_1 : u_lay RX0 TX0 1 ∈ tb := mt (i_t1 _ (List.mem_of_getElem? (i := 153) rfl)) rfl
theorem ly_X0_2 : u_lay RX0 TX0 2 ∈ tb := mt (i_t1 _ (List.mem_of_getElem? (i := 155) rfl)) rfl
theorem ly_X0_3 : u_lay RX0 TX0 3 ∈ tb := mt (i_t1 _ (List.mem_of_getElem? (i := 157) rfl)) rfl
theorem ly_X0_4 : u_lay RX0 TX0 4 ∈ tb := mt (i_t1 _ (List.mem_of_getElem? (i := 159) rfl)) rfl
theorem inX0 : ∀ w ∈ u_ws RX0 TX0 5, w ∈ tb := by
  intro w hw
  obtain ⟨k, hk, rfl⟩ := List.mem_map.mp hw
  have hk : k < 5 := List.mem_range.mp hk
  match k, hk with
  | 0, _ => exact ly_X0_0
  | 1, _ => exact ly_X0_1
  | 2, _ => exact ly_X0_2
  | 3, _ => exact ly_X0_3
  | 4, _ => exact ly_X0_4
  | k + 5, h => exact absurd h (by omega)
theorem ly_X6_0 : u_lay RX6 TX6 0 ∈ tb := mt (i_t1 _ (List.mem_of_getElem? (i := 169) rfl)) rfl
theorem ly_X6_1 : u_lay RX6 TX6 1 ∈ tb := mt (i_t1 _ (List.mem_of_getElem? (i := 171) rfl)) rfl
theorem ly_X6_2 : u_lay RX6 TX6 2 ∈ tb := mt (i_t1 _ (List.mem_of_getElem? (i := 173) rfl)) rfl
theorem ly_X6_3 : u_lay RX6 TX6 3 ∈ tb := mt (i_t1 _ (List.mem_of_getElem? (i := 175) rfl)) rfl
theorem ly_X6_4 : u_lay RX6 TX6 4 ∈ tb := mt (i_t1 _ (List.mem_of_getElem? (i := 177) rfl)) rfl
theorem ly_X6_5 : u_lay RX6 TX6 5 ∈ tb := mt (i_t1 _ (List.mem_of_getElem? (i := 179) rfl)) rfl
theorem inX6 : ∀ w ∈ u_ws RX6 TX6 6, w ∈ tb := by
  intro w hw
  obtain ⟨k, hk, rfl⟩ := List.mem_map.mp hw
  have hk : k < 6 := List.mem_range.mp hk
  match k, hk with
  | 0, _ => exact ly_X6_0
  | 1, _ => exact ly_X6_1
  | 2, _ => exact ly_X6_2
  | 3, _ => exact ly_X6_3
  | 4, _ => exact ly_X6_4
  | 5, _ => exact ly_X6_5
  | k + 6, h => exact absurd h (by omega)
theorem ly_X7_0 : u_lay RX7 TX7 0 ∈ tb := mt (i_t3 _ (List.mem_of_getElem? (i := 70) rfl)) rfl
theorem ly_X7_1 : u_lay RX7 TX7 1 ∈ tb := mt (i_t3 _ (List.mem_of_getElem? (i := 72) rfl)) rfl
theorem ly_X7_2 : u_lay RX7 TX7 2 ∈ tb := mt (i_t3 _ (List.mem_of_getElem? (i := 74) rfl)) rfl
theorem ly_X7_3 : u_lay RX7 TX7 3 ∈ tb := mt (i_t3 _ (List.mem_of_getElem? (i := 76) rfl)) rfl
theorem ly_X7_4 : u_lay RX7 TX7 4 ∈ tb := mt (i_t3 _ (List.mem_of_getElem? (i := 78) rfl)) rfl
theorem ly_X7_5 : u_lay RX7 TX7 5 ∈ tb := mt (i_t3 _ (List.mem_of_getElem? (i := 80) rfl)) rfl
theorem ly_X7_6 : u_lay RX7 TX7 6 ∈ tb := mt (i_t3 _ (List.mem_of_getElem? (i := 82) rfl)) rfl
theorem ly_X7_7 : u_lay RX7 TX7 7 ∈ tb := mt (i_t3 _ (List.mem_of_getElem? (i := 84) rfl)) rfl
theorem ly_X7_8 : u_lay RX7 TX7 8 ∈ tb := mt (i_t3 _ (List.mem_of_getElem? (i := 86) rfl)) rfl
theorem ly_X7_9 : u_lay RX7 TX7 9 ∈ tb := mt (i_t3 _ (List.mem_of_getElem? (i := 88) rfl)) rfl
theorem ly_X7_10 : u_lay RX7 TX7 10 ∈ tb := mt (i_t3 _ (List.mem_of_getElem? (i := 90) rfl)) rfl
theorem ly_X7_11 : u_lay RX7 TX7 11 ∈ tb := mt (i_t3 _ (List.mem_of_getElem? (i := 92) rfl)) rfl
theorem ly_X7_12 : u_lay RX7 TX7 12 ∈ tb := mt (i_t3 _ (List.mem_of_getElem? (i := 94) rfl)) rfl
theorem ly_X7_13 : u_lay RX7 TX7 13 ∈ tb := mt (i_t3 _ (List.mem_of_getElem? (i := 96) rfl)) rfl
theorem ly_X7_14 : u_lay RX7 TX7 14 ∈ tb := mt (i_t3 _ (List.mem_of_getElem? (i := 98) rfl)) rfl
theorem ly_X7_15 : u_lay RX7 TX7 15 ∈ tb := mt (i_t3 _ (List.mem_of_getElem? (i := 100) rfl)) rfl
theorem ly_X7_16 : u_lay RX7 TX7 16 ∈ tb := mt (i_t3 _ (List.mem_of_getElem? (i := 102) rfl)) rfl
theorem ly_X7_17 : u_lay RX7 TX7 17 ∈ tb := mt (i_t3 _ (List.mem_of_getElem? (i := 104) rfl)) rfl
theorem ly_X7_18 : u_lay RX7 TX7 18 ∈ tb := mt (i_t3 _ (List.mem_of_getElem? (i := 106) rfl)) rfl
theorem ly_X7_19 : u_lay RX7 TX7 19 ∈ tb := mt (i_t3 _ (List.mem_of_getElem? (i := 108) rfl)) rfl
theorem ly_X7_20 : u_lay RX7 TX7 20 ∈ tb := mt (i_t3 _ (List.mem_of_getElem? (i := 110) rfl)) rfl
theorem ly_X7_21 : u_lay RX7 TX7 21 ∈ tb := mt (i_t3 _ (List.mem_of_getElem? (i := 112) rfl)) rfl
theorem ly_X7_22 : u_lay RX7 TX7 22 ∈ tb := mt (i_t3 _ (List.mem_of_getElem? (i := 114) rfl)) rfl
theorem ly_X7_23 : u_lay RX7 TX7 23 ∈ tb := mt (i_t3 _ (List.mem_of_getElem? (i := 116) rfl)) rfl
theorem ly_X7_24 : u_lay RX7 TX7 24 ∈ tb := mt (i_t3 _ (List.mem_of_getElem? (i := 118) rfl)) rfl
theorem ly_X7_25 : u_lay RX7 TX7 25 ∈ tb := mt (i_t3 _ (List.mem_of_getElem? (i := 120) rfl)) rfl
theorem inX7 : ∀ w ∈ u_ws RX7 TX7 26, w ∈ tb := by
  intro w hw
  obtain ⟨k, hk, rfl⟩ := List.mem_map.mp hw
  have hk : k < 26 := List.mem_range.mp hk
  match k, hk with
  | 0, _ => exact ly_X7_0
  | 1, _ => exact ly_X7_1
  | 2, _ => exact ly_X7_2
  | 3, _ => exact ly_X7_3
  | 4, _ => exact ly_X7_4
  | 5, _ => exact ly_X7_5
  | 6, _ => exact ly_X7_6
  | 7, _ => exact ly_X7_7
  | 8, _ => exact ly_X7_8
  | 9, _ => exact ly_X7_9
  | 10, _ => exact ly_X7_10
  | 11, _ => exact ly_X7_11
  | 12, _ => exact ly_X7_12
  | 13, _ => exact ly_X7_13
  | 14, _ => exact ly_X7_14
  | 15, _ => exact ly_X7_15
  | 16, _ => exact ly_X7_16
  | 17, _ => exact ly_X7_17
  | 18, _ => exact ly_X7_18
  | 19, _ => exact ly_X7_19
  | 20, _ => exact ly_X7_20
  | 21, _ => exact ly_X7_21
  | 22, _ => exact ly_X7_22
  | 23, _ => exact ly_X7_23
  | 24, _ => exact ly_X7_24
  | 25, _ => exact ly_X7_25
  | k + 26, h => exact absurd h (by omega)
