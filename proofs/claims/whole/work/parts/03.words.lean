def TB : List Cond := lw_tbl.filter goodWord
theorem tbm {w : Cond} (i : Nat) (h : lw_tbl[i]? = some w) (g : goodWord w = true) : w ∈ TB := List.mem_filter.mpr ⟨List.mem_of_getElem? h, g⟩
theorem tb_good : GoodIn TB TB := fun w h => ⟨h, good_of_word (List.mem_filter.mp h).2⟩
theorem sel_yX3_refuse : Cond.selects RX3 yX3_refuse yX3_refuse ∈ TB := tbm 0 (by decide +kernel) rfl
theorem sel_yX2_letterAt : Cond.selects RX2 yX2_letterAt yX2_letterAt ∈ TB := tbm 1 (by decide +kernel) rfl
theorem sel_yX2_stepFrom : Cond.selects RX2 yX2_stepFrom yX2_stepFrom ∈ TB := tbm 2 (by decide +kernel) rfl
theorem sel_yX2_isSensible : Cond.selects RX2 yX2_isSensible yX2_isSensible ∈ TB := tbm 3 (by decide +kernel) rfl
theorem sel_yX2_digitAt : Cond.selects RX2 yX2_digitAt yX2_digitAt ∈ TB := tbm 4 (by decide +kernel) rfl
theorem sel_yX2_numberAt : Cond.selects RX2 yX2_numberAt yX2_numberAt ∈ TB := tbm 5 (by decide +kernel) rfl
theorem sel_yX2_bring : Cond.selects RX2 yX2_bring yX2_bring ∈ TB := tbm 6 (by decide +kernel) rfl
theorem sel_yX0_arrange : Cond.selects RX0 yX0_arrange yX0_arrange ∈ TB := tbm 7 (by decide +kernel) rfl
theorem sel_yX0_hearCall : Cond.selects RX0 yX0_hearCall yX0_hearCall ∈ TB := tbm 8 (by decide +kernel) rfl
theorem sel_yX0_wordFor : Cond.selects RX0 yX0_wordFor yX0_wordFor ∈ TB := tbm 9 (by decide +kernel) rfl
theorem sel_yX0_hurtBy : Cond.selects RX0 yX0_hurtBy yX0_hurtBy ∈ TB := tbm 10 (by decide +kernel) rfl
theorem sel_yX0_endDay : Cond.selects RX0 yX0_endDay yX0_endDay ∈ TB := tbm 11 (by decide +kernel) rfl
theorem sel_yX3_callerNo : Cond.selects RX3 yX3_callerNo yX3_callerNo ∈ TB := tbm 12 (by decide +kernel) rfl
theorem sel_yX3_lookAhead : Cond.selects RX3 yX3_lookAhead yX3_lookAhead ∈ TB := tbm 13 (by decide +kernel) rfl
theorem sel_yX3_think : Cond.selects RX3 yX3_think yX3_think ∈ TB := tbm 14 (by decide +kernel) rfl
theorem sel_yX3_thinkWeekOf : Cond.selects RX3 yX3_thinkWeekOf yX3_thinkWeekOf ∈ TB := tbm 15 (by decide +kernel) rfl
theorem sel_yX3_inRow : Cond.selects RX3 yX3_inRow yX3_inRow ∈ TB := tbm 16 (by decide +kernel) rfl
theorem sel_yX3_staysLoud : Cond.selects RX3 yX3_staysLoud yX3_staysLoud ∈ TB := tbm 17 (by decide +kernel) rfl
theorem sel_yX3_thinkTurns : Cond.selects RX3 yX3_thinkTurns yX3_thinkTurns ∈ TB := tbm 18 (by decide +kernel) rfl
theorem sel_yX3_hearersOf : Cond.selects RX3 yX3_hearersOf yX3_hearersOf ∈ TB := tbm 19 (by decide +kernel) rfl
theorem sel_yX3_firstUntrue : Cond.selects RX3 yX3_firstUntrue yX3_firstUntrue ∈ TB := tbm 20 (by decide +kernel) rfl
theorem sel_yX4_no : Cond.selects RX4 yX4_no yX4_no ∈ TB := tbm 21 (by decide +kernel) rfl
theorem sel_yX4_statement : Cond.selects RX4 yX4_statement yX4_statement ∈ TB := tbm 22 (by decide +kernel) rfl
theorem sel_yX4_next : Cond.selects RX4 yX4_next yX4_next ∈ TB := tbm 23 (by decide +kernel) rfl
theorem sel_yX4_readsAll : Cond.selects RX4 yX4_readsAll yX4_readsAll ∈ TB := tbm 24 (by decide +kernel) rfl
theorem sel_yX4_readsCaller : Cond.selects RX4 yX4_readsCaller yX4_readsCaller ∈ TB := tbm 25 (by decide +kernel) rfl
theorem sel_yX4_readsDigits : Cond.selects RX4 yX4_readsDigits yX4_readsDigits ∈ TB := tbm 26 (by decide +kernel) rfl
theorem sel_yX4_passesAll : Cond.selects RX4 yX4_passesAll yX4_passesAll ∈ TB := tbm 27 (by decide +kernel) rfl
theorem sel_yX4_passes : Cond.selects RX4 yX4_passes yX4_passes ∈ TB := tbm 28 (by decide +kernel) rfl
theorem sel_yX4_passOne : Cond.selects RX4 yX4_passOne yX4_passOne ∈ TB := tbm 29 (by decide +kernel) rfl
theorem sel_yX4_comes : Cond.selects RX4 yX4_comes yX4_comes ∈ TB := tbm 30 (by decide +kernel) rfl
theorem sel_yX4_comesCaller : Cond.selects RX4 yX4_comesCaller yX4_comesCaller ∈ TB := tbm 31 (by decide +kernel) rfl
theorem sel_yX4_comesSet : Cond.selects RX4 yX4_comesSet yX4_comesSet ∈ TB := tbm 32 (by decide +kernel) rfl
theorem sel_yX4_isCaller : Cond.selects RX4 yX4_isCaller yX4_isCaller ∈ TB := tbm 33 (by decide +kernel) rfl
theorem sel_yX4_goes : Cond.selects RX4 yX4_goes yX4_goes ∈ TB := tbm 34 (by decide +kernel) rfl
theorem sel_yX4_begins : Cond.selects RX4 yX4_begins yX4_begins ∈ TB := tbm 35 (by decide +kernel) rfl
theorem sel_yX4_goesDay : Cond.selects RX4 yX4_goesDay yX4_goesDay ∈ TB := tbm 36 (by decide +kernel) rfl
theorem sel_yX4_calls : Cond.selects RX4 yX4_calls yX4_calls ∈ TB := tbm 37 (by decide +kernel) rfl
theorem sel_yX4_isAnswered : Cond.selects RX4 yX4_isAnswered yX4_isAnswered ∈ TB := tbm 38 (by decide +kernel) rfl
theorem sel_yX4_isSilent : Cond.selects RX4 yX4_isSilent yX4_isSilent ∈ TB := tbm 39 (by decide +kernel) rfl
theorem sel_yX4_reach : Cond.selects RX4 yX4_reach yX4_reach ∈ TB := tbm 40 (by decide +kernel) rfl
theorem sel_yX4_hurts : Cond.selects RX4 yX4_hurts yX4_hurts ∈ TB := tbm 41 (by decide +kernel) rfl
theorem sel_yX4_hurt : Cond.selects RX4 yX4_hurt yX4_hurt ∈ TB := tbm 42 (by decide +kernel) rfl
theorem sel_yX4_wordFor : Cond.selects RX4 yX4_wordFor yX4_wordFor ∈ TB := tbm 43 (by decide +kernel) rfl
theorem sel_yX4_bestBut : Cond.selects RX4 yX4_bestBut yX4_bestBut ∈ TB := tbm 44 (by decide +kernel) rfl
theorem sel_yX4_teaches : Cond.selects RX4 yX4_teaches yX4_teaches ∈ TB := tbm 45 (by decide +kernel) rfl
theorem sel_yX4_thinks : Cond.selects RX4 yX4_thinks yX4_thinks ∈ TB := tbm 46 (by decide +kernel) rfl
theorem sel_yX4_sum : Cond.selects RX4 yX4_sum yX4_sum ∈ TB := tbm 47 (by decide +kernel) rfl
theorem sel_yX4_goesWeek : Cond.selects RX4 yX4_goesWeek yX4_goesWeek ∈ TB := tbm 48 (by decide +kernel) rfl
theorem sel_yX4_laysWeek : Cond.selects RX4 yX4_laysWeek yX4_laysWeek ∈ TB := tbm 49 (by decide +kernel) rfl
theorem sel_yX4_answersByTune : Cond.selects RX4 yX4_answersByTune yX4_answersByTune ∈ TB := tbm 50 (by decide +kernel) rfl
theorem sel_yX4_answersIn : Cond.selects RX4 yX4_answersIn yX4_answersIn ∈ TB := tbm 51 (by decide +kernel) rfl
theorem sel_yX4_hurtWithout : Cond.selects RX4 yX4_hurtWithout yX4_hurtWithout ∈ TB := tbm 52 (by decide +kernel) rfl
theorem sel_yX4_answersAt : Cond.selects RX4 yX4_answersAt yX4_answersAt ∈ TB := tbm 53 (by decide +kernel) rfl
theorem sel_yX4_staysAwake : Cond.selects RX4 yX4_staysAwake yX4_staysAwake ∈ TB := tbm 54 (by decide +kernel) rfl
theorem sel_yX4_alikeMany : Cond.selects RX4 yX4_alikeMany yX4_alikeMany ∈ TB := tbm 55 (by decide +kernel) rfl
theorem sel_yX4_rests : Cond.selects RX4 yX4_rests yX4_rests ∈ TB := tbm 56 (by decide +kernel) rfl
theorem sel_yX4_firstOther : Cond.selects RX4 yX4_firstOther yX4_firstOther ∈ TB := tbm 57 (by decide +kernel) rfl
theorem ini_L : Cond.initialized RL ∈ TB := tbm 58 (by decide +kernel) rfl
theorem ini_X3 : Cond.initialized RX3 ∈ TB := tbm 59 (by decide +kernel) rfl
theorem ini_X0 : Cond.initialized RX0 ∈ TB := tbm 60 (by decide +kernel) rfl
theorem ini_X1 : Cond.initialized RX1 ∈ TB := tbm 61 (by decide +kernel) rfl
theorem ini_X2 : Cond.initialized RX2 ∈ TB := tbm 62 (by decide +kernel) rfl
theorem ini_X4 : Cond.initialized RX4 ∈ TB := tbm 63 (by decide +kernel) rfl
theorem ini_J0 : Cond.initialized RJ0 ∈ TB := tbm 64 (by decide +kernel) rfl
theorem ini_J1 : Cond.initialized RJ1 ∈ TB := tbm 65 (by decide +kernel) rfl
theorem ini_J3 : Cond.initialized RJ3 ∈ TB := tbm 66 (by decide +kernel) rfl
theorem ini_J2 : Cond.initialized RJ2 ∈ TB := tbm 67 (by decide +kernel) rfl
theorem ini_J9 : Cond.initialized RJ9 ∈ TB := tbm 68 (by decide +kernel) rfl
theorem ini_J11 : Cond.initialized RJ11 ∈ TB := tbm 69 (by decide +kernel) rfl
theorem ini_J7 : Cond.initialized RJ7 ∈ TB := tbm 70 (by decide +kernel) rfl
theorem ini_J10 : Cond.initialized RJ10 ∈ TB := tbm 71 (by decide +kernel) rfl
theorem ini_J6 : Cond.initialized RJ6 ∈ TB := tbm 72 (by decide +kernel) rfl
theorem cl_L_7 : Cond.classLink RL 7 RX3 ∈ TB := tbm 73 (by decide +kernel) rfl
theorem inst_X3 : Cond.instantiable RX3 8 ∈ TB := tbm 74 (by decide +kernel) rfl
theorem lk_L_9 : Cond.methodLink RL 9 yX3_init ∈ TB := tbm 75 (by decide +kernel) rfl
theorem im_yX3_init : Cond.instanceMethod yX3_init ∈ TB := tbm 76 (by decide +kernel) rfl
set_option maxRecDepth 50000 in
theorem cd_yX3_init : Cond.code yX3_init cX3_init 1 none ∈ TB := tbm 77 (rfl) rfl
theorem lk_X3_3 : Cond.methodLink RX3 3 objectInit ∈ TB := tbm 78 (by decide +kernel) rfl
theorem im_objectInit : Cond.instanceMethod objectInit ∈ TB := tbm 79 (by decide +kernel) rfl
set_option maxRecDepth 50000 in
theorem cd_objectInit : Cond.code objectInit object_method_1_code 1 none ∈ TB := tbm 80 (rfl) rfl
theorem cl_X3_9 : Cond.classLink RX3 9 RX0 ∈ TB := tbm 81 (by decide +kernel) rfl
theorem inst_X0 : Cond.instantiable RX0 13 ∈ TB := tbm 82 (by decide +kernel) rfl
theorem im_yX0_init : Cond.instanceMethod yX0_init ∈ TB := tbm 84 (by decide +kernel) rfl
set_option maxRecDepth 50000 in
theorem cd_yX0_init : Cond.code yX0_init cX0_init 1 none ∈ TB := tbm 85 (rfl) rfl
theorem lk_X0_3 : Cond.methodLink RX0 3 objectInit ∈ TB := tbm 86 (by decide +kernel) rfl
theorem cl_X0_49 : Cond.classLink RX0 49 RX1 ∈ TB := tbm 87 (by decide +kernel) rfl
theorem inst_X1 : Cond.instantiable RX1 5 ∈ TB := tbm 88 (by decide +kernel) rfl
theorem im_yX1_init : Cond.instanceMethod yX1_init ∈ TB := tbm 90 (by decide +kernel) rfl
set_option maxRecDepth 50000 in
theorem cd_yX1_init : Cond.code yX1_init cX1_init 1 none ∈ TB := tbm 91 (rfl) rfl
theorem lk_X1_3 : Cond.methodLink RX1 3 objectInit ∈ TB := tbm 92 (by decide +kernel) rfl
theorem fl_X1_9 : Cond.fieldLink RX1 9 "TheEchosWidow$Heard" "answered" "I" ∈ TB := tbm 93 (by decide +kernel) rfl
theorem fl_X3_143 : Cond.fieldLink RX3 143 "TheEchosWidow$Heard" "answered" "I" ∈ TB := tbm 94 (by decide +kernel) rfl
theorem fl_X1_15 : Cond.fieldLink RX1 15 "TheEchosWidow$Heard" "unanswered" "I" ∈ TB := tbm 95 (by decide +kernel) rfl
theorem fl_X3_169 : Cond.fieldLink RX3 169 "TheEchosWidow$Heard" "unanswered" "I" ∈ TB := tbm 96 (by decide +kernel) rfl
theorem fl_X0_125 : Cond.fieldLink RX0 125 "TheEchosWidow$Heard" "unanswered" "I" ∈ TB := tbm 97 (by decide +kernel) rfl
theorem fl_X1_18 : Cond.fieldLink RX1 18 "TheEchosWidow$Heard" "said" "I" ∈ TB := tbm 98 (by decide +kernel) rfl
theorem fl_X3_184 : Cond.fieldLink RX3 184 "TheEchosWidow$Heard" "said" "I" ∈ TB := tbm 99 (by decide +kernel) rfl
theorem fl_X1_21 : Cond.fieldLink RX1 21 "TheEchosWidow$Heard" "times" "[I" ∈ TB := tbm 100 (by decide +kernel) rfl
theorem fl_X3_172 : Cond.fieldLink RX3 172 "TheEchosWidow$Heard" "times" "[I" ∈ TB := tbm 101 (by decide +kernel) rfl
theorem fl_X1_25 : Cond.fieldLink RX1 25 "TheEchosWidow$Heard" "last" "[I" ∈ TB := tbm 102 (by decide +kernel) rfl
theorem fl_X3_175 : Cond.fieldLink RX3 175 "TheEchosWidow$Heard" "last" "[I" ∈ TB := tbm 103 (by decide +kernel) rfl
theorem ac_int : Cond.arrayClass .int ∈ TB := tbm 115 (by decide +kernel) rfl
theorem fl_X0_9 : Cond.fieldLink RX0 9 "TheEchosWidow$Gorge" "callers" "I" ∈ TB := tbm 116 (by decide +kernel) rfl
theorem fl_X3_63 : Cond.fieldLink RX3 63 "TheEchosWidow$Gorge" "callers" "I" ∈ TB := tbm 117 (by decide +kernel) rfl
theorem fl_X0_15 : Cond.fieldLink RX0 15 "TheEchosWidow$Gorge" "kinds" "[I" ∈ TB := tbm 118 (by decide +kernel) rfl
theorem fl_X3_86 : Cond.fieldLink RX3 86 "TheEchosWidow$Gorge" "kinds" "[I" ∈ TB := tbm 119 (by decide +kernel) rfl
theorem fl_X0_19 : Cond.fieldLink RX0 19 "TheEchosWidow$Gorge" "figures" "[I" ∈ TB := tbm 120 (by decide +kernel) rfl
theorem fl_X3_93 : Cond.fieldLink RX3 93 "TheEchosWidow$Gorge" "figures" "[I" ∈ TB := tbm 121 (by decide +kernel) rfl
theorem fl_X0_22 : Cond.fieldLink RX0 22 "TheEchosWidow$Gorge" "tones" "[I" ∈ TB := tbm 122 (by decide +kernel) rfl
theorem fl_X3_96 : Cond.fieldLink RX3 96 "TheEchosWidow$Gorge" "tones" "[I" ∈ TB := tbm 123 (by decide +kernel) rfl
theorem fl_X0_25 : Cond.fieldLink RX0 25 "TheEchosWidow$Gorge" "words" "[I" ∈ TB := tbm 124 (by decide +kernel) rfl
theorem fl_X3_99 : Cond.fieldLink RX3 99 "TheEchosWidow$Gorge" "words" "[I" ∈ TB := tbm 125 (by decide +kernel) rfl
theorem fl_X0_28 : Cond.fieldLink RX0 28 "TheEchosWidow$Gorge" "hours" "[I" ∈ TB := tbm 126 (by decide +kernel) rfl
theorem fl_X3_102 : Cond.fieldLink RX3 102 "TheEchosWidow$Gorge" "hours" "[I" ∈ TB := tbm 127 (by decide +kernel) rfl
theorem fl_X0_31 : Cond.fieldLink RX0 31 "TheEchosWidow$Gorge" "order" "[I" ∈ TB := tbm 128 (by decide +kernel) rfl
theorem fl_X0_34 : Cond.fieldLink RX0 34 "TheEchosWidow$Gorge" "known" "[I" ∈ TB := tbm 129 (by decide +kernel) rfl
theorem fl_X3_108 : Cond.fieldLink RX3 108 "TheEchosWidow$Gorge" "known" "[I" ∈ TB := tbm 130 (by decide +kernel) rfl
theorem fl_X2_109 : Cond.fieldLink RX2 109 "TheEchosWidow$Gorge" "known" "[I" ∈ TB := tbm 131 (by decide +kernel) rfl
theorem fl_X0_37 : Cond.fieldLink RX0 37 "TheEchosWidow$Gorge" "tune" "I" ∈ TB := tbm 132 (by decide +kernel) rfl
theorem fl_X3_118 : Cond.fieldLink RX3 118 "TheEchosWidow$Gorge" "tune" "I" ∈ TB := tbm 133 (by decide +kernel) rfl
theorem fl_X2_116 : Cond.fieldLink RX2 116 "TheEchosWidow$Gorge" "tune" "I" ∈ TB := tbm 134 (by decide +kernel) rfl
theorem fl_X0_40 : Cond.fieldLink RX0 40 "TheEchosWidow$Gorge" "hurt" "I" ∈ TB := tbm 135 (by decide +kernel) rfl
theorem fl_X3_121 : Cond.fieldLink RX3 121 "TheEchosWidow$Gorge" "hurt" "I" ∈ TB := tbm 136 (by decide +kernel) rfl
theorem fl_X2_119 : Cond.fieldLink RX2 119 "TheEchosWidow$Gorge" "hurt" "I" ∈ TB := tbm 137 (by decide +kernel) rfl
theorem fl_X0_43 : Cond.fieldLink RX0 43 "TheEchosWidow$Gorge" "patience" "I" ∈ TB := tbm 138 (by decide +kernel) rfl
theorem fl_X3_124 : Cond.fieldLink RX3 124 "TheEchosWidow$Gorge" "patience" "I" ∈ TB := tbm 139 (by decide +kernel) rfl
theorem fl_X2_122 : Cond.fieldLink RX2 122 "TheEchosWidow$Gorge" "patience" "I" ∈ TB := tbm 140 (by decide +kernel) rfl
theorem fl_X0_46 : Cond.fieldLink RX0 46 "TheEchosWidow$Gorge" "day" "I" ∈ TB := tbm 141 (by decide +kernel) rfl
theorem fl_X3_66 : Cond.fieldLink RX3 66 "TheEchosWidow$Gorge" "day" "I" ∈ TB := tbm 142 (by decide +kernel) rfl
theorem fl_X0_52 : Cond.fieldLink RX0 52 "TheEchosWidow$Gorge" "heard" "LTheEchosWidow$Heard;" ∈ TB := tbm 143 (by decide +kernel) rfl
theorem fl_X3_131 : Cond.fieldLink RX3 131 "TheEchosWidow$Gorge" "heard" "LTheEchosWidow$Heard;" ∈ TB := tbm 144 (by decide +kernel) rfl
theorem cl_X3_26 : Cond.classLink RX3 26 RX2 ∈ TB := tbm 172 (by decide +kernel) rfl
theorem inst_X2 : Cond.instantiable RX2 2 ∈ TB := tbm 173 (by decide +kernel) rfl
theorem im_yX2_init : Cond.instanceMethod yX2_init ∈ TB := tbm 175 (by decide +kernel) rfl
set_option maxRecDepth 50000 in
theorem cd_yX2_init : Cond.code yX2_init cX2_init 1 none ∈ TB := tbm 176 (rfl) rfl
theorem lk_X2_3 : Cond.methodLink RX2 3 objectInit ∈ TB := tbm 177 (by decide +kernel) rfl
theorem fl_X2_9 : Cond.fieldLink RX2 9 "TheEchosWidow$Text" "letters" "[I" ∈ TB := tbm 178 (by decide +kernel) rfl
theorem fl_X2_15 : Cond.fieldLink RX2 15 "TheEchosWidow$Text" "length" "I" ∈ TB := tbm 179 (by decide +kernel) rfl
theorem fl_X3_48 : Cond.fieldLink RX3 48 "TheEchosWidow$Text" "length" "I" ∈ TB := tbm 180 (by decide +kernel) rfl
theorem fl_X3_12 : Cond.fieldLink RX3 12 "TheEchosWidow" "now" "LTheEchosWidow$Gorge;" ∈ TB := tbm 186 (by decide +kernel) rfl
theorem fl_X3_16 : Cond.fieldLink RX3 16 "TheEchosWidow" "mind" "LTheEchosWidow$Gorge;" ∈ TB := tbm 187 (by decide +kernel) rfl
theorem fl_X3_19 : Cond.fieldLink RX3 19 "TheEchosWidow" "kept" "LTheEchosWidow$Gorge;" ∈ TB := tbm 188 (by decide +kernel) rfl
theorem fl_X3_22 : Cond.fieldLink RX3 22 "TheEchosWidow" "imageTaken" "Z" ∈ TB := tbm 189 (by decide +kernel) rfl
theorem fl_X3_29 : Cond.fieldLink RX3 29 "TheEchosWidow" "text" "LTheEchosWidow$Text;" ∈ TB := tbm 190 (by decide +kernel) rfl
theorem fl_X3_33 : Cond.fieldLink RX3 33 "TheEchosWidow" "told" "[I" ∈ TB := tbm 191 (by decide +kernel) rfl
theorem fl_X3_37 : Cond.fieldLink RX3 37 "TheEchosWidow" "toldCount" "I" ∈ TB := tbm 192 (by decide +kernel) rfl
theorem fl_X3_41 : Cond.fieldLink RX3 41 "TheEchosWidow" "refusals" "[I" ∈ TB := tbm 193 (by decide +kernel) rfl
theorem lk_L_13 : Cond.methodLink RL 13 yX3_letter ∈ TB := tbm 211 (by decide +kernel) rfl
theorem im_yX3_letter : Cond.instanceMethod yX3_letter ∈ TB := tbm 212 (by decide +kernel) rfl
theorem sel_yX3_letter : Cond.selects RX3 yX3_letter yX3_letter ∈ TB := tbm 213 (by decide +kernel) rfl
set_option maxRecDepth 50000 in
theorem cd_yX3_letter : Cond.code yX3_letter cX3_letter 3 (some .int) ∈ TB := tbm 214 (rfl) rfl
theorem lk_X3_44 : Cond.methodLink RX3 44 yX3_rangeNo ∈ TB := tbm 215 (by decide +kernel) rfl
theorem st_yX3_rangeNo : Cond.static yX3_rangeNo ∈ TB := tbm 216 (by decide +kernel) rfl
set_option maxRecDepth 50000 in
theorem cd_yX3_rangeNo : Cond.code yX3_rangeNo cX3_rangeNo 3 (some .int) ∈ TB := tbm 217 (rfl) rfl
theorem lk_X3_51 : Cond.methodLink RX3 51 yX3_refuse ∈ TB := tbm 218 (by decide +kernel) rfl
theorem im_yX3_refuse : Cond.instanceMethod yX3_refuse ∈ TB := tbm 220 (by decide +kernel) rfl
set_option maxRecDepth 50000 in
theorem cd_yX3_refuse : Cond.code yX3_refuse cX3_refuse 3 (some .int) ∈ TB := tbm 221 (rfl) rfl
theorem lk_X3_89 : Cond.methodLink RX3 89 yX3_at ∈ TB := tbm 222 (by decide +kernel) rfl
theorem st_yX3_at : Cond.static yX3_at ∈ TB := tbm 223 (by decide +kernel) rfl
set_option maxRecDepth 50000 in
theorem cd_yX3_at : Cond.code yX3_at cX3_at 2 (some .int) ∈ TB := tbm 224 (rfl) rfl
theorem lk_X3_111 : Cond.methodLink RX3 111 yX3_put ∈ TB := tbm 225 (by decide +kernel) rfl
theorem st_yX3_put : Cond.static yX3_put ∈ TB := tbm 226 (by decide +kernel) rfl
set_option maxRecDepth 50000 in
theorem cd_yX3_put : Cond.code yX3_put cX3_put 3 none ∈ TB := tbm 227 (rfl) rfl
theorem lk_X3_55 : Cond.methodLink RX3 55 yX2_add ∈ TB := tbm 228 (by decide +kernel) rfl
theorem im_yX2_add : Cond.instanceMethod yX2_add ∈ TB := tbm 229 (by decide +kernel) rfl
theorem sel_yX2_add : Cond.selects RX2 yX2_add yX2_add ∈ TB := tbm 230 (by decide +kernel) rfl
set_option maxRecDepth 50000 in
theorem cd_yX2_add : Cond.code yX2_add cX2_add 2 none ∈ TB := tbm 231 (rfl) rfl
theorem lk_L_18 : Cond.methodLink RL 18 yX3_gorge ∈ TB := tbm 233 (by decide +kernel) rfl
theorem im_yX3_gorge : Cond.instanceMethod yX3_gorge ∈ TB := tbm 234 (by decide +kernel) rfl
theorem sel_yX3_gorge : Cond.selects RX3 yX3_gorge yX3_gorge ∈ TB := tbm 235 (by decide +kernel) rfl
set_option maxRecDepth 50000 in
theorem cd_yX3_gorge : Cond.code yX3_gorge cX3_gorge 4 (some .int) ∈ TB := tbm 236 (rfl) rfl
theorem lk_X3_59 : Cond.methodLink RX3 59 yX2_faultOfForm ∈ TB := tbm 237 (by decide +kernel) rfl
theorem im_yX2_faultOfForm : Cond.instanceMethod yX2_faultOfForm ∈ TB := tbm 238 (by decide +kernel) rfl
theorem sel_yX2_faultOfForm : Cond.selects RX2 yX2_faultOfForm yX2_faultOfForm ∈ TB := tbm 239 (by decide +kernel) rfl
set_option maxRecDepth 50000 in
theorem cd_yX2_faultOfForm : Cond.code yX2_faultOfForm cX2_faultOfForm 4 (some .int) ∈ TB := tbm 240 (rfl) rfl
theorem lk_X2_27 : Cond.methodLink RX2 27 yX2_letterAt ∈ TB := tbm 241 (by decide +kernel) rfl
theorem im_yX2_letterAt : Cond.instanceMethod yX2_letterAt ∈ TB := tbm 243 (by decide +kernel) rfl
set_option maxRecDepth 50000 in
theorem cd_yX2_letterAt : Cond.code yX2_letterAt cX2_letterAt 2 (some .int) ∈ TB := tbm 244 (rfl) rfl
theorem lk_X2_60 : Cond.methodLink RX2 60 yX2_formOf ∈ TB := tbm 246 (by decide +kernel) rfl
theorem st_yX2_formOf : Cond.static yX2_formOf ∈ TB := tbm 247 (by decide +kernel) rfl
set_option maxRecDepth 50000 in
theorem cd_yX2_formOf : Cond.code yX2_formOf cX2_formOf 1 (some (.object "java/lang/String")) ∈ TB := tbm 248 (rfl) rfl
theorem lk_X2_67 : Cond.methodLink RX2 67 yJ0_isEmpty_aae02 ∈ TB := tbm 257 (by decide +kernel) rfl
theorem im_yJ0_isEmpty_aae02 : Cond.instanceMethod yJ0_isEmpty_aae02 ∈ TB := tbm 258 (by decide +kernel) rfl
theorem sel_yJ0_isEmpty_aae02 : Cond.selects RJ0 yJ0_isEmpty_aae02 yJ0_isEmpty_aae02 ∈ TB := tbm 259 (by decide +kernel) rfl
set_option maxRecDepth 50000 in
theorem cd_yJ0_isEmpty_aae02 : Cond.code yJ0_isEmpty_aae02 cJ0_isEmpty_aae02 1 (some .boolean) ∈ TB := tbm 260 (rfl) rfl
theorem lk_X2_64 : Cond.methodLink RX2 64 yJ0_length_8abf5 ∈ TB := tbm 261 (by decide +kernel) rfl
theorem im_yJ0_length_8abf5 : Cond.instanceMethod yJ0_length_8abf5 ∈ TB := tbm 262 (by decide +kernel) rfl
theorem sel_yJ0_length_8abf5 : Cond.selects RJ0 yJ0_length_8abf5 yJ0_length_8abf5 ∈ TB := tbm 263 (by decide +kernel) rfl
set_option maxRecDepth 50000 in
theorem cd_yJ0_length_8abf5 : Cond.code yJ0_length_8abf5 cJ0_length_8abf5 1 (some .int) ∈ TB := tbm 264 (rfl) rfl
theorem lk_J0_335 : Cond.methodLink RJ0 335 yJ0_coder_7d493 ∈ TB := tbm 265 (by decide +kernel) rfl
theorem im_yJ0_coder_7d493 : Cond.instanceMethod yJ0_coder_7d493 ∈ TB := tbm 266 (by decide +kernel) rfl
theorem sel_yJ0_coder_7d493 : Cond.selects RJ0 yJ0_coder_7d493 yJ0_coder_7d493 ∈ TB := tbm 267 (by decide +kernel) rfl
set_option maxRecDepth 50000 in
theorem cd_yJ0_coder_7d493 : Cond.code yJ0_coder_7d493 cJ0_coder_7d493 1 (some .byte) ∈ TB := tbm 268 (rfl) rfl
theorem fl_J0_38 : Cond.fieldLink RJ0 38 "java/lang/String" "COMPACT_STRINGS" "Z" ∈ TB := tbm 269 (by decide +kernel) rfl
theorem lk_X2_71 : Cond.methodLink RX2 71 yJ0_charAt_5068e ∈ TB := tbm 271 (by decide +kernel) rfl
theorem im_yJ0_charAt_5068e : Cond.instanceMethod yJ0_charAt_5068e ∈ TB := tbm 272 (by decide +kernel) rfl
theorem sel_yJ0_charAt_5068e : Cond.selects RJ0 yJ0_charAt_5068e yJ0_charAt_5068e ∈ TB := tbm 273 (by decide +kernel) rfl
set_option maxRecDepth 50000 in
theorem cd_yJ0_charAt_5068e : Cond.code yJ0_charAt_5068e cJ0_charAt_5068e 2 (some .char) ∈ TB := tbm 274 (rfl) rfl
theorem lk_J0_492 : Cond.methodLink RJ0 492 yJ0_isLatin1_aae02 ∈ TB := tbm 275 (by decide +kernel) rfl
theorem im_yJ0_isLatin1_aae02 : Cond.instanceMethod yJ0_isLatin1_aae02 ∈ TB := tbm 276 (by decide +kernel) rfl
theorem sel_yJ0_isLatin1_aae02 : Cond.selects RJ0 yJ0_isLatin1_aae02 yJ0_isLatin1_aae02 ∈ TB := tbm 277 (by decide +kernel) rfl
set_option maxRecDepth 50000 in
theorem cd_yJ0_isLatin1_aae02 : Cond.code yJ0_isLatin1_aae02 cJ0_isLatin1_aae02 1 (some .boolean) ∈ TB := tbm 278 (rfl) rfl
theorem lk_J0_495 : Cond.methodLink RJ0 495 yJ1_charAt_3b067 ∈ TB := tbm 279 (by decide +kernel) rfl
theorem st_yJ1_charAt_3b067 : Cond.static yJ1_charAt_3b067 ∈ TB := tbm 280 (by decide +kernel) rfl
set_option maxRecDepth 50000 in
theorem cd_yJ1_charAt_3b067 : Cond.code yJ1_charAt_3b067 cJ1_charAt_3b067 2 (some .char) ∈ TB := tbm 281 (rfl) rfl
theorem lk_J1_9 : Cond.methodLink RJ1 9 yJ0_checkIndex_df160 ∈ TB := tbm 282 (by decide +kernel) rfl
theorem st_yJ0_checkIndex_df160 : Cond.static yJ0_checkIndex_df160 ∈ TB := tbm 283 (by decide +kernel) rfl
set_option maxRecDepth 50000 in
theorem cd_yJ0_checkIndex_df160 : Cond.code yJ0_checkIndex_df160 cJ0_checkIndex_df160 2 none ∈ TB := tbm 284 (rfl) rfl
theorem fl_J0_1053 : Cond.fieldLink RJ0 1053 "jdk/internal/util/Preconditions" "SIOOBE_FORMATTER" "Ljava/util/function/BiFunction;" ∈ TB := tbm 285 (by decide +kernel) rfl
theorem lk_J0_1059 : Cond.methodLink RJ0 1059 yJ3_checkIndex_8e157 ∈ TB := tbm 287 (by decide +kernel) rfl
theorem st_yJ3_checkIndex_8e157 : Cond.static yJ3_checkIndex_8e157 ∈ TB := tbm 288 (by decide +kernel) rfl
set_option maxRecDepth 50000 in
theorem cd_yJ3_checkIndex_8e157 : Cond.code yJ3_checkIndex_8e157 cJ3_checkIndex_8e157 3 (some .int) ∈ TB := tbm 289 (rfl) rfl
theorem lk_J0_498 : Cond.methodLink RJ0 498 yJ2_charAt_3b067 ∈ TB := tbm 290 (by decide +kernel) rfl
theorem st_yJ2_charAt_3b067 : Cond.static yJ2_charAt_3b067 ∈ TB := tbm 291 (by decide +kernel) rfl
set_option maxRecDepth 50000 in
theorem cd_yJ2_charAt_3b067 : Cond.code yJ2_charAt_3b067 cJ2_charAt_3b067 2 (some .char) ∈ TB := tbm 292 (rfl) rfl
theorem lk_J2_67 : Cond.methodLink RJ2 67 yJ2_checkIndex_2214a ∈ TB := tbm 293 (by decide +kernel) rfl
theorem st_yJ2_checkIndex_2214a : Cond.static yJ2_checkIndex_2214a ∈ TB := tbm 294 (by decide +kernel) rfl
set_option maxRecDepth 50000 in
theorem cd_yJ2_checkIndex_2214a : Cond.code yJ2_checkIndex_2214a cJ2_checkIndex_2214a 2 none ∈ TB := tbm 295 (rfl) rfl
theorem lk_J2_48 : Cond.methodLink RJ2 48 yJ2_length_9d52b ∈ TB := tbm 296 (by decide +kernel) rfl
theorem st_yJ2_length_9d52b : Cond.static yJ2_length_9d52b ∈ TB := tbm 297 (by decide +kernel) rfl
set_option maxRecDepth 50000 in
theorem cd_yJ2_length_9d52b : Cond.code yJ2_length_9d52b cJ2_length_9d52b 1 (some .int) ∈ TB := tbm 298 (rfl) rfl
theorem lk_J2_414 : Cond.methodLink RJ2 414 yJ0_checkIndex_df160 ∈ TB := tbm 299 (by decide +kernel) rfl
theorem lk_J2_71 : Cond.methodLink RJ2 71 yJ2_getChar_3b067 ∈ TB := tbm 300 (by decide +kernel) rfl
theorem st_yJ2_getChar_3b067 : Cond.static yJ2_getChar_3b067 ∈ TB := tbm 301 (by decide +kernel) rfl
set_option maxRecDepth 50000 in
theorem cd_yJ2_getChar_3b067 : Cond.code yJ2_getChar_3b067 cJ2_getChar_3b067 2 (some .char) ∈ TB := tbm 302 (rfl) rfl
theorem fl_J2_44 : Cond.fieldLink RJ2 44 "java/lang/StringUTF16" "$assertionsDisabled" "Z" ∈ TB := tbm 303 (by decide +kernel) rfl
theorem fl_J2_59 : Cond.fieldLink RJ2 59 "java/lang/StringUTF16" "HI_BYTE_SHIFT" "I" ∈ TB := tbm 305 (by decide +kernel) rfl
theorem fl_J2_63 : Cond.fieldLink RJ2 63 "java/lang/StringUTF16" "LO_BYTE_SHIFT" "I" ∈ TB := tbm 307 (by decide +kernel) rfl
theorem lk_X2_75 : Cond.methodLink RX2 75 yX2_isOfForm ∈ TB := tbm 309 (by decide +kernel) rfl
theorem st_yX2_isOfForm : Cond.static yX2_isOfForm ∈ TB := tbm 310 (by decide +kernel) rfl
set_option maxRecDepth 50000 in
theorem cd_yX2_isOfForm : Cond.code yX2_isOfForm cX2_isOfForm 2 (some .boolean) ∈ TB := tbm 311 (rfl) rfl
theorem lk_X2_50 : Cond.methodLink RX2 50 yX2_kindOf ∈ TB := tbm 312 (by decide +kernel) rfl
theorem st_yX2_kindOf : Cond.static yX2_kindOf ∈ TB := tbm 313 (by decide +kernel) rfl
set_option maxRecDepth 50000 in
theorem cd_yX2_kindOf : Cond.code yX2_kindOf cX2_kindOf 1 (some .int) ∈ TB := tbm 314 (rfl) rfl
theorem lk_X2_55 : Cond.methodLink RX2 55 yJ0_indexOf_0f7a4 ∈ TB := tbm 316 (by decide +kernel) rfl
theorem im_yJ0_indexOf_0f7a4 : Cond.instanceMethod yJ0_indexOf_0f7a4 ∈ TB := tbm 317 (by decide +kernel) rfl
theorem sel_yJ0_indexOf_0f7a4 : Cond.selects RJ0 yJ0_indexOf_0f7a4 yJ0_indexOf_0f7a4 ∈ TB := tbm 318 (by decide +kernel) rfl
set_option maxRecDepth 50000 in
theorem cd_yJ0_indexOf_0f7a4 : Cond.code yJ0_indexOf_0f7a4 cJ0_indexOf_0f7a4 2 (some .int) ∈ TB := tbm 319 (rfl) rfl
theorem lk_J0_633 : Cond.methodLink RJ0 633 yJ0_indexOf_7cf53 ∈ TB := tbm 320 (by decide +kernel) rfl
theorem im_yJ0_indexOf_7cf53 : Cond.instanceMethod yJ0_indexOf_7cf53 ∈ TB := tbm 321 (by decide +kernel) rfl
theorem sel_yJ0_indexOf_7cf53 : Cond.selects RJ0 yJ0_indexOf_7cf53 yJ0_indexOf_7cf53 ∈ TB := tbm 322 (by decide +kernel) rfl
set_option maxRecDepth 50000 in
theorem cd_yJ0_indexOf_7cf53 : Cond.code yJ0_indexOf_7cf53 cJ0_indexOf_7cf53 3 (some .int) ∈ TB := tbm 323 (rfl) rfl
theorem lk_J0_505 : Cond.methodLink RJ0 505 yJ0_length_8abf5 ∈ TB := tbm 324 (by decide +kernel) rfl
theorem lk_J0_637 : Cond.methodLink RJ0 637 yJ1_indexOf_4cfef ∈ TB := tbm 325 (by decide +kernel) rfl
theorem st_yJ1_indexOf_4cfef : Cond.static yJ1_indexOf_4cfef ∈ TB := tbm 326 (by decide +kernel) rfl
set_option maxRecDepth 50000 in
theorem cd_yJ1_indexOf_4cfef : Cond.code yJ1_indexOf_4cfef cJ1_indexOf_4cfef 4 (some .int) ∈ TB := tbm 327 (rfl) rfl
theorem lk_J1_88 : Cond.methodLink RJ1 88 yJ1_canEncode_9a6ad ∈ TB := tbm 328 (by decide +kernel) rfl
theorem st_yJ1_canEncode_9a6ad : Cond.static yJ1_canEncode_9a6ad ∈ TB := tbm 329 (by decide +kernel) rfl
set_option maxRecDepth 50000 in
theorem cd_yJ1_canEncode_9a6ad : Cond.code yJ1_canEncode_9a6ad cJ1_canEncode_9a6ad 1 (some .boolean) ∈ TB := tbm 330 (rfl) rfl
theorem lk_J1_92 : Cond.methodLink RJ1 92 Lib.Math.max.name ∈ TB := tbm 331 (by decide +kernel) rfl
theorem st_Mathmax : Cond.static Lib.Math.max.name ∈ TB := tbm 332 (by decide +kernel) rfl
set_option maxRecDepth 50000 in
theorem cd_Mathmax : Cond.code Lib.Math.max.name Lib.Math.max.code 2 (some .int) ∈ TB := tbm 333 (rfl) rfl
theorem lk_J1_38 : Cond.methodLink RJ1 38 Lib.Math.min.name ∈ TB := tbm 334 (by decide +kernel) rfl
theorem st_Mathmin : Cond.static Lib.Math.min.name ∈ TB := tbm 335 (by decide +kernel) rfl
set_option maxRecDepth 50000 in
theorem cd_Mathmin : Cond.code Lib.Math.min.name Lib.Math.min.code 2 (some .int) ∈ TB := tbm 336 (rfl) rfl
theorem lk_J1_95 : Cond.methodLink RJ1 95 yJ1_indexOfChar_4cfef ∈ TB := tbm 337 (by decide +kernel) rfl
theorem st_yJ1_indexOfChar_4cfef : Cond.static yJ1_indexOfChar_4cfef ∈ TB := tbm 338 (by decide +kernel) rfl
set_option maxRecDepth 50000 in
theorem cd_yJ1_indexOfChar_4cfef : Cond.code yJ1_indexOfChar_4cfef cJ1_indexOfChar_4cfef 6 (some .int) ∈ TB := tbm 339 (rfl) rfl
theorem lk_J0_640 : Cond.methodLink RJ0 640 yJ2_indexOf_4cfef ∈ TB := tbm 340 (by decide +kernel) rfl
theorem st_yJ2_indexOf_4cfef : Cond.static yJ2_indexOf_4cfef ∈ TB := tbm 341 (by decide +kernel) rfl
set_option maxRecDepth 50000 in
theorem cd_yJ2_indexOf_4cfef : Cond.code yJ2_indexOf_4cfef cJ2_indexOf_4cfef 4 (some .int) ∈ TB := tbm 342 (rfl) rfl
theorem lk_J2_224 : Cond.methodLink RJ2 224 Lib.Math.max.name ∈ TB := tbm 343 (by decide +kernel) rfl
theorem lk_J2_183 : Cond.methodLink RJ2 183 Lib.Math.min.name ∈ TB := tbm 344 (by decide +kernel) rfl
theorem cst_J2_227 : Cond.constant RJ2 227 (65536) ∈ TB := tbm 345 (by decide +kernel) rfl
theorem lk_J2_228 : Cond.methodLink RJ2 228 yJ2_indexOfChar_4cfef ∈ TB := tbm 346 (by decide +kernel) rfl
theorem st_yJ2_indexOfChar_4cfef : Cond.static yJ2_indexOfChar_4cfef ∈ TB := tbm 347 (by decide +kernel) rfl
set_option maxRecDepth 50000 in
theorem cd_yJ2_indexOfChar_4cfef : Cond.code yJ2_indexOfChar_4cfef cJ2_indexOfChar_4cfef 4 (some .int) ∈ TB := tbm 348 (rfl) rfl
theorem lk_J2_96 : Cond.methodLink RJ2 96 yJ2_checkBoundsBeginEnd_d044e ∈ TB := tbm 349 (by decide +kernel) rfl
theorem st_yJ2_checkBoundsBeginEnd_d044e : Cond.static yJ2_checkBoundsBeginEnd_d044e ∈ TB := tbm 350 (by decide +kernel) rfl
set_option maxRecDepth 50000 in
theorem cd_yJ2_checkBoundsBeginEnd_d044e : Cond.code yJ2_checkBoundsBeginEnd_d044e cJ2_checkBoundsBeginEnd_d044e 3 none ∈ TB := tbm 351 (rfl) rfl
theorem lk_J2_241 : Cond.methodLink RJ2 241 yJ0_checkBoundsBeginEnd_23922 ∈ TB := tbm 352 (by decide +kernel) rfl
theorem st_yJ0_checkBoundsBeginEnd_23922 : Cond.static yJ0_checkBoundsBeginEnd_23922 ∈ TB := tbm 353 (by decide +kernel) rfl
set_option maxRecDepth 50000 in
theorem cd_yJ0_checkBoundsBeginEnd_23922 : Cond.code yJ0_checkBoundsBeginEnd_23922 cJ0_checkBoundsBeginEnd_23922 3 none ∈ TB := tbm 354 (rfl) rfl
theorem lk_J0_1062 : Cond.methodLink RJ0 1062 yJ3_checkFromToIndex_8c36e ∈ TB := tbm 355 (by decide +kernel) rfl
theorem st_yJ3_checkFromToIndex_8c36e : Cond.static yJ3_checkFromToIndex_8c36e ∈ TB := tbm 356 (by decide +kernel) rfl
set_option maxRecDepth 50000 in
theorem cd_yJ3_checkFromToIndex_8c36e : Cond.code yJ3_checkFromToIndex_8c36e cJ3_checkFromToIndex_8c36e 4 (some .int) ∈ TB := tbm 357 (rfl) rfl
theorem lk_J2_244 : Cond.methodLink RJ2 244 yJ2_indexOfCharUnsafe_4cfef ∈ TB := tbm 358 (by decide +kernel) rfl
theorem st_yJ2_indexOfCharUnsafe_4cfef : Cond.static yJ2_indexOfCharUnsafe_4cfef ∈ TB := tbm 359 (by decide +kernel) rfl
set_option maxRecDepth 50000 in
theorem cd_yJ2_indexOfCharUnsafe_4cfef : Cond.code yJ2_indexOfCharUnsafe_4cfef cJ2_indexOfCharUnsafe_4cfef 5 (some .int) ∈ TB := tbm 360 (rfl) rfl
theorem lk_J2_232 : Cond.methodLink RJ2 232 yJ2_indexOfSupplementary_4cfef ∈ TB := tbm 361 (by decide +kernel) rfl
theorem st_yJ2_indexOfSupplementary_4cfef : Cond.static yJ2_indexOfSupplementary_4cfef ∈ TB := tbm 362 (by decide +kernel) rfl
set_option maxRecDepth 50000 in
theorem cd_yJ2_indexOfSupplementary_4cfef : Cond.code yJ2_indexOfSupplementary_4cfef cJ2_indexOfSupplementary_4cfef 7 (some .int) ∈ TB := tbm 363 (rfl) rfl
theorem lk_J2_164 : Cond.methodLink RJ2 164 yJ11_isValidCodePoint_9a6ad ∈ TB := tbm 364 (by decide +kernel) rfl
theorem st_yJ11_isValidCodePoint_9a6ad : Cond.static yJ11_isValidCodePoint_9a6ad ∈ TB := tbm 365 (by decide +kernel) rfl
set_option maxRecDepth 50000 in
theorem cd_yJ11_isValidCodePoint_9a6ad : Cond.code yJ11_isValidCodePoint_9a6ad cJ11_isValidCodePoint_9a6ad 2 (some .boolean) ∈ TB := tbm 366 (rfl) rfl
theorem lk_J2_157 : Cond.methodLink RJ2 157 yJ11_highSurrogate_5068e ∈ TB := tbm 367 (by decide +kernel) rfl
theorem st_yJ11_highSurrogate_5068e : Cond.static yJ11_highSurrogate_5068e ∈ TB := tbm 368 (by decide +kernel) rfl
set_option maxRecDepth 50000 in
theorem cd_yJ11_highSurrogate_5068e : Cond.code yJ11_highSurrogate_5068e cJ11_highSurrogate_5068e 1 (some .char) ∈ TB := tbm 369 (rfl) rfl
theorem cst_J11_110 : Cond.constant RJ11 110 (55232) ∈ TB := tbm 370 (by decide +kernel) rfl
theorem lk_J2_161 : Cond.methodLink RJ2 161 yJ11_lowSurrogate_5068e ∈ TB := tbm 371 (by decide +kernel) rfl
theorem st_yJ11_lowSurrogate_5068e : Cond.static yJ11_lowSurrogate_5068e ∈ TB := tbm 372 (by decide +kernel) rfl
set_option maxRecDepth 50000 in
theorem cd_yJ11_lowSurrogate_5068e : Cond.code yJ11_lowSurrogate_5068e cJ11_lowSurrogate_5068e 1 (some .char) ∈ TB := tbm 373 (rfl) rfl
theorem cst_J11_76 : Cond.constant RJ11 76 (56320) ∈ TB := tbm 374 (by decide +kernel) rfl
theorem lk_X2_79 : Cond.methodLink RX2 79 yX2_stepFrom ∈ TB := tbm 375 (by decide +kernel) rfl
theorem im_yX2_stepFrom : Cond.instanceMethod yX2_stepFrom ∈ TB := tbm 377 (by decide +kernel) rfl
set_option maxRecDepth 50000 in
theorem cd_yX2_stepFrom : Cond.code yX2_stepFrom cX2_stepFrom 2 (some .int) ∈ TB := tbm 378 (rfl) rfl
theorem lk_X2_82 : Cond.methodLink RX2 82 Lib.Math.max.name ∈ TB := tbm 379 (by decide +kernel) rfl
theorem lk_X3_69 : Cond.methodLink RX3 69 yX2_faultOfSense ∈ TB := tbm 380 (by decide +kernel) rfl
theorem im_yX2_faultOfSense : Cond.instanceMethod yX2_faultOfSense ∈ TB := tbm 381 (by decide +kernel) rfl
theorem sel_yX2_faultOfSense : Cond.selects RX2 yX2_faultOfSense yX2_faultOfSense ∈ TB := tbm 382 (by decide +kernel) rfl
set_option maxRecDepth 50000 in
theorem cd_yX2_faultOfSense : Cond.code yX2_faultOfSense cX2_faultOfSense 6 (some .int) ∈ TB := tbm 383 (rfl) rfl
theorem lk_X2_88 : Cond.methodLink RX2 88 yX2_isSensible ∈ TB := tbm 384 (by decide +kernel) rfl
theorem im_yX2_isSensible : Cond.instanceMethod yX2_isSensible ∈ TB := tbm 386 (by decide +kernel) rfl
set_option maxRecDepth 50000 in
theorem cd_yX2_isSensible : Cond.code yX2_isSensible cX2_isSensible 4 (some .boolean) ∈ TB := tbm 387 (rfl) rfl
theorem lk_X2_31 : Cond.methodLink RX2 31 yX2_digitAt ∈ TB := tbm 388 (by decide +kernel) rfl
theorem im_yX2_digitAt : Cond.instanceMethod yX2_digitAt ∈ TB := tbm 390 (by decide +kernel) rfl
set_option maxRecDepth 50000 in
theorem cd_yX2_digitAt : Cond.code yX2_digitAt cX2_digitAt 2 (some .int) ∈ TB := tbm 391 (rfl) rfl
theorem lk_X2_92 : Cond.methodLink RX2 92 yX2_numberAt ∈ TB := tbm 392 (by decide +kernel) rfl
theorem im_yX2_numberAt : Cond.instanceMethod yX2_numberAt ∈ TB := tbm 394 (by decide +kernel) rfl
set_option maxRecDepth 50000 in
theorem cd_yX2_numberAt : Cond.code yX2_numberAt cX2_numberAt 2 (some .int) ∈ TB := tbm 395 (rfl) rfl
theorem lk_X3_73 : Cond.methodLink RX3 73 yX2_comeTo ∈ TB := tbm 397 (by decide +kernel) rfl
theorem im_yX2_comeTo : Cond.instanceMethod yX2_comeTo ∈ TB := tbm 398 (by decide +kernel) rfl
theorem sel_yX2_comeTo : Cond.selects RX2 yX2_comeTo yX2_comeTo ∈ TB := tbm 399 (by decide +kernel) rfl
set_option maxRecDepth 50000 in
theorem cd_yX2_comeTo : Cond.code yX2_comeTo cX2_comeTo 4 (some .int) ∈ TB := tbm 400 (rfl) rfl
theorem lk_X2_99 : Cond.methodLink RX2 99 yX2_bring ∈ TB := tbm 401 (by decide +kernel) rfl
theorem im_yX2_bring : Cond.instanceMethod yX2_bring ∈ TB := tbm 403 (by decide +kernel) rfl
set_option maxRecDepth 50000 in
theorem cd_yX2_bring : Cond.code yX2_bring cX2_bring 5 none ∈ TB := tbm 404 (rfl) rfl
theorem lk_X2_103 : Cond.methodLink RX2 103 yX0_addCaller ∈ TB := tbm 405 (by decide +kernel) rfl
theorem im_yX0_addCaller : Cond.instanceMethod yX0_addCaller ∈ TB := tbm 406 (by decide +kernel) rfl
theorem sel_yX0_addCaller : Cond.selects RX0 yX0_addCaller yX0_addCaller ∈ TB := tbm 407 (by decide +kernel) rfl
set_option maxRecDepth 50000 in
theorem cd_yX0_addCaller : Cond.code yX0_addCaller cX0_addCaller 6 none ∈ TB := tbm 408 (rfl) rfl
theorem lk_X0_64 : Cond.methodLink RX0 64 yX0_arrange ∈ TB := tbm 410 (by decide +kernel) rfl
theorem im_yX0_arrange : Cond.instanceMethod yX0_arrange ∈ TB := tbm 412 (by decide +kernel) rfl
set_option maxRecDepth 50000 in
theorem cd_yX0_arrange : Cond.code yX0_arrange cX0_arrange 4 none ∈ TB := tbm 413 (rfl) rfl
theorem lk_X2_112 : Cond.methodLink RX2 112 yX0_moveTo ∈ TB := tbm 415 (by decide +kernel) rfl
theorem im_yX0_moveTo : Cond.instanceMethod yX0_moveTo ∈ TB := tbm 416 (by decide +kernel) rfl
theorem sel_yX0_moveTo : Cond.selects RX0 yX0_moveTo yX0_moveTo ∈ TB := tbm 417 (by decide +kernel) rfl
set_option maxRecDepth 50000 in
theorem cd_yX0_moveTo : Cond.code yX0_moveTo cX0_moveTo 3 none ∈ TB := tbm 418 (rfl) rfl
theorem lk_X2_125 : Cond.methodLink RX2 125 yX0_passDay ∈ TB := tbm 419 (by decide +kernel) rfl
theorem im_yX0_passDay : Cond.instanceMethod yX0_passDay ∈ TB := tbm 420 (by decide +kernel) rfl
theorem sel_yX0_passDay : Cond.selects RX0 yX0_passDay yX0_passDay ∈ TB := tbm 421 (by decide +kernel) rfl
set_option maxRecDepth 50000 in
theorem cd_yX0_passDay : Cond.code yX0_passDay cX0_passDay 7 none ∈ TB := tbm 422 (rfl) rfl
theorem lk_X0_107 : Cond.methodLink RX0 107 yX0_hearCall ∈ TB := tbm 423 (by decide +kernel) rfl
theorem im_yX0_hearCall : Cond.instanceMethod yX0_hearCall ∈ TB := tbm 425 (by decide +kernel) rfl
set_option maxRecDepth 50000 in
theorem cd_yX0_hearCall : Cond.code yX0_hearCall cX0_hearCall 5 (some .boolean) ∈ TB := tbm 426 (rfl) rfl
theorem lk_X0_90 : Cond.methodLink RX0 90 yX0_wouldAnswer ∈ TB := tbm 427 (by decide +kernel) rfl
theorem im_yX0_wouldAnswer : Cond.instanceMethod yX0_wouldAnswer ∈ TB := tbm 428 (by decide +kernel) rfl
theorem sel_yX0_wouldAnswer : Cond.selects RX0 yX0_wouldAnswer yX0_wouldAnswer ∈ TB := tbm 429 (by decide +kernel) rfl
set_option maxRecDepth 50000 in
theorem cd_yX0_wouldAnswer : Cond.code yX0_wouldAnswer cX0_wouldAnswer 3 (some .boolean) ∈ TB := tbm 430 (rfl) rfl
theorem lk_X0_77 : Cond.methodLink RX0 77 Lib.Math.abs.name ∈ TB := tbm 431 (by decide +kernel) rfl
theorem st_Mathabs : Cond.static Lib.Math.abs.name ∈ TB := tbm 432 (by decide +kernel) rfl
set_option maxRecDepth 50000 in
theorem cd_Mathabs : Cond.code Lib.Math.abs.name Lib.Math.abs.code 1 (some .int) ∈ TB := tbm 433 (rfl) rfl
theorem lk_X0_83 : Cond.methodLink RX0 83 yX0_isSilent ∈ TB := tbm 434 (by decide +kernel) rfl
theorem im_yX0_isSilent : Cond.instanceMethod yX0_isSilent ∈ TB := tbm 435 (by decide +kernel) rfl
theorem sel_yX0_isSilent : Cond.selects RX0 yX0_isSilent yX0_isSilent ∈ TB := tbm 436 (by decide +kernel) rfl
set_option maxRecDepth 50000 in
theorem cd_yX0_isSilent : Cond.code yX0_isSilent cX0_isSilent 1 (some .boolean) ∈ TB := tbm 437 (rfl) rfl
theorem lk_X0_94 : Cond.methodLink RX0 94 yX0_wordFor ∈ TB := tbm 440 (by decide +kernel) rfl
theorem im_yX0_wordFor : Cond.instanceMethod yX0_wordFor ∈ TB := tbm 442 (by decide +kernel) rfl
set_option maxRecDepth 50000 in
theorem cd_yX0_wordFor : Cond.code yX0_wordFor cX0_wordFor 5 (some .int) ∈ TB := tbm 443 (rfl) rfl
theorem lk_X0_100 : Cond.methodLink RX0 100 yX0_bestBut ∈ TB := tbm 446 (by decide +kernel) rfl
theorem im_yX0_bestBut : Cond.instanceMethod yX0_bestBut ∈ TB := tbm 447 (by decide +kernel) rfl
theorem sel_yX0_bestBut : Cond.selects RX0 yX0_bestBut yX0_bestBut ∈ TB := tbm 448 (by decide +kernel) rfl
set_option maxRecDepth 50000 in
theorem cd_yX0_bestBut : Cond.code yX0_bestBut cX0_bestBut 5 (some .int) ∈ TB := tbm 449 (rfl) rfl
theorem lk_X0_114 : Cond.methodLink RX0 114 yX1_noteAnswer ∈ TB := tbm 450 (by decide +kernel) rfl
theorem im_yX1_noteAnswer : Cond.instanceMethod yX1_noteAnswer ∈ TB := tbm 451 (by decide +kernel) rfl
theorem sel_yX1_noteAnswer : Cond.selects RX1 yX1_noteAnswer yX1_noteAnswer ∈ TB := tbm 452 (by decide +kernel) rfl
set_option maxRecDepth 50000 in
theorem cd_yX1_noteAnswer : Cond.code yX1_noteAnswer cX1_noteAnswer 3 none ∈ TB := tbm 453 (rfl) rfl
theorem lk_X0_121 : Cond.methodLink RX0 121 Lib.Math.min.name ∈ TB := tbm 458 (by decide +kernel) rfl
theorem lk_X0_134 : Cond.methodLink RX0 134 yX0_hurtBy ∈ TB := tbm 463 (by decide +kernel) rfl
theorem im_yX0_hurtBy : Cond.instanceMethod yX0_hurtBy ∈ TB := tbm 465 (by decide +kernel) rfl
set_option maxRecDepth 50000 in
theorem cd_yX0_hurtBy : Cond.code yX0_hurtBy cX0_hurtBy 2 none ∈ TB := tbm 466 (rfl) rfl
theorem lk_X0_137 : Cond.methodLink RX0 137 Lib.Math.max.name ∈ TB := tbm 467 (by decide +kernel) rfl
theorem lk_X0_110 : Cond.methodLink RX0 110 yX0_endDay ∈ TB := tbm 468 (by decide +kernel) rfl
theorem im_yX0_endDay : Cond.instanceMethod yX0_endDay ∈ TB := tbm 470 (by decide +kernel) rfl
set_option maxRecDepth 50000 in
theorem cd_yX0_endDay : Cond.code yX0_endDay cX0_endDay 4 none ∈ TB := tbm 471 (rfl) rfl
theorem ac_byte : Cond.arrayClass .byte ∈ TB := tbm 472 (by decide +kernel) rfl
theorem lk_L_23 : Cond.methodLink RL 23 yX3_caller ∈ TB := tbm 473 (by decide +kernel) rfl
theorem im_yX3_caller : Cond.instanceMethod yX3_caller ∈ TB := tbm 474 (by decide +kernel) rfl
theorem sel_yX3_caller : Cond.selects RX3 yX3_caller yX3_caller ∈ TB := tbm 475 (by decide +kernel) rfl
set_option maxRecDepth 50000 in
theorem cd_yX3_caller : Cond.code yX3_caller cX3_caller 4 (some .int) ∈ TB := tbm 476 (rfl) rfl
theorem lk_X3_77 : Cond.methodLink RX3 77 yX3_callerNo ∈ TB := tbm 477 (by decide +kernel) rfl
theorem im_yX3_callerNo : Cond.instanceMethod yX3_callerNo ∈ TB := tbm 479 (by decide +kernel) rfl
set_option maxRecDepth 50000 in
theorem cd_yX3_callerNo : Cond.code yX3_callerNo cX3_callerNo 2 (some .int) ∈ TB := tbm 480 (rfl) rfl
theorem lk_X3_190 : Cond.methodLink RX3 190 yX0_has ∈ TB := tbm 481 (by decide +kernel) rfl
theorem im_yX0_has : Cond.instanceMethod yX0_has ∈ TB := tbm 482 (by decide +kernel) rfl
theorem sel_yX0_has : Cond.selects RX0 yX0_has yX0_has ∈ TB := tbm 483 (by decide +kernel) rfl
set_option maxRecDepth 50000 in
theorem cd_yX0_has : Cond.code yX0_has cX0_has 2 (some .boolean) ∈ TB := tbm 484 (rfl) rfl
theorem lk_X3_80 : Cond.methodLink RX3 80 yX3_whatNo ∈ TB := tbm 485 (by decide +kernel) rfl
theorem st_yX3_whatNo : Cond.static yX3_whatNo ∈ TB := tbm 486 (by decide +kernel) rfl
set_option maxRecDepth 50000 in
theorem cd_yX3_whatNo : Cond.code yX3_whatNo cX3_whatNo 2 (some .int) ∈ TB := tbm 487 (rfl) rfl
theorem lk_X3_83 : Cond.methodLink RX3 83 yX3_first ∈ TB := tbm 488 (by decide +kernel) rfl
theorem st_yX3_first : Cond.static yX3_first ∈ TB := tbm 489 (by decide +kernel) rfl
set_option maxRecDepth 50000 in
theorem cd_yX3_first : Cond.code yX3_first cX3_first 2 (some .int) ∈ TB := tbm 490 (rfl) rfl
theorem lk_L_28 : Cond.methodLink RL 28 yX3_known ∈ TB := tbm 491 (by decide +kernel) rfl
theorem im_yX3_known : Cond.instanceMethod yX3_known ∈ TB := tbm 492 (by decide +kernel) rfl
theorem sel_yX3_known : Cond.selects RX3 yX3_known yX3_known ∈ TB := tbm 493 (by decide +kernel) rfl
set_option maxRecDepth 50000 in
theorem cd_yX3_known : Cond.code yX3_known cX3_known 3 (some .int) ∈ TB := tbm 494 (rfl) rfl
theorem lk_X3_105 : Cond.methodLink RX3 105 yX3_wordNo ∈ TB := tbm 495 (by decide +kernel) rfl
theorem st_yX3_wordNo : Cond.static yX3_wordNo ∈ TB := tbm 496 (by decide +kernel) rfl
set_option maxRecDepth 50000 in
theorem cd_yX3_wordNo : Cond.code yX3_wordNo cX3_wordNo 1 (some .int) ∈ TB := tbm 497 (rfl) rfl
theorem lk_L_32 : Cond.methodLink RL 32 yX3_learn ∈ TB := tbm 498 (by decide +kernel) rfl
theorem im_yX3_learn : Cond.instanceMethod yX3_learn ∈ TB := tbm 499 (by decide +kernel) rfl
theorem sel_yX3_learn : Cond.selects RX3 yX3_learn yX3_learn ∈ TB := tbm 500 (by decide +kernel) rfl
set_option maxRecDepth 50000 in
theorem cd_yX3_learn : Cond.code yX3_learn cX3_learn 5 (some .int) ∈ TB := tbm 501 (rfl) rfl
theorem lk_L_36 : Cond.methodLink RL 36 yX3_set ∈ TB := tbm 502 (by decide +kernel) rfl
theorem im_yX3_set : Cond.instanceMethod yX3_set ∈ TB := tbm 503 (by decide +kernel) rfl
theorem sel_yX3_set : Cond.selects RX3 yX3_set yX3_set ∈ TB := tbm 504 (by decide +kernel) rfl
set_option maxRecDepth 50000 in
theorem cd_yX3_set : Cond.code yX3_set cX3_set 5 (some .int) ∈ TB := tbm 505 (rfl) rfl
theorem lk_X3_115 : Cond.methodLink RX3 115 yX3_settingNo ∈ TB := tbm 506 (by decide +kernel) rfl
theorem st_yX3_settingNo : Cond.static yX3_settingNo ∈ TB := tbm 507 (by decide +kernel) rfl
set_option maxRecDepth 50000 in
theorem cd_yX3_settingNo : Cond.code yX3_settingNo cX3_settingNo 2 (some .int) ∈ TB := tbm 508 (rfl) rfl
theorem lk_L_40 : Cond.methodLink RL 40 yX3_hour ∈ TB := tbm 509 (by decide +kernel) rfl
theorem im_yX3_hour : Cond.instanceMethod yX3_hour ∈ TB := tbm 510 (by decide +kernel) rfl
theorem sel_yX3_hour : Cond.selects RX3 yX3_hour yX3_hour ∈ TB := tbm 511 (by decide +kernel) rfl
set_option maxRecDepth 50000 in
theorem cd_yX3_hour : Cond.code yX3_hour cX3_hour 5 (some .int) ∈ TB := tbm 512 (rfl) rfl
theorem lk_X3_127 : Cond.methodLink RX3 127 yX0_moveTo ∈ TB := tbm 513 (by decide +kernel) rfl
theorem lk_L_44 : Cond.methodLink RL 44 yX3_days ∈ TB := tbm 514 (by decide +kernel) rfl
theorem im_yX3_days : Cond.instanceMethod yX3_days ∈ TB := tbm 515 (by decide +kernel) rfl
theorem sel_yX3_days : Cond.selects RX3 yX3_days yX3_days ∈ TB := tbm 516 (by decide +kernel) rfl
set_option maxRecDepth 50000 in
theorem cd_yX3_days : Cond.code yX3_days cX3_days 3 (some .int) ∈ TB := tbm 517 (rfl) rfl
theorem lk_X3_135 : Cond.methodLink RX3 135 yX1_forget ∈ TB := tbm 518 (by decide +kernel) rfl
theorem im_yX1_forget : Cond.instanceMethod yX1_forget ∈ TB := tbm 519 (by decide +kernel) rfl
theorem sel_yX1_forget : Cond.selects RX1 yX1_forget yX1_forget ∈ TB := tbm 520 (by decide +kernel) rfl
set_option maxRecDepth 50000 in
theorem cd_yX1_forget : Cond.code yX1_forget cX1_forget 1 none ∈ TB := tbm 521 (rfl) rfl
theorem lk_X1_28 : Cond.methodLink RX1 28 yJ7_fill_53178 ∈ TB := tbm 522 (by decide +kernel) rfl
theorem st_yJ7_fill_53178 : Cond.static yJ7_fill_53178 ∈ TB := tbm 523 (by decide +kernel) rfl
set_option maxRecDepth 50000 in
theorem cd_yJ7_fill_53178 : Cond.code yJ7_fill_53178 cJ7_fill_53178 4 none ∈ TB := tbm 524 (rfl) rfl
theorem lk_X3_140 : Cond.methodLink RX3 140 yX0_passDays ∈ TB := tbm 525 (by decide +kernel) rfl
theorem im_yX0_passDays : Cond.instanceMethod yX0_passDays ∈ TB := tbm 526 (by decide +kernel) rfl
theorem sel_yX0_passDays : Cond.selects RX0 yX0_passDays yX0_passDays ∈ TB := tbm 527 (by decide +kernel) rfl
set_option maxRecDepth 50000 in
theorem cd_yX0_passDays : Cond.code yX0_passDays cX0_passDays 4 none ∈ TB := tbm 528 (rfl) rfl
theorem lk_X0_103 : Cond.methodLink RX0 103 yX0_passDay ∈ TB := tbm 529 (by decide +kernel) rfl
theorem lk_L_157 : Cond.methodLink RL 157 yX3_count ∈ TB := tbm 530 (by decide +kernel) rfl
theorem im_yX3_count : Cond.instanceMethod yX3_count ∈ TB := tbm 531 (by decide +kernel) rfl
theorem sel_yX3_count : Cond.selects RX3 yX3_count yX3_count ∈ TB := tbm 532 (by decide +kernel) rfl
set_option maxRecDepth 50000 in
theorem cd_yX3_count : Cond.code yX3_count cX3_count 2 (some .int) ∈ TB := tbm 533 (rfl) rfl
theorem lk_X3_146 : Cond.methodLink RX3 146 yX0_allKnown ∈ TB := tbm 534 (by decide +kernel) rfl
theorem im_yX0_allKnown : Cond.instanceMethod yX0_allKnown ∈ TB := tbm 535 (by decide +kernel) rfl
theorem sel_yX0_allKnown : Cond.selects RX0 yX0_allKnown yX0_allKnown ∈ TB := tbm 536 (by decide +kernel) rfl
set_option maxRecDepth 50000 in
theorem cd_yX0_allKnown : Cond.code yX0_allKnown cX0_allKnown 3 (some .int) ∈ TB := tbm 537 (rfl) rfl
theorem lk_X3_149 : Cond.methodLink RX3 149 yX0_isSilent ∈ TB := tbm 538 (by decide +kernel) rfl
theorem lk_L_48 : Cond.methodLink RL 48 yX3_answers ∈ TB := tbm 539 (by decide +kernel) rfl
theorem im_yX3_answers : Cond.instanceMethod yX3_answers ∈ TB := tbm 540 (by decide +kernel) rfl
theorem sel_yX3_answers : Cond.selects RX3 yX3_answers yX3_answers ∈ TB := tbm 541 (by decide +kernel) rfl
set_option maxRecDepth 50000 in
theorem cd_yX3_answers : Cond.code yX3_answers cX3_answers 3 (some .int) ∈ TB := tbm 542 (rfl) rfl
theorem lk_X3_153 : Cond.methodLink RX3 153 yX0_wouldAnswer ∈ TB := tbm 543 (by decide +kernel) rfl
theorem lk_L_52 : Cond.methodLink RL 52 yX3_says ∈ TB := tbm 544 (by decide +kernel) rfl
theorem im_yX3_says : Cond.instanceMethod yX3_says ∈ TB := tbm 545 (by decide +kernel) rfl
theorem sel_yX3_says : Cond.selects RX3 yX3_says yX3_says ∈ TB := tbm 546 (by decide +kernel) rfl
set_option maxRecDepth 50000 in
theorem cd_yX3_says : Cond.code yX3_says cX3_says 3 (some .int) ∈ TB := tbm 547 (rfl) rfl
theorem lk_X3_157 : Cond.methodLink RX3 157 yX0_wordOrNone ∈ TB := tbm 548 (by decide +kernel) rfl
theorem im_yX0_wordOrNone : Cond.instanceMethod yX0_wordOrNone ∈ TB := tbm 549 (by decide +kernel) rfl
theorem sel_yX0_wordOrNone : Cond.selects RX0 yX0_wordOrNone yX0_wordOrNone ∈ TB := tbm 550 (by decide +kernel) rfl
set_option maxRecDepth 50000 in
theorem cd_yX0_wordOrNone : Cond.code yX0_wordOrNone cX0_wordOrNone 2 (some .int) ∈ TB := tbm 551 (rfl) rfl
theorem lk_L_56 : Cond.methodLink RL 56 yX3_behind ∈ TB := tbm 552 (by decide +kernel) rfl
theorem im_yX3_behind : Cond.instanceMethod yX3_behind ∈ TB := tbm 553 (by decide +kernel) rfl
theorem sel_yX3_behind : Cond.selects RX3 yX3_behind yX3_behind ∈ TB := tbm 554 (by decide +kernel) rfl
set_option maxRecDepth 50000 in
theorem cd_yX3_behind : Cond.code yX3_behind cX3_behind 4 (some .int) ∈ TB := tbm 555 (rfl) rfl
theorem lk_X3_160 : Cond.methodLink RX3 160 yX3_aheadNo ∈ TB := tbm 556 (by decide +kernel) rfl
theorem st_yX3_aheadNo : Cond.static yX3_aheadNo ∈ TB := tbm 557 (by decide +kernel) rfl
set_option maxRecDepth 50000 in
theorem cd_yX3_aheadNo : Cond.code yX3_aheadNo cX3_aheadNo 1 (some .int) ∈ TB := tbm 558 (rfl) rfl
theorem lk_X3_163 : Cond.methodLink RX3 163 yX3_lookAhead ∈ TB := tbm 559 (by decide +kernel) rfl
theorem im_yX3_lookAhead : Cond.instanceMethod yX3_lookAhead ∈ TB := tbm 561 (by decide +kernel) rfl
set_option maxRecDepth 50000 in
theorem cd_yX3_lookAhead : Cond.code yX3_lookAhead cX3_lookAhead 3 none ∈ TB := tbm 562 (rfl) rfl
theorem lk_X3_178 : Cond.methodLink RX3 178 yX3_think ∈ TB := tbm 563 (by decide +kernel) rfl
theorem im_yX3_think : Cond.instanceMethod yX3_think ∈ TB := tbm 565 (by decide +kernel) rfl
set_option maxRecDepth 50000 in
theorem cd_yX3_think : Cond.code yX3_think cX3_think 1 none ∈ TB := tbm 566 (rfl) rfl
theorem lk_X3_227 : Cond.methodLink RX3 227 yX0_copyFrom ∈ TB := tbm 567 (by decide +kernel) rfl
theorem im_yX0_copyFrom : Cond.instanceMethod yX0_copyFrom ∈ TB := tbm 568 (by decide +kernel) rfl
theorem sel_yX0_copyFrom : Cond.selects RX0 yX0_copyFrom yX0_copyFrom ∈ TB := tbm 569 (by decide +kernel) rfl
set_option maxRecDepth 50000 in
theorem cd_yX0_copyFrom : Cond.code yX0_copyFrom cX0_copyFrom 2 none ∈ TB := tbm 570 (rfl) rfl
theorem st_yX3_copy : Cond.static yX3_copy ∈ TB := tbm 572 (by decide +kernel) rfl
set_option maxRecDepth 50000 in
theorem cd_yX3_copy : Cond.code yX3_copy cX3_copy 2 none ∈ TB := tbm 573 (rfl) rfl
theorem lk_X3_236 : Cond.methodLink RX3 236 Lib.Math.min.name ∈ TB := tbm 574 (by decide +kernel) rfl
theorem lk_X3_239 : Cond.methodLink RX3 239 arraycopyName ∈ TB := tbm 575 (by decide +kernel) rfl
theorem st_arraycopyName : Cond.static arraycopyName ∈ TB := tbm 576 (by decide +kernel) rfl
theorem nat_arraycopyName : Cond.native arraycopyName ∈ TB := tbm 577 (by decide +kernel) rfl
theorem lk_X3_166 : Cond.methodLink RX3 166 yX0_bestBut ∈ TB := tbm 578 (by decide +kernel) rfl
theorem lk_L_60 : Cond.methodLink RL 60 yX3_knownIn ∈ TB := tbm 579 (by decide +kernel) rfl
theorem im_yX3_knownIn : Cond.instanceMethod yX3_knownIn ∈ TB := tbm 580 (by decide +kernel) rfl
theorem sel_yX3_knownIn : Cond.selects RX3 yX3_knownIn yX3_knownIn ∈ TB := tbm 581 (by decide +kernel) rfl
set_option maxRecDepth 50000 in
theorem cd_yX3_knownIn : Cond.code yX3_knownIn cX3_knownIn 4 (some .int) ∈ TB := tbm 582 (rfl) rfl
theorem lk_L_64 : Cond.methodLink RL 64 yX3_of ∈ TB := tbm 583 (by decide +kernel) rfl
theorem im_yX3_of : Cond.instanceMethod yX3_of ∈ TB := tbm 584 (by decide +kernel) rfl
theorem sel_yX3_of : Cond.selects RX3 yX3_of yX3_of ∈ TB := tbm 585 (by decide +kernel) rfl
set_option maxRecDepth 50000 in
theorem cd_yX3_of : Cond.code yX3_of cX3_of 5 (some .int) ∈ TB := tbm 586 (rfl) rfl
theorem lk_L_69 : Cond.methodLink RL 69 yX3_knows ∈ TB := tbm 587 (by decide +kernel) rfl
theorem im_yX3_knows : Cond.instanceMethod yX3_knows ∈ TB := tbm 588 (by decide +kernel) rfl
theorem sel_yX3_knows : Cond.selects RX3 yX3_knows yX3_knows ∈ TB := tbm 589 (by decide +kernel) rfl
set_option maxRecDepth 50000 in
theorem cd_yX3_knows : Cond.code yX3_knows cX3_knows 5 (some .int) ∈ TB := tbm 590 (rfl) rfl
theorem lk_X3_181 : Cond.methodLink RX3 181 yX0_passDay ∈ TB := tbm 591 (by decide +kernel) rfl
theorem lk_L_73 : Cond.methodLink RL 73 yX3_silent ∈ TB := tbm 592 (by decide +kernel) rfl
theorem im_yX3_silent : Cond.instanceMethod yX3_silent ∈ TB := tbm 593 (by decide +kernel) rfl
theorem sel_yX3_silent : Cond.selects RX3 yX3_silent yX3_silent ∈ TB := tbm 594 (by decide +kernel) rfl
set_option maxRecDepth 50000 in
theorem cd_yX3_silent : Cond.code yX3_silent cX3_silent 2 (some .int) ∈ TB := tbm 595 (rfl) rfl
theorem lk_L_101 : Cond.methodLink RL 101 yX3_might ∈ TB := tbm 596 (by decide +kernel) rfl
theorem im_yX3_might : Cond.instanceMethod yX3_might ∈ TB := tbm 597 (by decide +kernel) rfl
theorem sel_yX3_might : Cond.selects RX3 yX3_might yX3_might ∈ TB := tbm 598 (by decide +kernel) rfl
set_option maxRecDepth 50000 in
theorem cd_yX3_might : Cond.code yX3_might cX3_might 3 (some .int) ∈ TB := tbm 599 (rfl) rfl
theorem lk_L_121 : Cond.methodLink RL 121 yX3_snow ∈ TB := tbm 600 (by decide +kernel) rfl
theorem im_yX3_snow : Cond.instanceMethod yX3_snow ∈ TB := tbm 601 (by decide +kernel) rfl
theorem sel_yX3_snow : Cond.selects RX3 yX3_snow yX3_snow ∈ TB := tbm 602 (by decide +kernel) rfl
set_option maxRecDepth 50000 in
theorem cd_yX3_snow : Cond.code yX3_snow cX3_snow 4 (some .int) ∈ TB := tbm 603 (rfl) rfl
theorem lk_L_125 : Cond.methodLink RL 125 yX3_heals ∈ TB := tbm 604 (by decide +kernel) rfl
theorem im_yX3_heals : Cond.instanceMethod yX3_heals ∈ TB := tbm 605 (by decide +kernel) rfl
theorem sel_yX3_heals : Cond.selects RX3 yX3_heals yX3_heals ∈ TB := tbm 606 (by decide +kernel) rfl
set_option maxRecDepth 50000 in
theorem cd_yX3_heals : Cond.code yX3_heals cX3_heals 4 (some .int) ∈ TB := tbm 607 (rfl) rfl
theorem lk_X3_187 : Cond.methodLink RX3 187 yX0_moveAllTo ∈ TB := tbm 608 (by decide +kernel) rfl
theorem im_yX0_moveAllTo : Cond.instanceMethod yX0_moveAllTo ∈ TB := tbm 609 (by decide +kernel) rfl
theorem sel_yX0_moveAllTo : Cond.selects RX0 yX0_moveAllTo yX0_moveAllTo ∈ TB := tbm 610 (by decide +kernel) rfl
set_option maxRecDepth 50000 in
theorem cd_yX0_moveAllTo : Cond.code yX0_moveAllTo cX0_moveAllTo 2 none ∈ TB := tbm 611 (rfl) rfl
theorem lk_X0_67 : Cond.methodLink RX0 67 yJ7_fill_53178 ∈ TB := tbm 612 (by decide +kernel) rfl
theorem lk_L_77 : Cond.methodLink RL 77 yX3_week ∈ TB := tbm 613 (by decide +kernel) rfl
theorem im_yX3_week : Cond.instanceMethod yX3_week ∈ TB := tbm 614 (by decide +kernel) rfl
theorem sel_yX3_week : Cond.selects RX3 yX3_week yX3_week ∈ TB := tbm 615 (by decide +kernel) rfl
set_option maxRecDepth 50000 in
theorem cd_yX3_week : Cond.code yX3_week cX3_week 4 (some .int) ∈ TB := tbm 616 (rfl) rfl
theorem lk_L_81 : Cond.methodLink RL 81 yX3_bestWeek ∈ TB := tbm 617 (by decide +kernel) rfl
theorem im_yX3_bestWeek : Cond.instanceMethod yX3_bestWeek ∈ TB := tbm 618 (by decide +kernel) rfl
theorem sel_yX3_bestWeek : Cond.selects RX3 yX3_bestWeek yX3_bestWeek ∈ TB := tbm 619 (by decide +kernel) rfl
set_option maxRecDepth 50000 in
theorem cd_yX3_bestWeek : Cond.code yX3_bestWeek cX3_bestWeek 9 (some .int) ∈ TB := tbm 620 (rfl) rfl
theorem lk_X3_193 : Cond.methodLink RX3 193 yX3_thinkWeekOf ∈ TB := tbm 621 (by decide +kernel) rfl
theorem im_yX3_thinkWeekOf : Cond.instanceMethod yX3_thinkWeekOf ∈ TB := tbm 623 (by decide +kernel) rfl
set_option maxRecDepth 50000 in
theorem cd_yX3_thinkWeekOf : Cond.code yX3_thinkWeekOf cX3_thinkWeekOf 3 none ∈ TB := tbm 624 (rfl) rfl
theorem lk_X3_196 : Cond.methodLink RX3 196 yX3_inRow ∈ TB := tbm 625 (by decide +kernel) rfl
theorem im_yX3_inRow : Cond.instanceMethod yX3_inRow ∈ TB := tbm 627 (by decide +kernel) rfl
set_option maxRecDepth 50000 in
theorem cd_yX3_inRow : Cond.code yX3_inRow cX3_inRow 4 (some .int) ∈ TB := tbm 628 (rfl) rfl
theorem lk_X3_231 : Cond.methodLink RX3 231 Lib.Math.max.name ∈ TB := tbm 629 (by decide +kernel) rfl
theorem lk_L_85 : Cond.methodLink RL 85 yX3_bestTune ∈ TB := tbm 630 (by decide +kernel) rfl
theorem im_yX3_bestTune : Cond.instanceMethod yX3_bestTune ∈ TB := tbm 631 (by decide +kernel) rfl
theorem sel_yX3_bestTune : Cond.selects RX3 yX3_bestTune yX3_bestTune ∈ TB := tbm 632 (by decide +kernel) rfl
set_option maxRecDepth 50000 in
theorem cd_yX3_bestTune : Cond.code yX3_bestTune cX3_bestTune 6 (some .int) ∈ TB := tbm 633 (rfl) rfl
theorem lk_L_93 : Cond.methodLink RL 93 yX3_bestHour ∈ TB := tbm 634 (by decide +kernel) rfl
theorem im_yX3_bestHour : Cond.instanceMethod yX3_bestHour ∈ TB := tbm 635 (by decide +kernel) rfl
theorem sel_yX3_bestHour : Cond.selects RX3 yX3_bestHour yX3_bestHour ∈ TB := tbm 636 (by decide +kernel) rfl
set_option maxRecDepth 50000 in
theorem cd_yX3_bestHour : Cond.code yX3_bestHour cX3_bestHour 7 (some .int) ∈ TB := tbm 637 (rfl) rfl
theorem lk_L_89 : Cond.methodLink RL 89 yX3_worst ∈ TB := tbm 638 (by decide +kernel) rfl
theorem im_yX3_worst : Cond.instanceMethod yX3_worst ∈ TB := tbm 639 (by decide +kernel) rfl
theorem sel_yX3_worst : Cond.selects RX3 yX3_worst yX3_worst ∈ TB := tbm 640 (by decide +kernel) rfl
set_option maxRecDepth 50000 in
theorem cd_yX3_worst : Cond.code yX3_worst cX3_worst 6 (some .int) ∈ TB := tbm 641 (rfl) rfl
theorem lk_X3_199 : Cond.methodLink RX3 199 yX3_without ∈ TB := tbm 642 (by decide +kernel) rfl
theorem st_yX3_without : Cond.static yX3_without ∈ TB := tbm 643 (by decide +kernel) rfl
set_option maxRecDepth 50000 in
theorem cd_yX3_without : Cond.code yX3_without cX3_without 1 (some .int) ∈ TB := tbm 644 (rfl) rfl
theorem lk_L_97 : Cond.methodLink RL 97 yX3_keepAway ∈ TB := tbm 645 (by decide +kernel) rfl
theorem im_yX3_keepAway : Cond.instanceMethod yX3_keepAway ∈ TB := tbm 646 (by decide +kernel) rfl
theorem sel_yX3_keepAway : Cond.selects RX3 yX3_keepAway yX3_keepAway ∈ TB := tbm 647 (by decide +kernel) rfl
set_option maxRecDepth 50000 in
theorem cd_yX3_keepAway : Cond.code yX3_keepAway cX3_keepAway 6 (some .int) ∈ TB := tbm 648 (rfl) rfl
theorem lk_X3_202 : Cond.methodLink RX3 202 yJ6_bitCount_0f7a4 ∈ TB := tbm 649 (by decide +kernel) rfl
theorem st_yJ6_bitCount_0f7a4 : Cond.static yJ6_bitCount_0f7a4 ∈ TB := tbm 650 (by decide +kernel) rfl
set_option maxRecDepth 50000 in
theorem cd_yJ6_bitCount_0f7a4 : Cond.code yJ6_bitCount_0f7a4 cJ6_bitCount_0f7a4 1 (some .int) ∈ TB := tbm 651 (rfl) rfl
theorem cst_J6_265 : Cond.constant RJ6 265 (1431655765) ∈ TB := tbm 652 (by decide +kernel) rfl
theorem cst_J6_266 : Cond.constant RJ6 266 (858993459) ∈ TB := tbm 653 (by decide +kernel) rfl
theorem cst_J6_267 : Cond.constant RJ6 267 (252645135) ∈ TB := tbm 654 (by decide +kernel) rfl
theorem lk_X3_207 : Cond.methodLink RX3 207 yX3_staysLoud ∈ TB := tbm 655 (by decide +kernel) rfl
theorem im_yX3_staysLoud : Cond.instanceMethod yX3_staysLoud ∈ TB := tbm 657 (by decide +kernel) rfl
set_option maxRecDepth 50000 in
theorem cd_yX3_staysLoud : Cond.code yX3_staysLoud cX3_staysLoud 4 (some .boolean) ∈ TB := tbm 658 (rfl) rfl
theorem lk_L_117 : Cond.methodLink RL 117 yX3_byTurns ∈ TB := tbm 659 (by decide +kernel) rfl
theorem im_yX3_byTurns : Cond.instanceMethod yX3_byTurns ∈ TB := tbm 660 (by decide +kernel) rfl
theorem sel_yX3_byTurns : Cond.selects RX3 yX3_byTurns yX3_byTurns ∈ TB := tbm 661 (by decide +kernel) rfl
set_option maxRecDepth 50000 in
theorem cd_yX3_byTurns : Cond.code yX3_byTurns cX3_byTurns 12 (some .int) ∈ TB := tbm 662 (rfl) rfl
theorem lk_X3_211 : Cond.methodLink RX3 211 yX3_thinkTurns ∈ TB := tbm 663 (by decide +kernel) rfl
theorem im_yX3_thinkTurns : Cond.instanceMethod yX3_thinkTurns ∈ TB := tbm 665 (by decide +kernel) rfl
set_option maxRecDepth 50000 in
theorem cd_yX3_thinkTurns : Cond.code yX3_thinkTurns cX3_thinkTurns 6 none ∈ TB := tbm 666 (rfl) rfl
theorem lk_L_105 : Cond.methodLink RL 105 yX3_never ∈ TB := tbm 667 (by decide +kernel) rfl
theorem im_yX3_never : Cond.instanceMethod yX3_never ∈ TB := tbm 668 (by decide +kernel) rfl
theorem sel_yX3_never : Cond.selects RX3 yX3_never yX3_never ∈ TB := tbm 669 (by decide +kernel) rfl
set_option maxRecDepth 50000 in
theorem cd_yX3_never : Cond.code yX3_never cX3_never 3 (some .int) ∈ TB := tbm 670 (rfl) rfl
theorem lk_X3_215 : Cond.methodLink RX3 215 yX0_isCalled ∈ TB := tbm 671 (by decide +kernel) rfl
theorem im_yX0_isCalled : Cond.instanceMethod yX0_isCalled ∈ TB := tbm 672 (by decide +kernel) rfl
theorem sel_yX0_isCalled : Cond.selects RX0 yX0_isCalled yX0_isCalled ∈ TB := tbm 673 (by decide +kernel) rfl
set_option maxRecDepth 50000 in
theorem cd_yX0_isCalled : Cond.code yX0_isCalled cX0_isCalled 3 (some .boolean) ∈ TB := tbm 674 (rfl) rfl
theorem lk_L_109 : Cond.methodLink RL 109 yX3_whose ∈ TB := tbm 675 (by decide +kernel) rfl
theorem im_yX3_whose : Cond.instanceMethod yX3_whose ∈ TB := tbm 676 (by decide +kernel) rfl
theorem sel_yX3_whose : Cond.selects RX3 yX3_whose yX3_whose ∈ TB := tbm 677 (by decide +kernel) rfl
set_option maxRecDepth 50000 in
theorem cd_yX3_whose : Cond.code yX3_whose cX3_whose 3 (some .int) ∈ TB := tbm 678 (rfl) rfl
theorem lk_X3_218 : Cond.methodLink RX3 218 yX3_hearersOf ∈ TB := tbm 679 (by decide +kernel) rfl
theorem im_yX3_hearersOf : Cond.instanceMethod yX3_hearersOf ∈ TB := tbm 681 (by decide +kernel) rfl
set_option maxRecDepth 50000 in
theorem cd_yX3_hearersOf : Cond.code yX3_hearersOf cX3_hearersOf 4 (some .int) ∈ TB := tbm 682 (rfl) rfl
theorem lk_L_113 : Cond.methodLink RL 113 yX3_tellsMost ∈ TB := tbm 683 (by decide +kernel) rfl
theorem im_yX3_tellsMost : Cond.instanceMethod yX3_tellsMost ∈ TB := tbm 684 (by decide +kernel) rfl
theorem sel_yX3_tellsMost : Cond.selects RX3 yX3_tellsMost yX3_tellsMost ∈ TB := tbm 685 (by decide +kernel) rfl
set_option maxRecDepth 50000 in
theorem cd_yX3_tellsMost : Cond.code yX3_tellsMost cX3_tellsMost 5 (some .int) ∈ TB := tbm 686 (rfl) rfl
theorem lk_L_129 : Cond.methodLink RL 129 yX3_row ∈ TB := tbm 687 (by decide +kernel) rfl
theorem im_yX3_row : Cond.instanceMethod yX3_row ∈ TB := tbm 688 (by decide +kernel) rfl
theorem sel_yX3_row : Cond.selects RX3 yX3_row yX3_row ∈ TB := tbm 689 (by decide +kernel) rfl
set_option maxRecDepth 50000 in
theorem cd_yX3_row : Cond.code yX3_row cX3_row 3 (some .int) ∈ TB := tbm 690 (rfl) rfl
theorem lk_L_133 : Cond.methodLink RL 133 yX3_fits ∈ TB := tbm 691 (by decide +kernel) rfl
theorem im_yX3_fits : Cond.instanceMethod yX3_fits ∈ TB := tbm 692 (by decide +kernel) rfl
theorem sel_yX3_fits : Cond.selects RX3 yX3_fits yX3_fits ∈ TB := tbm 693 (by decide +kernel) rfl
set_option maxRecDepth 50000 in
theorem cd_yX3_fits : Cond.code yX3_fits cX3_fits 3 (some .int) ∈ TB := tbm 694 (rfl) rfl
theorem lk_X3_221 : Cond.methodLink RX3 221 yX3_firstUntrue ∈ TB := tbm 695 (by decide +kernel) rfl
theorem im_yX3_firstUntrue : Cond.instanceMethod yX3_firstUntrue ∈ TB := tbm 697 (by decide +kernel) rfl
set_option maxRecDepth 50000 in
theorem cd_yX3_firstUntrue : Cond.code yX3_firstUntrue cX3_firstUntrue 3 (some .int) ∈ TB := tbm 698 (rfl) rfl
theorem lk_L_137 : Cond.methodLink RL 137 yX3_judge ∈ TB := tbm 699 (by decide +kernel) rfl
theorem im_yX3_judge : Cond.instanceMethod yX3_judge ∈ TB := tbm 700 (by decide +kernel) rfl
theorem sel_yX3_judge : Cond.selects RX3 yX3_judge yX3_judge ∈ TB := tbm 701 (by decide +kernel) rfl
set_option maxRecDepth 50000 in
theorem cd_yX3_judge : Cond.code yX3_judge cX3_judge 2 (some .int) ∈ TB := tbm 702 (rfl) rfl
theorem lk_L_141 : Cond.methodLink RL 141 yX3_clear ∈ TB := tbm 703 (by decide +kernel) rfl
theorem im_yX3_clear : Cond.instanceMethod yX3_clear ∈ TB := tbm 704 (by decide +kernel) rfl
theorem sel_yX3_clear : Cond.selects RX3 yX3_clear yX3_clear ∈ TB := tbm 705 (by decide +kernel) rfl
set_option maxRecDepth 50000 in
theorem cd_yX3_clear : Cond.code yX3_clear cX3_clear 2 (some .int) ∈ TB := tbm 706 (rfl) rfl
theorem lk_L_145 : Cond.methodLink RL 145 yX3_lots ∈ TB := tbm 707 (by decide +kernel) rfl
theorem im_yX3_lots : Cond.instanceMethod yX3_lots ∈ TB := tbm 708 (by decide +kernel) rfl
theorem sel_yX3_lots : Cond.selects RX3 yX3_lots yX3_lots ∈ TB := tbm 709 (by decide +kernel) rfl
set_option maxRecDepth 50000 in
theorem cd_yX3_lots : Cond.code yX3_lots cX3_lots 10 (some .int) ∈ TB := tbm 710 (rfl) rfl
theorem cst_X3_224 : Cond.constant RX3 224 (1664525) ∈ TB := tbm 711 (by decide +kernel) rfl
theorem cst_X3_225 : Cond.constant RX3 225 (1013904223) ∈ TB := tbm 712 (by decide +kernel) rfl
theorem cst_X3_226 : Cond.constant RX3 226 (2147483647) ∈ TB := tbm 713 (by decide +kernel) rfl
theorem lk_L_149 : Cond.methodLink RL 149 yX3_image ∈ TB := tbm 714 (by decide +kernel) rfl
theorem im_yX3_image : Cond.instanceMethod yX3_image ∈ TB := tbm 715 (by decide +kernel) rfl
theorem sel_yX3_image : Cond.selects RX3 yX3_image yX3_image ∈ TB := tbm 716 (by decide +kernel) rfl
set_option maxRecDepth 50000 in
theorem cd_yX3_image : Cond.code yX3_image cX3_image 1 (some .int) ∈ TB := tbm 717 (rfl) rfl
theorem lk_L_153 : Cond.methodLink RL 153 yX3_on ∈ TB := tbm 718 (by decide +kernel) rfl
theorem im_yX3_on : Cond.instanceMethod yX3_on ∈ TB := tbm 719 (by decide +kernel) rfl
theorem sel_yX3_on : Cond.selects RX3 yX3_on yX3_on ∈ TB := tbm 720 (by decide +kernel) rfl
set_option maxRecDepth 50000 in
theorem cd_yX3_on : Cond.code yX3_on cX3_on 1 (some .int) ∈ TB := tbm 721 (rfl) rfl
theorem cl_L_10 : Cond.classLink RL 10 RX4 ∈ TB := tbm 722 (by decide +kernel) rfl
theorem inst_X4 : Cond.instantiable RX4 37 ∈ TB := tbm 723 (by decide +kernel) rfl
theorem lk_L_12 : Cond.methodLink RL 12 yX4_init ∈ TB := tbm 724 (by decide +kernel) rfl
theorem im_yX4_init : Cond.instanceMethod yX4_init ∈ TB := tbm 725 (by decide +kernel) rfl
set_option maxRecDepth 50000 in
theorem cd_yX4_init : Cond.code yX4_init cX4_init 1 none ∈ TB := tbm 726 (rfl) rfl
theorem lk_X4_1 : Cond.methodLink RX4 1 objectInit ∈ TB := tbm 727 (by decide +kernel) rfl
theorem fl_X4_7 : Cond.fieldLink RX4 7 "TheEchosWidowModel" "refused" "[I" ∈ TB := tbm 728 (by decide +kernel) rfl
theorem fl_X4_13 : Cond.fieldLink RX4 13 "TheEchosWidowModel" "known" "[I" ∈ TB := tbm 729 (by decide +kernel) rfl
theorem fl_X4_16 : Cond.fieldLink RX4 16 "TheEchosWidowModel" "setting" "[I" ∈ TB := tbm 730 (by decide +kernel) rfl
theorem fl_X4_19 : Cond.fieldLink RX4 19 "TheEchosWidowModel" "kind" "[I" ∈ TB := tbm 731 (by decide +kernel) rfl
theorem fl_X4_22 : Cond.fieldLink RX4 22 "TheEchosWidowModel" "figure" "[I" ∈ TB := tbm 732 (by decide +kernel) rfl
theorem fl_X4_25 : Cond.fieldLink RX4 25 "TheEchosWidowModel" "tone" "[I" ∈ TB := tbm 733 (by decide +kernel) rfl
theorem fl_X4_28 : Cond.fieldLink RX4 28 "TheEchosWidowModel" "word" "[I" ∈ TB := tbm 734 (by decide +kernel) rfl
theorem fl_X4_31 : Cond.fieldLink RX4 31 "TheEchosWidowModel" "hours" "[I" ∈ TB := tbm 735 (by decide +kernel) rfl
theorem fl_X4_70 : Cond.fieldLink RX4 70 "TheEchosWidowModel" "callers" "I" ∈ TB := tbm 736 (by decide +kernel) rfl
theorem fl_X4_131 : Cond.fieldLink RX4 131 "TheEchosWidowModel" "day" "I" ∈ TB := tbm 737 (by decide +kernel) rfl
theorem fl_X4_34 : Cond.fieldLink RX4 34 "TheEchosWidowModel" "tape" "[I" ∈ TB := tbm 738 (by decide +kernel) rfl
theorem fl_X4_37 : Cond.fieldLink RX4 37 "TheEchosWidowModel" "letter" "[I" ∈ TB := tbm 739 (by decide +kernel) rfl
theorem fl_X4_40 : Cond.fieldLink RX4 40 "TheEchosWidowModel" "letterAt" "[I" ∈ TB := tbm 740 (by decide +kernel) rfl
theorem fl_X4_43 : Cond.fieldLink RX4 43 "TheEchosWidowModel" "told" "[I" ∈ TB := tbm 741 (by decide +kernel) rfl
theorem fl_X4_82 : Cond.fieldLink RX4 82 "TheEchosWidowModel" "taped" "I" ∈ TB := tbm 742 (by decide +kernel) rfl
theorem fl_X4_89 : Cond.fieldLink RX4 89 "TheEchosWidowModel" "at" "I" ∈ TB := tbm 743 (by decide +kernel) rfl
theorem fl_X4_110 : Cond.fieldLink RX4 110 "TheEchosWidowModel" "statements" "I" ∈ TB := tbm 744 (by decide +kernel) rfl
theorem fl_X4_46 : Cond.fieldLink RX4 46 "TheEchosWidowModel" "kept" "[I" ∈ TB := tbm 745 (by decide +kernel) rfl
theorem fl_X4_162 : Cond.fieldLink RX4 162 "TheEchosWidowModel" "hasImage" "Z" ∈ TB := tbm 746 (by decide +kernel) rfl
theorem fl_X4_148 : Cond.fieldLink RX4 148 "TheEchosWidowModel" "isKeeping" "Z" ∈ TB := tbm 747 (by decide +kernel) rfl
theorem fl_X4_152 : Cond.fieldLink RX4 152 "TheEchosWidowModel" "cursor" "I" ∈ TB := tbm 748 (by decide +kernel) rfl
theorem fl_X4_49 : Cond.fieldLink RX4 49 "TheEchosWidowModel" "answeredMany" "[I" ∈ TB := tbm 749 (by decide +kernel) rfl
theorem fl_X4_52 : Cond.fieldLink RX4 52 "TheEchosWidowModel" "lastWord" "[I" ∈ TB := tbm 750 (by decide +kernel) rfl
theorem fl_X4_205 : Cond.fieldLink RX4 205 "TheEchosWidowModel" "away" "I" ∈ TB := tbm 751 (by decide +kernel) rfl
theorem fl_X4_174 : Cond.fieldLink RX4 174 "TheEchosWidowModel" "answered" "I" ∈ TB := tbm 752 (by decide +kernel) rfl
theorem fl_X4_177 : Cond.fieldLink RX4 177 "TheEchosWidowModel" "unanswered" "I" ∈ TB := tbm 753 (by decide +kernel) rfl
theorem fl_X4_180 : Cond.fieldLink RX4 180 "TheEchosWidowModel" "saidWords" "I" ∈ TB := tbm 754 (by decide +kernel) rfl
theorem fl_X4_183 : Cond.fieldLink RX4 183 "TheEchosWidowModel" "isCalledAtSeven" "Z" ∈ TB := tbm 755 (by decide +kernel) rfl
theorem fl_X4_196 : Cond.fieldLink RX4 196 "TheEchosWidowModel" "isAnsweredAtSeven" "Z" ∈ TB := tbm 756 (by decide +kernel) rfl
theorem fl_X4_55 : Cond.fieldLink RX4 55 "TheEchosWidowModel" "seen" "[I" ∈ TB := tbm 757 (by decide +kernel) rfl
theorem fl_X4_230 : Cond.fieldLink RX4 230 "TheEchosWidowModel" "weekAnswers" "I" ∈ TB := tbm 758 (by decide +kernel) rfl
theorem fl_X4_233 : Cond.fieldLink RX4 233 "TheEchosWidowModel" "weekHurt" "I" ∈ TB := tbm 759 (by decide +kernel) rfl
theorem fl_X4_58 : Cond.fieldLink RX4 58 "TheEchosWidowModel" "week" "[I" ∈ TB := tbm 760 (by decide +kernel) rfl
theorem fl_X4_61 : Cond.fieldLink RX4 61 "TheEchosWidowModel" "row" "[I" ∈ TB := tbm 761 (by decide +kernel) rfl
theorem fl_X4_236 : Cond.fieldLink RX4 236 "TheEchosWidowModel" "rowMany" "I" ∈ TB := tbm 762 (by decide +kernel) rfl
theorem fl_X4_64 : Cond.fieldLink RX4 64 "TheEchosWidowModel" "oneHas" "[I" ∈ TB := tbm 763 (by decide +kernel) rfl
theorem fl_X4_67 : Cond.fieldLink RX4 67 "TheEchosWidowModel" "otherHas" "[I" ∈ TB := tbm 764 (by decide +kernel) rfl
theorem lk_L_17 : Cond.methodLink RL 17 yX4_letter ∈ TB := tbm 840 (by decide +kernel) rfl
theorem im_yX4_letter : Cond.instanceMethod yX4_letter ∈ TB := tbm 841 (by decide +kernel) rfl
theorem sel_yX4_letter : Cond.selects RX4 yX4_letter yX4_letter ∈ TB := tbm 842 (by decide +kernel) rfl
set_option maxRecDepth 50000 in
theorem cd_yX4_letter : Cond.code yX4_letter cX4_letter 3 (some .int) ∈ TB := tbm 843 (rfl) rfl
theorem lk_X4_78 : Cond.methodLink RX4 78 yX4_bound ∈ TB := tbm 844 (by decide +kernel) rfl
theorem st_yX4_bound : Cond.static yX4_bound ∈ TB := tbm 845 (by decide +kernel) rfl
set_option maxRecDepth 50000 in
theorem cd_yX4_bound : Cond.code yX4_bound cX4_bound 3 (some .int) ∈ TB := tbm 846 (rfl) rfl
theorem lk_X4_85 : Cond.methodLink RX4 85 yX4_no ∈ TB := tbm 847 (by decide +kernel) rfl
theorem im_yX4_no : Cond.instanceMethod yX4_no ∈ TB := tbm 849 (by decide +kernel) rfl
set_option maxRecDepth 50000 in
theorem cd_yX4_no : Cond.code yX4_no cX4_no 2 (some .int) ∈ TB := tbm 850 (rfl) rfl
theorem lk_L_22 : Cond.methodLink RL 22 yX4_gorge ∈ TB := tbm 851 (by decide +kernel) rfl
theorem im_yX4_gorge : Cond.instanceMethod yX4_gorge ∈ TB := tbm 852 (by decide +kernel) rfl
theorem sel_yX4_gorge : Cond.selects RX4 yX4_gorge yX4_gorge ∈ TB := tbm 853 (by decide +kernel) rfl
set_option maxRecDepth 50000 in
theorem cd_yX4_gorge : Cond.code yX4_gorge cX4_gorge 3 (some .int) ∈ TB := tbm 854 (rfl) rfl
theorem lk_X4_137 : Cond.methodLink RX4 137 yX4_statement ∈ TB := tbm 855 (by decide +kernel) rfl
theorem im_yX4_statement : Cond.instanceMethod yX4_statement ∈ TB := tbm 857 (by decide +kernel) rfl
set_option maxRecDepth 50000 in
theorem cd_yX4_statement : Cond.code yX4_statement cX4_statement 2 (some .boolean) ∈ TB := tbm 858 (rfl) rfl
theorem lk_X4_92 : Cond.methodLink RX4 92 yX4_next ∈ TB := tbm 859 (by decide +kernel) rfl
theorem im_yX4_next : Cond.instanceMethod yX4_next ∈ TB := tbm 861 (by decide +kernel) rfl
set_option maxRecDepth 50000 in
theorem cd_yX4_next : Cond.code yX4_next cX4_next 1 (some .int) ∈ TB := tbm 862 (rfl) rfl
theorem lk_X4_107 : Cond.methodLink RX4 107 yX4_isLetter ∈ TB := tbm 863 (by decide +kernel) rfl
theorem st_yX4_isLetter : Cond.static yX4_isLetter ∈ TB := tbm 864 (by decide +kernel) rfl
set_option maxRecDepth 50000 in
theorem cd_yX4_isLetter : Cond.code yX4_isLetter cX4_isLetter 1 (some .boolean) ∈ TB := tbm 865 (rfl) rfl
theorem lk_X4_113 : Cond.methodLink RX4 113 yX4_readsAll ∈ TB := tbm 866 (by decide +kernel) rfl
theorem im_yX4_readsAll : Cond.instanceMethod yX4_readsAll ∈ TB := tbm 868 (by decide +kernel) rfl
set_option maxRecDepth 50000 in
theorem cd_yX4_readsAll : Cond.code yX4_readsAll cX4_readsAll 3 (some .boolean) ∈ TB := tbm 869 (rfl) rfl
theorem lk_X4_103 : Cond.methodLink RX4 103 yX4_readsCaller ∈ TB := tbm 870 (by decide +kernel) rfl
theorem im_yX4_readsCaller : Cond.instanceMethod yX4_readsCaller ∈ TB := tbm 872 (by decide +kernel) rfl
set_option maxRecDepth 50000 in
theorem cd_yX4_readsCaller : Cond.code yX4_readsCaller cX4_readsCaller 2 (some .boolean) ∈ TB := tbm 873 (rfl) rfl
theorem lk_X4_96 : Cond.methodLink RX4 96 yX4_kindOf ∈ TB := tbm 874 (by decide +kernel) rfl
theorem st_yX4_kindOf : Cond.static yX4_kindOf ∈ TB := tbm 875 (by decide +kernel) rfl
set_option maxRecDepth 50000 in
theorem cd_yX4_kindOf : Cond.code yX4_kindOf cX4_kindOf 1 (some .int) ∈ TB := tbm 876 (rfl) rfl
theorem lk_X4_99 : Cond.methodLink RX4 99 yX4_readsDigits ∈ TB := tbm 877 (by decide +kernel) rfl
theorem im_yX4_readsDigits : Cond.instanceMethod yX4_readsDigits ∈ TB := tbm 879 (by decide +kernel) rfl
set_option maxRecDepth 50000 in
theorem cd_yX4_readsDigits : Cond.code yX4_readsDigits cX4_readsDigits 5 (some .boolean) ∈ TB := tbm 880 (rfl) rfl
theorem lk_X4_74 : Cond.methodLink RX4 74 yX4_isIn ∈ TB := tbm 881 (by decide +kernel) rfl
theorem st_yX4_isIn : Cond.static yX4_isIn ∈ TB := tbm 882 (by decide +kernel) rfl
set_option maxRecDepth 50000 in
theorem cd_yX4_isIn : Cond.code yX4_isIn cX4_isIn 3 (some .boolean) ∈ TB := tbm 883 (rfl) rfl
theorem lk_X4_141 : Cond.methodLink RX4 141 yX4_passesAll ∈ TB := tbm 884 (by decide +kernel) rfl
theorem im_yX4_passesAll : Cond.instanceMethod yX4_passesAll ∈ TB := tbm 886 (by decide +kernel) rfl
set_option maxRecDepth 50000 in
theorem cd_yX4_passesAll : Cond.code yX4_passesAll cX4_passesAll 3 none ∈ TB := tbm 887 (rfl) rfl
theorem lk_X4_155 : Cond.methodLink RX4 155 yX4_passes ∈ TB := tbm 888 (by decide +kernel) rfl
theorem im_yX4_passes : Cond.instanceMethod yX4_passes ∈ TB := tbm 890 (by decide +kernel) rfl
set_option maxRecDepth 50000 in
theorem cd_yX4_passes : Cond.code yX4_passes cX4_passes 3 none ∈ TB := tbm 891 (rfl) rfl
theorem lk_X4_159 : Cond.methodLink RX4 159 yX4_passOne ∈ TB := tbm 892 (by decide +kernel) rfl
theorem im_yX4_passOne : Cond.instanceMethod yX4_passOne ∈ TB := tbm 894 (by decide +kernel) rfl
set_option maxRecDepth 50000 in
theorem cd_yX4_passOne : Cond.code yX4_passOne cX4_passOne 3 (some .int) ∈ TB := tbm 895 (rfl) rfl
theorem lk_X4_145 : Cond.methodLink RX4 145 yX4_comes ∈ TB := tbm 896 (by decide +kernel) rfl
theorem im_yX4_comes : Cond.instanceMethod yX4_comes ∈ TB := tbm 898 (by decide +kernel) rfl
set_option maxRecDepth 50000 in
theorem cd_yX4_comes : Cond.code yX4_comes cX4_comes 4 (some .boolean) ∈ TB := tbm 899 (rfl) rfl
theorem lk_X4_122 : Cond.methodLink RX4 122 yX4_comesCaller ∈ TB := tbm 900 (by decide +kernel) rfl
theorem im_yX4_comesCaller : Cond.instanceMethod yX4_comesCaller ∈ TB := tbm 902 (by decide +kernel) rfl
set_option maxRecDepth 50000 in
theorem cd_yX4_comesCaller : Cond.code yX4_comesCaller cX4_comesCaller 2 (some .boolean) ∈ TB := tbm 903 (rfl) rfl
theorem lk_X4_116 : Cond.methodLink RX4 116 yX4_isWord ∈ TB := tbm 904 (by decide +kernel) rfl
theorem st_yX4_isWord : Cond.static yX4_isWord ∈ TB := tbm 905 (by decide +kernel) rfl
set_option maxRecDepth 50000 in
theorem cd_yX4_isWord : Cond.code yX4_isWord cX4_isWord 1 (some .boolean) ∈ TB := tbm 906 (rfl) rfl
theorem lk_X4_125 : Cond.methodLink RX4 125 yX4_comesSet ∈ TB := tbm 907 (by decide +kernel) rfl
theorem im_yX4_comesSet : Cond.instanceMethod yX4_comesSet ∈ TB := tbm 909 (by decide +kernel) rfl
set_option maxRecDepth 50000 in
theorem cd_yX4_comesSet : Cond.code yX4_comesSet cX4_comesSet 3 (some .boolean) ∈ TB := tbm 910 (rfl) rfl
theorem lk_X4_119 : Cond.methodLink RX4 119 yX4_isSetting ∈ TB := tbm 911 (by decide +kernel) rfl
theorem st_yX4_isSetting : Cond.static yX4_isSetting ∈ TB := tbm 912 (by decide +kernel) rfl
set_option maxRecDepth 50000 in
theorem cd_yX4_isSetting : Cond.code yX4_isSetting cX4_isSetting 2 (some .boolean) ∈ TB := tbm 913 (rfl) rfl
theorem lk_X4_128 : Cond.methodLink RX4 128 yX4_isCaller ∈ TB := tbm 914 (by decide +kernel) rfl
theorem im_yX4_isCaller : Cond.instanceMethod yX4_isCaller ∈ TB := tbm 916 (by decide +kernel) rfl
set_option maxRecDepth 50000 in
theorem cd_yX4_isCaller : Cond.code yX4_isCaller cX4_isCaller 2 (some .boolean) ∈ TB := tbm 917 (rfl) rfl
theorem lk_X4_134 : Cond.methodLink RX4 134 yX4_goes ∈ TB := tbm 918 (by decide +kernel) rfl
theorem im_yX4_goes : Cond.instanceMethod yX4_goes ∈ TB := tbm 920 (by decide +kernel) rfl
set_option maxRecDepth 50000 in
theorem cd_yX4_goes : Cond.code yX4_goes cX4_goes 3 (some .int) ∈ TB := tbm 921 (rfl) rfl
theorem lk_X4_215 : Cond.methodLink RX4 215 yX4_begins ∈ TB := tbm 922 (by decide +kernel) rfl
theorem im_yX4_begins : Cond.instanceMethod yX4_begins ∈ TB := tbm 924 (by decide +kernel) rfl
set_option maxRecDepth 50000 in
theorem cd_yX4_begins : Cond.code yX4_begins cX4_begins 2 none ∈ TB := tbm 925 (rfl) rfl
theorem lk_X4_218 : Cond.methodLink RX4 218 yX4_goesDay ∈ TB := tbm 926 (by decide +kernel) rfl
theorem im_yX4_goesDay : Cond.instanceMethod yX4_goesDay ∈ TB := tbm 928 (by decide +kernel) rfl
set_option maxRecDepth 50000 in
theorem cd_yX4_goesDay : Cond.code yX4_goesDay cX4_goesDay 3 none ∈ TB := tbm 929 (rfl) rfl
theorem lk_X4_208 : Cond.methodLink RX4 208 yX4_has ∈ TB := tbm 930 (by decide +kernel) rfl
theorem st_yX4_has : Cond.static yX4_has ∈ TB := tbm 931 (by decide +kernel) rfl
set_option maxRecDepth 50000 in
theorem cd_yX4_has : Cond.code yX4_has cX4_has 2 (some .boolean) ∈ TB := tbm 932 (rfl) rfl
theorem lk_X4_211 : Cond.methodLink RX4 211 yX4_calls ∈ TB := tbm 933 (by decide +kernel) rfl
theorem im_yX4_calls : Cond.instanceMethod yX4_calls ∈ TB := tbm 935 (by decide +kernel) rfl
set_option maxRecDepth 50000 in
theorem cd_yX4_calls : Cond.code yX4_calls cX4_calls 3 none ∈ TB := tbm 936 (rfl) rfl
theorem lk_X4_186 : Cond.methodLink RX4 186 yX4_isAnswered ∈ TB := tbm 937 (by decide +kernel) rfl
theorem im_yX4_isAnswered : Cond.instanceMethod yX4_isAnswered ∈ TB := tbm 939 (by decide +kernel) rfl
set_option maxRecDepth 50000 in
theorem cd_yX4_isAnswered : Cond.code yX4_isAnswered cX4_isAnswered 3 (some .boolean) ∈ TB := tbm 940 (rfl) rfl
theorem lk_X4_168 : Cond.methodLink RX4 168 yX4_isSilent ∈ TB := tbm 941 (by decide +kernel) rfl
theorem im_yX4_isSilent : Cond.instanceMethod yX4_isSilent ∈ TB := tbm 943 (by decide +kernel) rfl
set_option maxRecDepth 50000 in
theorem cd_yX4_isSilent : Cond.code yX4_isSilent cX4_isSilent 1 (some .boolean) ∈ TB := tbm 944 (rfl) rfl
theorem lk_X4_171 : Cond.methodLink RX4 171 yX4_reach ∈ TB := tbm 945 (by decide +kernel) rfl
theorem im_yX4_reach : Cond.instanceMethod yX4_reach ∈ TB := tbm 947 (by decide +kernel) rfl
set_option maxRecDepth 50000 in
theorem cd_yX4_reach : Cond.code yX4_reach cX4_reach 2 (some .int) ∈ TB := tbm 948 (rfl) rfl
theorem lk_X4_189 : Cond.methodLink RX4 189 yX4_hurts ∈ TB := tbm 949 (by decide +kernel) rfl
theorem im_yX4_hurts : Cond.instanceMethod yX4_hurts ∈ TB := tbm 951 (by decide +kernel) rfl
set_option maxRecDepth 50000 in
theorem cd_yX4_hurts : Cond.code yX4_hurts cX4_hurts 2 (some .int) ∈ TB := tbm 952 (rfl) rfl
theorem lk_X4_192 : Cond.methodLink RX4 192 yX4_hurt ∈ TB := tbm 953 (by decide +kernel) rfl
theorem im_yX4_hurt : Cond.instanceMethod yX4_hurt ∈ TB := tbm 955 (by decide +kernel) rfl
set_option maxRecDepth 50000 in
theorem cd_yX4_hurt : Cond.code yX4_hurt cX4_hurt 3 none ∈ TB := tbm 956 (rfl) rfl
theorem lk_X4_199 : Cond.methodLink RX4 199 yX4_wordFor ∈ TB := tbm 957 (by decide +kernel) rfl
theorem im_yX4_wordFor : Cond.instanceMethod yX4_wordFor ∈ TB := tbm 959 (by decide +kernel) rfl
set_option maxRecDepth 50000 in
theorem cd_yX4_wordFor : Cond.code yX4_wordFor cX4_wordFor 3 (some .int) ∈ TB := tbm 960 (rfl) rfl
theorem lk_X4_165 : Cond.methodLink RX4 165 yX4_bestBut ∈ TB := tbm 961 (by decide +kernel) rfl
theorem im_yX4_bestBut : Cond.instanceMethod yX4_bestBut ∈ TB := tbm 963 (by decide +kernel) rfl
set_option maxRecDepth 50000 in
theorem cd_yX4_bestBut : Cond.code yX4_bestBut cX4_bestBut 4 (some .int) ∈ TB := tbm 964 (rfl) rfl
theorem lk_X4_202 : Cond.methodLink RX4 202 yX4_teaches ∈ TB := tbm 965 (by decide +kernel) rfl
theorem im_yX4_teaches : Cond.instanceMethod yX4_teaches ∈ TB := tbm 967 (by decide +kernel) rfl
set_option maxRecDepth 50000 in
theorem cd_yX4_teaches : Cond.code yX4_teaches cX4_teaches 2 (some .int) ∈ TB := tbm 968 (rfl) rfl
theorem lk_L_152 : Cond.methodLink RL 152 yX4_image ∈ TB := tbm 969 (by decide +kernel) rfl
theorem im_yX4_image : Cond.instanceMethod yX4_image ∈ TB := tbm 970 (by decide +kernel) rfl
theorem sel_yX4_image : Cond.selects RX4 yX4_image yX4_image ∈ TB := tbm 971 (by decide +kernel) rfl
set_option maxRecDepth 50000 in
theorem cd_yX4_image : Cond.code yX4_image cX4_image 1 (some .int) ∈ TB := tbm 972 (rfl) rfl
theorem lk_L_156 : Cond.methodLink RL 156 yX4_on ∈ TB := tbm 973 (by decide +kernel) rfl
theorem im_yX4_on : Cond.instanceMethod yX4_on ∈ TB := tbm 974 (by decide +kernel) rfl
theorem sel_yX4_on : Cond.selects RX4 yX4_on yX4_on ∈ TB := tbm 975 (by decide +kernel) rfl
set_option maxRecDepth 50000 in
theorem cd_yX4_on : Cond.code yX4_on cX4_on 1 (some .int) ∈ TB := tbm 976 (rfl) rfl
theorem lk_L_27 : Cond.methodLink RL 27 yX4_caller ∈ TB := tbm 977 (by decide +kernel) rfl
theorem im_yX4_caller : Cond.instanceMethod yX4_caller ∈ TB := tbm 978 (by decide +kernel) rfl
theorem sel_yX4_caller : Cond.selects RX4 yX4_caller yX4_caller ∈ TB := tbm 979 (by decide +kernel) rfl
set_option maxRecDepth 50000 in
theorem cd_yX4_caller : Cond.code yX4_caller cX4_caller 3 (some .int) ∈ TB := tbm 980 (rfl) rfl
theorem lk_L_31 : Cond.methodLink RL 31 yX4_known ∈ TB := tbm 981 (by decide +kernel) rfl
theorem im_yX4_known : Cond.instanceMethod yX4_known ∈ TB := tbm 982 (by decide +kernel) rfl
theorem sel_yX4_known : Cond.selects RX4 yX4_known yX4_known ∈ TB := tbm 983 (by decide +kernel) rfl
set_option maxRecDepth 50000 in
theorem cd_yX4_known : Cond.code yX4_known cX4_known 2 (some .int) ∈ TB := tbm 984 (rfl) rfl
theorem lk_L_35 : Cond.methodLink RL 35 yX4_learn ∈ TB := tbm 985 (by decide +kernel) rfl
theorem im_yX4_learn : Cond.instanceMethod yX4_learn ∈ TB := tbm 986 (by decide +kernel) rfl
theorem sel_yX4_learn : Cond.selects RX4 yX4_learn yX4_learn ∈ TB := tbm 987 (by decide +kernel) rfl
set_option maxRecDepth 50000 in
theorem cd_yX4_learn : Cond.code yX4_learn cX4_learn 5 (some .int) ∈ TB := tbm 988 (rfl) rfl
theorem lk_L_39 : Cond.methodLink RL 39 yX4_set ∈ TB := tbm 989 (by decide +kernel) rfl
theorem im_yX4_set : Cond.instanceMethod yX4_set ∈ TB := tbm 990 (by decide +kernel) rfl
theorem sel_yX4_set : Cond.selects RX4 yX4_set yX4_set ∈ TB := tbm 991 (by decide +kernel) rfl
set_option maxRecDepth 50000 in
theorem cd_yX4_set : Cond.code yX4_set cX4_set 5 (some .int) ∈ TB := tbm 992 (rfl) rfl
theorem lk_L_43 : Cond.methodLink RL 43 yX4_hour ∈ TB := tbm 993 (by decide +kernel) rfl
theorem im_yX4_hour : Cond.instanceMethod yX4_hour ∈ TB := tbm 994 (by decide +kernel) rfl
theorem sel_yX4_hour : Cond.selects RX4 yX4_hour yX4_hour ∈ TB := tbm 995 (by decide +kernel) rfl
set_option maxRecDepth 50000 in
theorem cd_yX4_hour : Cond.code yX4_hour cX4_hour 5 (some .int) ∈ TB := tbm 996 (rfl) rfl
theorem lk_L_47 : Cond.methodLink RL 47 yX4_days ∈ TB := tbm 997 (by decide +kernel) rfl
theorem im_yX4_days : Cond.instanceMethod yX4_days ∈ TB := tbm 998 (by decide +kernel) rfl
theorem sel_yX4_days : Cond.selects RX4 yX4_days yX4_days ∈ TB := tbm 999 (by decide +kernel) rfl
set_option maxRecDepth 50000 in
theorem cd_yX4_days : Cond.code yX4_days cX4_days 3 (some .int) ∈ TB := tbm 1000 (rfl) rfl
theorem lk_L_51 : Cond.methodLink RL 51 yX4_answers ∈ TB := tbm 1001 (by decide +kernel) rfl
theorem im_yX4_answers : Cond.instanceMethod yX4_answers ∈ TB := tbm 1002 (by decide +kernel) rfl
theorem sel_yX4_answers : Cond.selects RX4 yX4_answers yX4_answers ∈ TB := tbm 1003 (by decide +kernel) rfl
set_option maxRecDepth 50000 in
theorem cd_yX4_answers : Cond.code yX4_answers cX4_answers 2 (some .int) ∈ TB := tbm 1004 (rfl) rfl
theorem lk_L_55 : Cond.methodLink RL 55 yX4_says ∈ TB := tbm 1005 (by decide +kernel) rfl
theorem im_yX4_says : Cond.instanceMethod yX4_says ∈ TB := tbm 1006 (by decide +kernel) rfl
theorem sel_yX4_says : Cond.selects RX4 yX4_says yX4_says ∈ TB := tbm 1007 (by decide +kernel) rfl
set_option maxRecDepth 50000 in
theorem cd_yX4_says : Cond.code yX4_says cX4_says 2 (some .int) ∈ TB := tbm 1008 (rfl) rfl
theorem lk_L_59 : Cond.methodLink RL 59 yX4_behind ∈ TB := tbm 1009 (by decide +kernel) rfl
theorem im_yX4_behind : Cond.instanceMethod yX4_behind ∈ TB := tbm 1010 (by decide +kernel) rfl
theorem sel_yX4_behind : Cond.selects RX4 yX4_behind yX4_behind ∈ TB := tbm 1011 (by decide +kernel) rfl
set_option maxRecDepth 50000 in
theorem cd_yX4_behind : Cond.code yX4_behind cX4_behind 4 (some .int) ∈ TB := tbm 1012 (rfl) rfl
theorem lk_X4_224 : Cond.methodLink RX4 224 yX4_notDays ∈ TB := tbm 1013 (by decide +kernel) rfl
theorem st_yX4_notDays : Cond.static yX4_notDays ∈ TB := tbm 1014 (by decide +kernel) rfl
set_option maxRecDepth 50000 in
theorem cd_yX4_notDays : Cond.code yX4_notDays cX4_notDays 1 (some .int) ∈ TB := tbm 1015 (rfl) rfl
theorem lk_X4_227 : Cond.methodLink RX4 227 yX4_thinks ∈ TB := tbm 1016 (by decide +kernel) rfl
theorem im_yX4_thinks : Cond.instanceMethod yX4_thinks ∈ TB := tbm 1018 (by decide +kernel) rfl
set_option maxRecDepth 50000 in
theorem cd_yX4_thinks : Cond.code yX4_thinks cX4_thinks 3 none ∈ TB := tbm 1019 (rfl) rfl
theorem lk_X4_221 : Cond.methodLink RX4 221 yX4_sum ∈ TB := tbm 1020 (by decide +kernel) rfl
theorem im_yX4_sum : Cond.instanceMethod yX4_sum ∈ TB := tbm 1022 (by decide +kernel) rfl
set_option maxRecDepth 50000 in
theorem cd_yX4_sum : Cond.code yX4_sum cX4_sum 3 (some .int) ∈ TB := tbm 1023 (rfl) rfl
theorem lk_L_63 : Cond.methodLink RL 63 yX4_knownIn ∈ TB := tbm 1024 (by decide +kernel) rfl
theorem im_yX4_knownIn : Cond.instanceMethod yX4_knownIn ∈ TB := tbm 1025 (by decide +kernel) rfl
theorem sel_yX4_knownIn : Cond.selects RX4 yX4_knownIn yX4_knownIn ∈ TB := tbm 1026 (by decide +kernel) rfl
set_option maxRecDepth 50000 in
theorem cd_yX4_knownIn : Cond.code yX4_knownIn cX4_knownIn 4 (some .int) ∈ TB := tbm 1027 (rfl) rfl
theorem lk_L_68 : Cond.methodLink RL 68 yX4_of ∈ TB := tbm 1028 (by decide +kernel) rfl
theorem im_yX4_of : Cond.instanceMethod yX4_of ∈ TB := tbm 1029 (by decide +kernel) rfl
theorem sel_yX4_of : Cond.selects RX4 yX4_of yX4_of ∈ TB := tbm 1030 (by decide +kernel) rfl
set_option maxRecDepth 50000 in
theorem cd_yX4_of : Cond.code yX4_of cX4_of 5 (some .int) ∈ TB := tbm 1031 (rfl) rfl
theorem lk_L_72 : Cond.methodLink RL 72 yX4_knows ∈ TB := tbm 1032 (by decide +kernel) rfl
theorem im_yX4_knows : Cond.instanceMethod yX4_knows ∈ TB := tbm 1033 (by decide +kernel) rfl
theorem sel_yX4_knows : Cond.selects RX4 yX4_knows yX4_knows ∈ TB := tbm 1034 (by decide +kernel) rfl
set_option maxRecDepth 50000 in
theorem cd_yX4_knows : Cond.code yX4_knows cX4_knows 5 (some .int) ∈ TB := tbm 1035 (rfl) rfl
theorem lk_L_76 : Cond.methodLink RL 76 yX4_silent ∈ TB := tbm 1036 (by decide +kernel) rfl
theorem im_yX4_silent : Cond.instanceMethod yX4_silent ∈ TB := tbm 1037 (by decide +kernel) rfl
theorem sel_yX4_silent : Cond.selects RX4 yX4_silent yX4_silent ∈ TB := tbm 1038 (by decide +kernel) rfl
set_option maxRecDepth 50000 in
theorem cd_yX4_silent : Cond.code yX4_silent cX4_silent 2 (some .int) ∈ TB := tbm 1039 (rfl) rfl
theorem lk_L_80 : Cond.methodLink RL 80 yX4_week ∈ TB := tbm 1040 (by decide +kernel) rfl
theorem im_yX4_week : Cond.instanceMethod yX4_week ∈ TB := tbm 1041 (by decide +kernel) rfl
theorem sel_yX4_week : Cond.selects RX4 yX4_week yX4_week ∈ TB := tbm 1042 (by decide +kernel) rfl
set_option maxRecDepth 50000 in
theorem cd_yX4_week : Cond.code yX4_week cX4_week 4 (some .int) ∈ TB := tbm 1043 (rfl) rfl
theorem lk_X4_239 : Cond.methodLink RX4 239 yX4_goesWeek ∈ TB := tbm 1044 (by decide +kernel) rfl
theorem im_yX4_goesWeek : Cond.instanceMethod yX4_goesWeek ∈ TB := tbm 1046 (by decide +kernel) rfl
set_option maxRecDepth 50000 in
theorem cd_yX4_goesWeek : Cond.code yX4_goesWeek cX4_goesWeek 3 none ∈ TB := tbm 1047 (rfl) rfl
theorem lk_L_84 : Cond.methodLink RL 84 yX4_bestWeek ∈ TB := tbm 1048 (by decide +kernel) rfl
theorem im_yX4_bestWeek : Cond.instanceMethod yX4_bestWeek ∈ TB := tbm 1049 (by decide +kernel) rfl
theorem sel_yX4_bestWeek : Cond.selects RX4 yX4_bestWeek yX4_bestWeek ∈ TB := tbm 1050 (by decide +kernel) rfl
set_option maxRecDepth 50000 in
theorem cd_yX4_bestWeek : Cond.code yX4_bestWeek cX4_bestWeek 7 (some .int) ∈ TB := tbm 1051 (rfl) rfl
theorem lk_X4_242 : Cond.methodLink RX4 242 yX4_laysWeek ∈ TB := tbm 1052 (by decide +kernel) rfl
theorem im_yX4_laysWeek : Cond.instanceMethod yX4_laysWeek ∈ TB := tbm 1054 (by decide +kernel) rfl
set_option maxRecDepth 50000 in
theorem cd_yX4_laysWeek : Cond.code yX4_laysWeek cX4_laysWeek 2 none ∈ TB := tbm 1055 (rfl) rfl
theorem lk_L_88 : Cond.methodLink RL 88 yX4_bestTune ∈ TB := tbm 1056 (by decide +kernel) rfl
theorem im_yX4_bestTune : Cond.instanceMethod yX4_bestTune ∈ TB := tbm 1057 (by decide +kernel) rfl
theorem sel_yX4_bestTune : Cond.selects RX4 yX4_bestTune yX4_bestTune ∈ TB := tbm 1058 (by decide +kernel) rfl
set_option maxRecDepth 50000 in
theorem cd_yX4_bestTune : Cond.code yX4_bestTune cX4_bestTune 5 (some .int) ∈ TB := tbm 1059 (rfl) rfl
theorem lk_X4_248 : Cond.methodLink RX4 248 yX4_answersByTune ∈ TB := tbm 1060 (by decide +kernel) rfl
theorem im_yX4_answersByTune : Cond.instanceMethod yX4_answersByTune ∈ TB := tbm 1062 (by decide +kernel) rfl
set_option maxRecDepth 50000 in
theorem cd_yX4_answersByTune : Cond.code yX4_answersByTune cX4_answersByTune 5 (some .int) ∈ TB := tbm 1063 (rfl) rfl
theorem lk_X4_245 : Cond.methodLink RX4 245 yX4_answersIn ∈ TB := tbm 1064 (by decide +kernel) rfl
theorem im_yX4_answersIn : Cond.instanceMethod yX4_answersIn ∈ TB := tbm 1066 (by decide +kernel) rfl
set_option maxRecDepth 50000 in
theorem cd_yX4_answersIn : Cond.code yX4_answersIn cX4_answersIn 2 (some .int) ∈ TB := tbm 1067 (rfl) rfl
theorem lk_L_92 : Cond.methodLink RL 92 yX4_worst ∈ TB := tbm 1068 (by decide +kernel) rfl
theorem im_yX4_worst : Cond.instanceMethod yX4_worst ∈ TB := tbm 1069 (by decide +kernel) rfl
theorem sel_yX4_worst : Cond.selects RX4 yX4_worst yX4_worst ∈ TB := tbm 1070 (by decide +kernel) rfl
set_option maxRecDepth 50000 in
theorem cd_yX4_worst : Cond.code yX4_worst cX4_worst 7 (some .int) ∈ TB := tbm 1071 (rfl) rfl
theorem lk_X4_252 : Cond.methodLink RX4 252 yX4_hurtWithout ∈ TB := tbm 1072 (by decide +kernel) rfl
theorem im_yX4_hurtWithout : Cond.instanceMethod yX4_hurtWithout ∈ TB := tbm 1074 (by decide +kernel) rfl
set_option maxRecDepth 50000 in
theorem cd_yX4_hurtWithout : Cond.code yX4_hurtWithout cX4_hurtWithout 3 (some .int) ∈ TB := tbm 1075 (rfl) rfl
theorem lk_L_96 : Cond.methodLink RL 96 yX4_bestHour ∈ TB := tbm 1076 (by decide +kernel) rfl
theorem im_yX4_bestHour : Cond.instanceMethod yX4_bestHour ∈ TB := tbm 1077 (by decide +kernel) rfl
theorem sel_yX4_bestHour : Cond.selects RX4 yX4_bestHour yX4_bestHour ∈ TB := tbm 1078 (by decide +kernel) rfl
set_option maxRecDepth 50000 in
theorem cd_yX4_bestHour : Cond.code yX4_bestHour cX4_bestHour 6 (some .int) ∈ TB := tbm 1079 (rfl) rfl
theorem lk_X4_255 : Cond.methodLink RX4 255 yX4_answersAt ∈ TB := tbm 1080 (by decide +kernel) rfl
theorem im_yX4_answersAt : Cond.instanceMethod yX4_answersAt ∈ TB := tbm 1082 (by decide +kernel) rfl
set_option maxRecDepth 50000 in
theorem cd_yX4_answersAt : Cond.code yX4_answersAt cX4_answersAt 6 (some .int) ∈ TB := tbm 1083 (rfl) rfl
theorem lk_L_100 : Cond.methodLink RL 100 yX4_keepAway ∈ TB := tbm 1084 (by decide +kernel) rfl
theorem im_yX4_keepAway : Cond.instanceMethod yX4_keepAway ∈ TB := tbm 1085 (by decide +kernel) rfl
theorem sel_yX4_keepAway : Cond.selects RX4 yX4_keepAway yX4_keepAway ∈ TB := tbm 1086 (by decide +kernel) rfl
set_option maxRecDepth 50000 in
theorem cd_yX4_keepAway : Cond.code yX4_keepAway cX4_keepAway 6 (some .int) ∈ TB := tbm 1087 (rfl) rfl
theorem lk_X4_258 : Cond.methodLink RX4 258 yX4_bits ∈ TB := tbm 1088 (by decide +kernel) rfl
theorem st_yX4_bits : Cond.static yX4_bits ∈ TB := tbm 1089 (by decide +kernel) rfl
set_option maxRecDepth 50000 in
theorem cd_yX4_bits : Cond.code yX4_bits cX4_bits 3 (some .int) ∈ TB := tbm 1090 (rfl) rfl
theorem lk_X4_261 : Cond.methodLink RX4 261 yX4_staysAwake ∈ TB := tbm 1091 (by decide +kernel) rfl
theorem im_yX4_staysAwake : Cond.instanceMethod yX4_staysAwake ∈ TB := tbm 1093 (by decide +kernel) rfl
set_option maxRecDepth 50000 in
theorem cd_yX4_staysAwake : Cond.code yX4_staysAwake cX4_staysAwake 5 (some .boolean) ∈ TB := tbm 1094 (rfl) rfl
theorem lk_L_104 : Cond.methodLink RL 104 yX4_might ∈ TB := tbm 1095 (by decide +kernel) rfl
theorem im_yX4_might : Cond.instanceMethod yX4_might ∈ TB := tbm 1096 (by decide +kernel) rfl
theorem sel_yX4_might : Cond.selects RX4 yX4_might yX4_might ∈ TB := tbm 1097 (by decide +kernel) rfl
set_option maxRecDepth 50000 in
theorem cd_yX4_might : Cond.code yX4_might cX4_might 3 (some .int) ∈ TB := tbm 1098 (rfl) rfl
theorem lk_L_108 : Cond.methodLink RL 108 yX4_never ∈ TB := tbm 1099 (by decide +kernel) rfl
theorem im_yX4_never : Cond.instanceMethod yX4_never ∈ TB := tbm 1100 (by decide +kernel) rfl
theorem sel_yX4_never : Cond.selects RX4 yX4_never yX4_never ∈ TB := tbm 1101 (by decide +kernel) rfl
set_option maxRecDepth 50000 in
theorem cd_yX4_never : Cond.code yX4_never cX4_never 3 (some .int) ∈ TB := tbm 1102 (rfl) rfl
theorem lk_L_112 : Cond.methodLink RL 112 yX4_whose ∈ TB := tbm 1103 (by decide +kernel) rfl
theorem im_yX4_whose : Cond.instanceMethod yX4_whose ∈ TB := tbm 1104 (by decide +kernel) rfl
theorem sel_yX4_whose : Cond.selects RX4 yX4_whose yX4_whose ∈ TB := tbm 1105 (by decide +kernel) rfl
set_option maxRecDepth 50000 in
theorem cd_yX4_whose : Cond.code yX4_whose cX4_whose 4 (some .int) ∈ TB := tbm 1106 (rfl) rfl
theorem lk_L_116 : Cond.methodLink RL 116 yX4_tellsMost ∈ TB := tbm 1107 (by decide +kernel) rfl
theorem im_yX4_tellsMost : Cond.instanceMethod yX4_tellsMost ∈ TB := tbm 1108 (by decide +kernel) rfl
theorem sel_yX4_tellsMost : Cond.selects RX4 yX4_tellsMost yX4_tellsMost ∈ TB := tbm 1109 (by decide +kernel) rfl
set_option maxRecDepth 50000 in
theorem cd_yX4_tellsMost : Cond.code yX4_tellsMost cX4_tellsMost 3 (some .int) ∈ TB := tbm 1110 (rfl) rfl
theorem lk_X4_264 : Cond.methodLink RX4 264 yX4_alikeMany ∈ TB := tbm 1111 (by decide +kernel) rfl
theorem im_yX4_alikeMany : Cond.instanceMethod yX4_alikeMany ∈ TB := tbm 1113 (by decide +kernel) rfl
set_option maxRecDepth 50000 in
theorem cd_yX4_alikeMany : Cond.code yX4_alikeMany cX4_alikeMany 4 (some .int) ∈ TB := tbm 1114 (rfl) rfl
theorem lk_L_120 : Cond.methodLink RL 120 yX4_byTurns ∈ TB := tbm 1115 (by decide +kernel) rfl
theorem im_yX4_byTurns : Cond.instanceMethod yX4_byTurns ∈ TB := tbm 1116 (by decide +kernel) rfl
theorem sel_yX4_byTurns : Cond.selects RX4 yX4_byTurns yX4_byTurns ∈ TB := tbm 1117 (by decide +kernel) rfl
set_option maxRecDepth 50000 in
theorem cd_yX4_byTurns : Cond.code yX4_byTurns cX4_byTurns 8 (some .int) ∈ TB := tbm 1118 (rfl) rfl
theorem lk_X4_267 : Cond.methodLink RX4 267 yX4_hourOf ∈ TB := tbm 1119 (by decide +kernel) rfl
theorem st_yX4_hourOf : Cond.static yX4_hourOf ∈ TB := tbm 1120 (by decide +kernel) rfl
set_option maxRecDepth 50000 in
theorem cd_yX4_hourOf : Cond.code yX4_hourOf cX4_hourOf 1 (some .int) ∈ TB := tbm 1121 (rfl) rfl
theorem lk_X4_270 : Cond.methodLink RX4 270 yX4_rests ∈ TB := tbm 1122 (by decide +kernel) rfl
theorem im_yX4_rests : Cond.instanceMethod yX4_rests ∈ TB := tbm 1124 (by decide +kernel) rfl
set_option maxRecDepth 50000 in
theorem cd_yX4_rests : Cond.code yX4_rests cX4_rests 2 (some .boolean) ∈ TB := tbm 1125 (rfl) rfl
theorem lk_L_124 : Cond.methodLink RL 124 yX4_snow ∈ TB := tbm 1126 (by decide +kernel) rfl
theorem im_yX4_snow : Cond.instanceMethod yX4_snow ∈ TB := tbm 1127 (by decide +kernel) rfl
theorem sel_yX4_snow : Cond.selects RX4 yX4_snow yX4_snow ∈ TB := tbm 1128 (by decide +kernel) rfl
set_option maxRecDepth 50000 in
theorem cd_yX4_snow : Cond.code yX4_snow cX4_snow 4 (some .int) ∈ TB := tbm 1129 (rfl) rfl
theorem lk_L_128 : Cond.methodLink RL 128 yX4_heals ∈ TB := tbm 1130 (by decide +kernel) rfl
theorem im_yX4_heals : Cond.instanceMethod yX4_heals ∈ TB := tbm 1131 (by decide +kernel) rfl
theorem sel_yX4_heals : Cond.selects RX4 yX4_heals yX4_heals ∈ TB := tbm 1132 (by decide +kernel) rfl
set_option maxRecDepth 50000 in
theorem cd_yX4_heals : Cond.code yX4_heals cX4_heals 4 (some .int) ∈ TB := tbm 1133 (rfl) rfl
theorem lk_L_132 : Cond.methodLink RL 132 yX4_row ∈ TB := tbm 1134 (by decide +kernel) rfl
theorem im_yX4_row : Cond.instanceMethod yX4_row ∈ TB := tbm 1135 (by decide +kernel) rfl
theorem sel_yX4_row : Cond.selects RX4 yX4_row yX4_row ∈ TB := tbm 1136 (by decide +kernel) rfl
set_option maxRecDepth 50000 in
theorem cd_yX4_row : Cond.code yX4_row cX4_row 3 (some .int) ∈ TB := tbm 1137 (rfl) rfl
theorem lk_L_136 : Cond.methodLink RL 136 yX4_fits ∈ TB := tbm 1138 (by decide +kernel) rfl
theorem im_yX4_fits : Cond.instanceMethod yX4_fits ∈ TB := tbm 1139 (by decide +kernel) rfl
theorem sel_yX4_fits : Cond.selects RX4 yX4_fits yX4_fits ∈ TB := tbm 1140 (by decide +kernel) rfl
set_option maxRecDepth 50000 in
theorem cd_yX4_fits : Cond.code yX4_fits cX4_fits 4 (some .int) ∈ TB := tbm 1141 (rfl) rfl
theorem lk_X4_273 : Cond.methodLink RX4 273 yX4_firstOther ∈ TB := tbm 1142 (by decide +kernel) rfl
theorem im_yX4_firstOther : Cond.instanceMethod yX4_firstOther ∈ TB := tbm 1144 (by decide +kernel) rfl
set_option maxRecDepth 50000 in
theorem cd_yX4_firstOther : Cond.code yX4_firstOther cX4_firstOther 2 (some .int) ∈ TB := tbm 1145 (rfl) rfl
theorem lk_L_140 : Cond.methodLink RL 140 yX4_judge ∈ TB := tbm 1146 (by decide +kernel) rfl
theorem im_yX4_judge : Cond.instanceMethod yX4_judge ∈ TB := tbm 1147 (by decide +kernel) rfl
theorem sel_yX4_judge : Cond.selects RX4 yX4_judge yX4_judge ∈ TB := tbm 1148 (by decide +kernel) rfl
set_option maxRecDepth 50000 in
theorem cd_yX4_judge : Cond.code yX4_judge cX4_judge 2 (some .int) ∈ TB := tbm 1149 (rfl) rfl
theorem lk_L_144 : Cond.methodLink RL 144 yX4_clear ∈ TB := tbm 1150 (by decide +kernel) rfl
theorem im_yX4_clear : Cond.instanceMethod yX4_clear ∈ TB := tbm 1151 (by decide +kernel) rfl
theorem sel_yX4_clear : Cond.selects RX4 yX4_clear yX4_clear ∈ TB := tbm 1152 (by decide +kernel) rfl
set_option maxRecDepth 50000 in
theorem cd_yX4_clear : Cond.code yX4_clear cX4_clear 2 (some .int) ∈ TB := tbm 1153 (rfl) rfl
theorem lk_L_148 : Cond.methodLink RL 148 yX4_lots ∈ TB := tbm 1154 (by decide +kernel) rfl
theorem im_yX4_lots : Cond.instanceMethod yX4_lots ∈ TB := tbm 1155 (by decide +kernel) rfl
theorem sel_yX4_lots : Cond.selects RX4 yX4_lots yX4_lots ∈ TB := tbm 1156 (by decide +kernel) rfl
set_option maxRecDepth 50000 in
theorem cd_yX4_lots : Cond.code yX4_lots cX4_lots 10 (some .int) ∈ TB := tbm 1157 (rfl) rfl
theorem cst_X4_276 : Cond.constant RX4 276 (1664525) ∈ TB := tbm 1158 (by decide +kernel) rfl
theorem cst_X4_277 : Cond.constant RX4 277 (1013904223) ∈ TB := tbm 1159 (by decide +kernel) rfl
theorem cst_X4_278 : Cond.constant RX4 278 (2147483647) ∈ TB := tbm 1160 (by decide +kernel) rfl
theorem lk_L_160 : Cond.methodLink RL 160 yX4_count ∈ TB := tbm 1161 (by decide +kernel) rfl
theorem im_yX4_count : Cond.instanceMethod yX4_count ∈ TB := tbm 1162 (by decide +kernel) rfl
theorem sel_yX4_count : Cond.selects RX4 yX4_count yX4_count ∈ TB := tbm 1163 (by decide +kernel) rfl
set_option maxRecDepth 50000 in
theorem cd_yX4_count : Cond.code yX4_count cX4_count 2 (some .int) ∈ TB := tbm 1164 (rfl) rfl
theorem fl_J0_9 : Cond.fieldLink RJ0 9 "java/lang/String" "value" "[B" ∈ TB := tbm 1165 (by decide +kernel) rfl
theorem fl_J0_15 : Cond.fieldLink RJ0 15 "java/lang/String" "coder" "B" ∈ TB := tbm 1166 (by decide +kernel) rfl
