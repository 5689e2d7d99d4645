def TB : List Cond := lw_tbl.filter goodWord
theorem tb_of {w : Cond} (h : w ∈ lw_tbl) (g : goodWord w = true) : w ∈ TB := List.mem_filter.mpr ⟨h, g⟩
theorem tb_good {w : Cond} (h : w ∈ TB) : (w.onTables && w.keeps) = true ∨ ∃ ty, w = .arrayClass ty := good_of_word (List.mem_filter.mp h).2
theorem tbG {c : Cond} (h : c ∈ TB) : GoodIn TB (c :: TB) := fun w hw => (List.mem_cons.mp hw).elim (fun e => e ▸ ⟨h, tb_good h⟩) (fun h => ⟨h, tb_good h⟩)
theorem tb_sub {args : Array Value} {s : State} (h : ∀ w ∈ lw_tbl, w.before args s = true) : ∀ w ∈ TB, w.before args s = true := fun w hw => h w (List.mem_filter.mp hw).1
theorem ws_X7_hasTank : Cond.selects RX7 yX7_hasTank yX7_hasTank ∈ TB := tb_of (List.mem_of_getElem? (i := 0) rfl) rfl
theorem ws_X7_attempt : Cond.selects RX7 yX7_attempt yX7_attempt ∈ TB := tb_of (List.mem_of_getElem? (i := 1) rfl) rfl
theorem ws_X7_earlierAt : Cond.selects RX7 yX7_earlierAt yX7_earlierAt ∈ TB := tb_of (List.mem_of_getElem? (i := 2) rfl) rfl
theorem ws_X1_step : Cond.selects RX1 yX1_step yX1_step ∈ TB := tb_of (List.mem_of_getElem? (i := 3) rfl) rfl
theorem ws_X1_sinkFor : Cond.selects RX1 yX1_sinkFor yX1_sinkFor ∈ TB := tb_of (List.mem_of_getElem? (i := 4) rfl) rfl
theorem ws_X1_letOut : Cond.selects RX1 yX1_letOut yX1_letOut ∈ TB := tb_of (List.mem_of_getElem? (i := 5) rfl) rfl
theorem ws_X2_farSide : Cond.selects RX2 yX2_farSide yX2_farSide ∈ TB := tb_of (List.mem_of_getElem? (i := 6) rfl) rfl
theorem ws_X2_hindIsNext : Cond.selects RX2 yX2_hindIsNext yX2_hindIsNext ∈ TB := tb_of (List.mem_of_getElem? (i := 7) rfl) rfl
theorem ws_X2_mixOne : Cond.selects RX2 yX2_mixOne yX2_mixOne ∈ TB := tb_of (List.mem_of_getElem? (i := 8) rfl) rfl
theorem ws_X2_clash : Cond.selects RX2 yX2_clash yX2_clash ∈ TB := tb_of (List.mem_of_getElem? (i := 9) rfl) rfl
theorem ws_X7_hoursFor : Cond.selects RX7 yX7_hoursFor yX7_hoursFor ∈ TB := tb_of (List.mem_of_getElem? (i := 10) rfl) rfl
theorem ws_X7_register : Cond.selects RX7 yX7_register yX7_register ∈ TB := tb_of (List.mem_of_getElem? (i := 11) rfl) rfl
theorem ws_X8_isDoor : Cond.selects RX8 yX8_isDoor yX8_isDoor ∈ TB := tb_of (List.mem_of_getElem? (i := 12) rfl) rfl
theorem ws_X8_isTank : Cond.selects RX8 yX8_isTank yX8_isTank ∈ TB := tb_of (List.mem_of_getElem? (i := 13) rfl) rfl
theorem ws_X8_tries : Cond.selects RX8 yX8_tries yX8_tries ∈ TB := tb_of (List.mem_of_getElem? (i := 14) rfl) rfl
theorem ws_X8_writeDown : Cond.selects RX8 yX8_writeDown yX8_writeDown ∈ TB := tb_of (List.mem_of_getElem? (i := 15) rfl) rfl
theorem ws_X8_note : Cond.selects RX8 yX8_note yX8_note ∈ TB := tb_of (List.mem_of_getElem? (i := 16) rfl) rfl
theorem ws_X8_steps : Cond.selects RX8 yX8_steps yX8_steps ∈ TB := tb_of (List.mem_of_getElem? (i := 17) rfl) rfl
theorem ws_X8_goesOut : Cond.selects RX8 yX8_goesOut yX8_goesOut ∈ TB := tb_of (List.mem_of_getElem? (i := 18) rfl) rfl
theorem ws_X8_isPure : Cond.selects RX8 yX8_isPure yX8_isPure ∈ TB := tb_of (List.mem_of_getElem? (i := 19) rfl) rfl
theorem ws_X8_fits : Cond.selects RX8 yX8_fits yX8_fits ∈ TB := tb_of (List.mem_of_getElem? (i := 20) rfl) rfl
theorem ws_X8_mixes : Cond.selects RX8 yX8_mixes yX8_mixes ∈ TB := tb_of (List.mem_of_getElem? (i := 21) rfl) rfl
theorem ws_X8_border : Cond.selects RX8 yX8_border yX8_border ∈ TB := tb_of (List.mem_of_getElem? (i := 22) rfl) rfl
theorem ws_X8_neighbour : Cond.selects RX8 yX8_neighbour yX8_neighbour ∈ TB := tb_of (List.mem_of_getElem? (i := 23) rfl) rfl
theorem ws_X8_isWrong : Cond.selects RX8 yX8_isWrong yX8_isWrong ∈ TB := tb_of (List.mem_of_getElem? (i := 24) rfl) rfl
theorem ws_X8_mayNot : Cond.selects RX8 yX8_mayNot yX8_mayNot ∈ TB := tb_of (List.mem_of_getElem? (i := 25) rfl) rfl
theorem ws_X8_bringBack : Cond.selects RX8 yX8_bringBack yX8_bringBack ∈ TB := tb_of (List.mem_of_getElem? (i := 26) rfl) rfl
theorem ws_X8_noted : Cond.selects RX8 yX8_noted yX8_noted ∈ TB := tb_of (List.mem_of_getElem? (i := 27) rfl) rfl
theorem ws_X8_ends : Cond.selects RX8 yX8_ends yX8_ends ∈ TB := tb_of (List.mem_of_getElem? (i := 28) rfl) rfl
theorem ws_X8_late : Cond.selects RX8 yX8_late yX8_late ∈ TB := tb_of (List.mem_of_getElem? (i := 29) rfl) rfl
theorem wn_L : Cond.initialized RL ∈ TB := tb_of (List.mem_of_getElem? (i := 30) rfl) rfl
theorem wn_X7 : Cond.initialized RX7 ∈ TB := tb_of (List.mem_of_getElem? (i := 31) rfl) rfl
theorem wn_X5 : Cond.initialized RX5 ∈ TB := tb_of (List.mem_of_getElem? (i := 32) rfl) rfl
theorem wn_J7 : Cond.initialized RJ7 ∈ TB := tb_of (List.mem_of_getElem? (i := 33) rfl) rfl
theorem wn_X0 : Cond.initialized RX0 ∈ TB := tb_of (List.mem_of_getElem? (i := 34) rfl) rfl
theorem wn_X6 : Cond.initialized RX6 ∈ TB := tb_of (List.mem_of_getElem? (i := 35) rfl) rfl
theorem wn_X3 : Cond.initialized RX3 ∈ TB := tb_of (List.mem_of_getElem? (i := 36) rfl) rfl
theorem wn_X1 : Cond.initialized RX1 ∈ TB := tb_of (List.mem_of_getElem? (i := 37) rfl) rfl
theorem wn_X2 : Cond.initialized RX2 ∈ TB := tb_of (List.mem_of_getElem? (i := 38) rfl) rfl
theorem wn_X4 : Cond.initialized RX4 ∈ TB := tb_of (List.mem_of_getElem? (i := 39) rfl) rfl
theorem wn_X8 : Cond.initialized RX8 ∈ TB := tb_of (List.mem_of_getElem? (i := 40) rfl) rfl
theorem wn_J9 : Cond.initialized RJ9 ∈ TB := tb_of (List.mem_of_getElem? (i := 41) rfl) rfl
theorem wn_J10 : Cond.initialized RJ10 ∈ TB := tb_of (List.mem_of_getElem? (i := 42) rfl) rfl
theorem wk_L_7 : Cond.classLink RL 7 RX7 ∈ TB := tb_of (List.mem_of_getElem? (i := 43) rfl) rfl
theorem wb_X7 : Cond.instantiable RX7 9 ∈ TB := tb_of (List.mem_of_getElem? (i := 44) rfl) rfl
theorem wm_L_9 : Cond.methodLink RL 9 yX7_init ∈ TB := tb_of (List.mem_of_getElem? (i := 45) rfl) rfl
theorem wi_X7_init : Cond.instanceMethod yX7_init ∈ TB := tb_of (List.mem_of_getElem? (i := 46) rfl) rfl
theorem wc_X7_init : Cond.code yX7_init cX7_init 1 none ∈ TB := tb_of (List.mem_of_getElem? (i := 47) rfl) rfl
theorem wm_X7_3 : Cond.methodLink RX7 3 objectInit ∈ TB := tb_of (List.mem_of_getElem? (i := 48) rfl) rfl
theorem wi_oi : Cond.instanceMethod objectInit ∈ TB := tb_of (List.mem_of_getElem? (i := 49) rfl) rfl
theorem wc_oi : Cond.code objectInit ⟨#[0xb1]⟩ 1 none ∈ TB := tb_of (List.mem_of_getElem? (i := 50) rfl) rfl
theorem wk_X7_9 : Cond.classLink RX7 9 RX5 ∈ TB := tb_of (List.mem_of_getElem? (i := 51) rfl) rfl
theorem wb_X5 : Cond.instantiable RX5 4 ∈ TB := tb_of (List.mem_of_getElem? (i := 52) rfl) rfl
theorem wm_X7_11 : Cond.methodLink RX7 11 yX5_init ∈ TB := tb_of (List.mem_of_getElem? (i := 53) rfl) rfl
theorem wi_X5_init : Cond.instanceMethod yX5_init ∈ TB := tb_of (List.mem_of_getElem? (i := 54) rfl) rfl
theorem wc_X5_init : Cond.code yX5_init cX5_init 2 none ∈ TB := tb_of (List.mem_of_getElem? (i := 55) rfl) rfl
theorem wm_X5_3 : Cond.methodLink RX5 3 objectInit ∈ TB := tb_of (List.mem_of_getElem? (i := 56) rfl) rfl
theorem wm_X5_25 : Cond.methodLink RX5 25 yJ7_fill_53178 ∈ TB := tb_of (List.mem_of_getElem? (i := 57) rfl) rfl
theorem wt_J7_fill_53178 : Cond.static yJ7_fill_53178 ∈ TB := tb_of (List.mem_of_getElem? (i := 58) rfl) rfl
theorem wc_J7_fill_53178 : Cond.code yJ7_fill_53178 cJ7_fill_53178 4 none ∈ TB := tb_of (List.mem_of_getElem? (i := 59) rfl) rfl
theorem wf_X5_9 : Cond.fieldLink RX5 9 "OilLine$Tables" "may" "[Z" ∈ TB := tb_of (List.mem_of_getElem? (i := 60) rfl) rfl
theorem wf_X5_15 : Cond.fieldLink RX5 15 "OilLine$Tables" "mix" "[I" ∈ TB := tb_of (List.mem_of_getElem? (i := 61) rfl) rfl
theorem wf_X5_19 : Cond.fieldLink RX5 19 "OilLine$Tables" "grace" "[I" ∈ TB := tb_of (List.mem_of_getElem? (i := 62) rfl) rfl
theorem wf_X7_121 : Cond.fieldLink RX7 121 "OilLine$Tables" "grace" "[I" ∈ TB := tb_of (List.mem_of_getElem? (i := 63) rfl) rfl
theorem wf_X1_145 : Cond.fieldLink RX1 145 "OilLine$Tables" "grace" "[I" ∈ TB := tb_of (List.mem_of_getElem? (i := 64) rfl) rfl
theorem wf_X5_22 : Cond.fieldLink RX5 22 "OilLine$Tables" "price" "[I" ∈ TB := tb_of (List.mem_of_getElem? (i := 65) rfl) rfl
theorem wf_X7_131 : Cond.fieldLink RX7 131 "OilLine$Tables" "price" "[I" ∈ TB := tb_of (List.mem_of_getElem? (i := 66) rfl) rfl
theorem wA_Z : Cond.arrayClass .boolean ∈ TB := tb_of (List.mem_of_getElem? (i := 76) rfl) rfl
theorem wA_I : Cond.arrayClass .int ∈ TB := tb_of (List.mem_of_getElem? (i := 77) rfl) rfl
theorem wk_X7_16 : Cond.classLink RX7 16 RX0 ∈ TB := tb_of (List.mem_of_getElem? (i := 78) rfl) rfl
theorem wb_X0 : Cond.instantiable RX0 6 ∈ TB := tb_of (List.mem_of_getElem? (i := 79) rfl) rfl
theorem wN_X7_18 : Cond.methodLinkNest RX7 18 yX0_init "OilLine" ∈ lw_tbl := List.mem_of_getElem? (i := 80) rfl
theorem wi_X0_init : Cond.instanceMethod yX0_init ∈ TB := tb_of (List.mem_of_getElem? (i := 81) rfl) rfl
theorem wc_X0_init : Cond.code yX0_init cX0_init 1 none ∈ TB := tb_of (List.mem_of_getElem? (i := 82) rfl) rfl
theorem wm_X0_3 : Cond.methodLink RX0 3 objectInit ∈ TB := tb_of (List.mem_of_getElem? (i := 83) rfl) rfl
theorem wf_X0_9 : Cond.fieldLink RX0 9 "OilLine$Doors" "size" "I" ∈ TB := tb_of (List.mem_of_getElem? (i := 84) rfl) rfl
theorem wf_X7_84 : Cond.fieldLink RX7 84 "OilLine$Doors" "size" "I" ∈ TB := tb_of (List.mem_of_getElem? (i := 85) rfl) rfl
theorem wf_X0_15 : Cond.fieldLink RX0 15 "OilLine$Doors" "place" "[I" ∈ TB := tb_of (List.mem_of_getElem? (i := 86) rfl) rfl
theorem wf_X3_31 : Cond.fieldLink RX3 31 "OilLine$Doors" "place" "[I" ∈ TB := tb_of (List.mem_of_getElem? (i := 87) rfl) rfl
theorem wf_X7_205 : Cond.fieldLink RX7 205 "OilLine$Doors" "place" "[I" ∈ TB := tb_of (List.mem_of_getElem? (i := 88) rfl) rfl
theorem wf_X0_19 : Cond.fieldLink RX0 19 "OilLine$Doors" "rate" "[I" ∈ TB := tb_of (List.mem_of_getElem? (i := 89) rfl) rfl
theorem wf_X7_128 : Cond.fieldLink RX7 128 "OilLine$Doors" "rate" "[I" ∈ TB := tb_of (List.mem_of_getElem? (i := 90) rfl) rfl
theorem wf_X0_22 : Cond.fieldLink RX0 22 "OilLine$Doors" "isTank" "[Z" ∈ TB := tb_of (List.mem_of_getElem? (i := 91) rfl) rfl
theorem wf_X7_99 : Cond.fieldLink RX7 99 "OilLine$Doors" "isTank" "[Z" ∈ TB := tb_of (List.mem_of_getElem? (i := 92) rfl) rfl
theorem wf_X1_71 : Cond.fieldLink RX1 71 "OilLine$Doors" "isTank" "[Z" ∈ TB := tb_of (List.mem_of_getElem? (i := 93) rfl) rfl
theorem wf_X0_26 : Cond.fieldLink RX0 26 "OilLine$Doors" "least" "[I" ∈ TB := tb_of (List.mem_of_getElem? (i := 94) rfl) rfl
theorem wf_X1_80 : Cond.fieldLink RX1 80 "OilLine$Doors" "least" "[I" ∈ TB := tb_of (List.mem_of_getElem? (i := 95) rfl) rfl
theorem wf_X7_199 : Cond.fieldLink RX7 199 "OilLine$Doors" "least" "[I" ∈ TB := tb_of (List.mem_of_getElem? (i := 96) rfl) rfl
theorem wf_X0_29 : Cond.fieldLink RX0 29 "OilLine$Doors" "most" "[I" ∈ TB := tb_of (List.mem_of_getElem? (i := 97) rfl) rfl
theorem wf_X1_93 : Cond.fieldLink RX1 93 "OilLine$Doors" "most" "[I" ∈ TB := tb_of (List.mem_of_getElem? (i := 98) rfl) rfl
theorem wf_X7_202 : Cond.fieldLink RX7 202 "OilLine$Doors" "most" "[I" ∈ TB := tb_of (List.mem_of_getElem? (i := 99) rfl) rfl
theorem wk_X7_23 : Cond.classLink RX7 23 RX6 ∈ TB := tb_of (List.mem_of_getElem? (i := 113) rfl) rfl
theorem wb_X6 : Cond.instantiable RX6 5 ∈ TB := tb_of (List.mem_of_getElem? (i := 114) rfl) rfl
theorem wN_X7_25 : Cond.methodLinkNest RX7 25 yX6_init "OilLine" ∈ lw_tbl := List.mem_of_getElem? (i := 115) rfl
theorem wi_X6_init : Cond.instanceMethod yX6_init ∈ TB := tb_of (List.mem_of_getElem? (i := 116) rfl) rfl
theorem wc_X6_init : Cond.code yX6_init cX6_init 1 none ∈ TB := tb_of (List.mem_of_getElem? (i := 117) rfl) rfl
theorem wm_X6_3 : Cond.methodLink RX6 3 objectInit ∈ TB := tb_of (List.mem_of_getElem? (i := 118) rfl) rfl
theorem wf_X6_9 : Cond.fieldLink RX6 9 "OilLine$Wishes" "size" "I" ∈ TB := tb_of (List.mem_of_getElem? (i := 119) rfl) rfl
theorem wf_X7_70 : Cond.fieldLink RX7 70 "OilLine$Wishes" "size" "I" ∈ TB := tb_of (List.mem_of_getElem? (i := 120) rfl) rfl
theorem wf_X6_15 : Cond.fieldLink RX6 15 "OilLine$Wishes" "tank" "[I" ∈ TB := tb_of (List.mem_of_getElem? (i := 121) rfl) rfl
theorem wf_X6_19 : Cond.fieldLink RX6 19 "OilLine$Wishes" "wanted" "[I" ∈ TB := tb_of (List.mem_of_getElem? (i := 122) rfl) rfl
theorem wf_X6_22 : Cond.fieldLink RX6 22 "OilLine$Wishes" "by" "[I" ∈ TB := tb_of (List.mem_of_getElem? (i := 123) rfl) rfl
theorem wf_X6_25 : Cond.fieldLink RX6 25 "OilLine$Wishes" "cameAhead" "[I" ∈ TB := tb_of (List.mem_of_getElem? (i := 124) rfl) rfl
theorem wk_X7_30 : Cond.classLink RX7 30 RX3 ∈ TB := tb_of (List.mem_of_getElem? (i := 136) rfl) rfl
theorem wb_X3 : Cond.instantiable RX3 5 ∈ TB := tb_of (List.mem_of_getElem? (i := 137) rfl) rfl
theorem wN_X7_32 : Cond.methodLinkNest RX7 32 yX3_init "OilLine" ∈ lw_tbl := List.mem_of_getElem? (i := 138) rfl
theorem wi_X3_init : Cond.instanceMethod yX3_init ∈ TB := tb_of (List.mem_of_getElem? (i := 139) rfl) rfl
theorem wc_X3_init : Cond.code yX3_init cX3_init 1 none ∈ TB := tb_of (List.mem_of_getElem? (i := 140) rfl) rfl
theorem wm_X3_1 : Cond.methodLink RX3 1 objectInit ∈ TB := tb_of (List.mem_of_getElem? (i := 141) rfl) rfl
theorem wf_X3_7 : Cond.fieldLink RX3 7 "OilLine$Plan" "kind" "I" ∈ TB := tb_of (List.mem_of_getElem? (i := 142) rfl) rfl
theorem wf_X1_107 : Cond.fieldLink RX1 107 "OilLine$Plan" "kind" "I" ∈ TB := tb_of (List.mem_of_getElem? (i := 143) rfl) rfl
theorem wf_X3_13 : Cond.fieldLink RX3 13 "OilLine$Plan" "sourceTank" "I" ∈ TB := tb_of (List.mem_of_getElem? (i := 144) rfl) rfl
theorem wf_X1_66 : Cond.fieldLink RX1 66 "OilLine$Plan" "sourceTank" "I" ∈ TB := tb_of (List.mem_of_getElem? (i := 145) rfl) rfl
theorem wf_X3_16 : Cond.fieldLink RX3 16 "OilLine$Plan" "sinkDoor" "I" ∈ TB := tb_of (List.mem_of_getElem? (i := 146) rfl) rfl
theorem wf_X1_86 : Cond.fieldLink RX1 86 "OilLine$Plan" "sinkDoor" "I" ∈ TB := tb_of (List.mem_of_getElem? (i := 147) rfl) rfl
theorem wf_X3_19 : Cond.fieldLink RX3 19 "OilLine$Plan" "from" "I" ∈ TB := tb_of (List.mem_of_getElem? (i := 148) rfl) rfl
theorem wf_X1_100 : Cond.fieldLink RX1 100 "OilLine$Plan" "from" "I" ∈ TB := tb_of (List.mem_of_getElem? (i := 149) rfl) rfl
theorem wf_X3_22 : Cond.fieldLink RX3 22 "OilLine$Plan" "to" "I" ∈ TB := tb_of (List.mem_of_getElem? (i := 150) rfl) rfl
theorem wf_X1_83 : Cond.fieldLink RX1 83 "OilLine$Plan" "to" "I" ∈ TB := tb_of (List.mem_of_getElem? (i := 151) rfl) rfl
theorem wk_X7_44 : Cond.classLink RX7 44 RX1 ∈ TB := tb_of (List.mem_of_getElem? (i := 163) rfl) rfl
theorem wb_X1 : Cond.instantiable RX1 7 ∈ TB := tb_of (List.mem_of_getElem? (i := 164) rfl) rfl
theorem wN_X7_46 : Cond.methodLinkNest RX7 46 yX1_init "OilLine" ∈ lw_tbl := List.mem_of_getElem? (i := 165) rfl
theorem wi_X1_init : Cond.instanceMethod yX1_init ∈ TB := tb_of (List.mem_of_getElem? (i := 166) rfl) rfl
theorem wc_X1_init : Cond.code yX1_init cX1_init 1 none ∈ TB := tb_of (List.mem_of_getElem? (i := 167) rfl) rfl
theorem wm_X1_3 : Cond.methodLink RX1 3 objectInit ∈ TB := tb_of (List.mem_of_getElem? (i := 168) rfl) rfl
theorem wk_X1_21 : Cond.classLink RX1 21 RX2 ∈ TB := tb_of (List.mem_of_getElem? (i := 169) rfl) rfl
theorem wb_X2 : Cond.instantiable RX2 5 ∈ TB := tb_of (List.mem_of_getElem? (i := 170) rfl) rfl
theorem wN_X1_23 : Cond.methodLinkNest RX1 23 yX2_init "OilLine" ∈ lw_tbl := List.mem_of_getElem? (i := 171) rfl
theorem wi_X2_init : Cond.instanceMethod yX2_init ∈ TB := tb_of (List.mem_of_getElem? (i := 172) rfl) rfl
theorem wc_X2_init : Cond.code yX2_init cX2_init 1 none ∈ TB := tb_of (List.mem_of_getElem? (i := 173) rfl) rfl
theorem wm_X2_3 : Cond.methodLink RX2 3 objectInit ∈ TB := tb_of (List.mem_of_getElem? (i := 174) rfl) rfl
theorem wf_X2_9 : Cond.fieldLink RX2 9 "OilLine$Pipe" "size" "I" ∈ TB := tb_of (List.mem_of_getElem? (i := 175) rfl) rfl
theorem wf_X7_77 : Cond.fieldLink RX7 77 "OilLine$Pipe" "size" "I" ∈ TB := tb_of (List.mem_of_getElem? (i := 176) rfl) rfl
theorem wf_X2_15 : Cond.fieldLink RX2 15 "OilLine$Pipe" "batchOf" "[I" ∈ TB := tb_of (List.mem_of_getElem? (i := 177) rfl) rfl
theorem wf_X1_124 : Cond.fieldLink RX1 124 "OilLine$Pipe" "batchOf" "[I" ∈ TB := tb_of (List.mem_of_getElem? (i := 178) rfl) rfl
theorem wf_X7_166 : Cond.fieldLink RX7 166 "OilLine$Pipe" "batchOf" "[I" ∈ TB := tb_of (List.mem_of_getElem? (i := 179) rfl) rfl
theorem wf_X2_19 : Cond.fieldLink RX2 19 "OilLine$Pipe" "kindOf" "[I" ∈ TB := tb_of (List.mem_of_getElem? (i := 180) rfl) rfl
theorem wf_X1_138 : Cond.fieldLink RX1 138 "OilLine$Pipe" "kindOf" "[I" ∈ TB := tb_of (List.mem_of_getElem? (i := 181) rfl) rfl
theorem wf_X7_169 : Cond.fieldLink RX7 169 "OilLine$Pipe" "kindOf" "[I" ∈ TB := tb_of (List.mem_of_getElem? (i := 182) rfl) rfl
theorem wf_X2_22 : Cond.fieldLink RX2 22 "OilLine$Pipe" "foreOf" "[I" ∈ TB := tb_of (List.mem_of_getElem? (i := 183) rfl) rfl
theorem wf_X1_154 : Cond.fieldLink RX1 154 "OilLine$Pipe" "foreOf" "[I" ∈ TB := tb_of (List.mem_of_getElem? (i := 184) rfl) rfl
theorem wf_X7_172 : Cond.fieldLink RX7 172 "OilLine$Pipe" "foreOf" "[I" ∈ TB := tb_of (List.mem_of_getElem? (i := 185) rfl) rfl
theorem wf_X2_25 : Cond.fieldLink RX2 25 "OilLine$Pipe" "went" "[I" ∈ TB := tb_of (List.mem_of_getElem? (i := 186) rfl) rfl
theorem wf_X7_178 : Cond.fieldLink RX7 178 "OilLine$Pipe" "went" "[I" ∈ TB := tb_of (List.mem_of_getElem? (i := 187) rfl) rfl
theorem wk_X1_28 : Cond.classLink RX1 28 RX4 ∈ TB := tb_of (List.mem_of_getElem? (i := 199) rfl) rfl
theorem wb_X4 : Cond.instantiable RX4 4 ∈ TB := tb_of (List.mem_of_getElem? (i := 200) rfl) rfl
theorem wN_X1_30 : Cond.methodLinkNest RX1 30 yX4_init "OilLine" ∈ lw_tbl := List.mem_of_getElem? (i := 201) rfl
theorem wi_X4_init : Cond.instanceMethod yX4_init ∈ TB := tb_of (List.mem_of_getElem? (i := 202) rfl) rfl
theorem wc_X4_init : Cond.code yX4_init cX4_init 1 none ∈ TB := tb_of (List.mem_of_getElem? (i := 203) rfl) rfl
theorem wm_X4_3 : Cond.methodLink RX4 3 objectInit ∈ TB := tb_of (List.mem_of_getElem? (i := 204) rfl) rfl
theorem wf_X4_9 : Cond.fieldLink RX4 9 "OilLine$Stock" "amount" "[I" ∈ TB := tb_of (List.mem_of_getElem? (i := 205) rfl) rfl
theorem wf_X1_77 : Cond.fieldLink RX1 77 "OilLine$Stock" "amount" "[I" ∈ TB := tb_of (List.mem_of_getElem? (i := 206) rfl) rfl
theorem wf_X7_193 : Cond.fieldLink RX7 193 "OilLine$Stock" "amount" "[I" ∈ TB := tb_of (List.mem_of_getElem? (i := 207) rfl) rfl
theorem wf_X4_15 : Cond.fieldLink RX4 15 "OilLine$Stock" "foreign" "[I" ∈ TB := tb_of (List.mem_of_getElem? (i := 208) rfl) rfl
theorem wf_X7_196 : Cond.fieldLink RX7 196 "OilLine$Stock" "foreign" "[I" ∈ TB := tb_of (List.mem_of_getElem? (i := 209) rfl) rfl
theorem wf_X4_18 : Cond.fieldLink RX4 18 "OilLine$Stock" "came" "[I" ∈ TB := tb_of (List.mem_of_getElem? (i := 210) rfl) rfl
theorem wf_X6_28 : Cond.fieldLink RX6 28 "OilLine$Stock" "came" "[I" ∈ TB := tb_of (List.mem_of_getElem? (i := 211) rfl) rfl
theorem wf_X7_142 : Cond.fieldLink RX7 142 "OilLine$Stock" "came" "[I" ∈ TB := tb_of (List.mem_of_getElem? (i := 212) rfl) rfl
theorem wf_X4_21 : Cond.fieldLink RX4 21 "OilLine$Stock" "slop" "[I" ∈ TB := tb_of (List.mem_of_getElem? (i := 213) rfl) rfl
theorem wf_X1_127 : Cond.fieldLink RX1 127 "OilLine$Stock" "slop" "[I" ∈ TB := tb_of (List.mem_of_getElem? (i := 214) rfl) rfl
theorem wf_X7_208 : Cond.fieldLink RX7 208 "OilLine$Stock" "slop" "[I" ∈ TB := tb_of (List.mem_of_getElem? (i := 215) rfl) rfl
theorem wf_X1_9 : Cond.fieldLink RX1 9 "OilLine$Moment" "time" "I" ∈ TB := tb_of (List.mem_of_getElem? (i := 225) rfl) rfl
theorem wf_X6_52 : Cond.fieldLink RX6 52 "OilLine$Moment" "time" "I" ∈ TB := tb_of (List.mem_of_getElem? (i := 226) rfl) rfl
theorem wf_X7_163 : Cond.fieldLink RX7 163 "OilLine$Moment" "time" "I" ∈ TB := tb_of (List.mem_of_getElem? (i := 227) rfl) rfl
theorem wf_X1_15 : Cond.fieldLink RX1 15 "OilLine$Moment" "cost" "I" ∈ TB := tb_of (List.mem_of_getElem? (i := 228) rfl) rfl
theorem wf_X7_219 : Cond.fieldLink RX7 219 "OilLine$Moment" "cost" "I" ∈ TB := tb_of (List.mem_of_getElem? (i := 229) rfl) rfl
theorem wf_X1_18 : Cond.fieldLink RX1 18 "OilLine$Moment" "batches" "I" ∈ TB := tb_of (List.mem_of_getElem? (i := 230) rfl) rfl
theorem wf_X7_160 : Cond.fieldLink RX7 160 "OilLine$Moment" "batches" "I" ∈ TB := tb_of (List.mem_of_getElem? (i := 231) rfl) rfl
theorem wf_X1_24 : Cond.fieldLink RX1 24 "OilLine$Moment" "pipe" "LOilLine$Pipe;" ∈ TB := tb_of (List.mem_of_getElem? (i := 232) rfl) rfl
theorem wf_X7_73 : Cond.fieldLink RX7 73 "OilLine$Moment" "pipe" "LOilLine$Pipe;" ∈ TB := tb_of (List.mem_of_getElem? (i := 233) rfl) rfl
theorem wf_X1_31 : Cond.fieldLink RX1 31 "OilLine$Moment" "stock" "LOilLine$Stock;" ∈ TB := tb_of (List.mem_of_getElem? (i := 234) rfl) rfl
theorem wf_X6_44 : Cond.fieldLink RX6 44 "OilLine$Moment" "stock" "LOilLine$Stock;" ∈ TB := tb_of (List.mem_of_getElem? (i := 235) rfl) rfl
theorem wf_X7_107 : Cond.fieldLink RX7 107 "OilLine$Moment" "stock" "LOilLine$Stock;" ∈ TB := tb_of (List.mem_of_getElem? (i := 236) rfl) rfl
theorem wf_X1_35 : Cond.fieldLink RX1 35 "OilLine$Moment" "wentOut" "[I" ∈ TB := tb_of (List.mem_of_getElem? (i := 237) rfl) rfl
theorem wf_X7_190 : Cond.fieldLink RX7 190 "OilLine$Moment" "wentOut" "[I" ∈ TB := tb_of (List.mem_of_getElem? (i := 238) rfl) rfl
theorem wf_X1_39 : Cond.fieldLink RX1 39 "OilLine$Moment" "keptAt" "[I" ∈ TB := tb_of (List.mem_of_getElem? (i := 239) rfl) rfl
theorem wf_X6_39 : Cond.fieldLink RX6 39 "OilLine$Moment" "keptAt" "[I" ∈ TB := tb_of (List.mem_of_getElem? (i := 240) rfl) rfl
theorem wf_X7_139 : Cond.fieldLink RX7 139 "OilLine$Moment" "keptAt" "[I" ∈ TB := tb_of (List.mem_of_getElem? (i := 241) rfl) rfl
theorem wO_M : Cond.arrayOver (.object "OilLine$Moment") ∈ lw_tbl := List.mem_of_getElem? (i := 257) rfl
theorem wm_X7_59 : Cond.methodLink RX7 59 yX1_renew ∈ TB := tb_of (List.mem_of_getElem? (i := 258) rfl) rfl
theorem wi_X1_renew : Cond.instanceMethod yX1_renew ∈ TB := tb_of (List.mem_of_getElem? (i := 259) rfl) rfl
theorem ws_X1_renew : Cond.selects RX1 yX1_renew yX1_renew ∈ TB := tb_of (List.mem_of_getElem? (i := 260) rfl) rfl
theorem wc_X1_renew : Cond.code yX1_renew cX1_renew 2 none ∈ TB := tb_of (List.mem_of_getElem? (i := 261) rfl) rfl
theorem wm_X1_42 : Cond.methodLink RX1 42 yX2_renew ∈ TB := tb_of (List.mem_of_getElem? (i := 262) rfl) rfl
theorem wi_X2_renew : Cond.instanceMethod yX2_renew ∈ TB := tb_of (List.mem_of_getElem? (i := 263) rfl) rfl
theorem ws_X2_renew : Cond.selects RX2 yX2_renew yX2_renew ∈ TB := tb_of (List.mem_of_getElem? (i := 264) rfl) rfl
theorem wc_X2_renew : Cond.code yX2_renew cX2_renew 3 none ∈ TB := tb_of (List.mem_of_getElem? (i := 265) rfl) rfl
theorem wm_X2_28 : Cond.methodLink RX2 28 yX2_put ∈ TB := tb_of (List.mem_of_getElem? (i := 266) rfl) rfl
theorem wi_X2_put : Cond.instanceMethod yX2_put ∈ TB := tb_of (List.mem_of_getElem? (i := 267) rfl) rfl
theorem ws_X2_put : Cond.selects RX2 yX2_put yX2_put ∈ TB := tb_of (List.mem_of_getElem? (i := 268) rfl) rfl
theorem wc_X2_put : Cond.code yX2_put cX2_put 4 none ∈ TB := tb_of (List.mem_of_getElem? (i := 269) rfl) rfl
theorem wm_X1_46 : Cond.methodLink RX1 46 yX4_clear ∈ TB := tb_of (List.mem_of_getElem? (i := 270) rfl) rfl
theorem wi_X4_clear : Cond.instanceMethod yX4_clear ∈ TB := tb_of (List.mem_of_getElem? (i := 271) rfl) rfl
theorem ws_X4_clear : Cond.selects RX4 yX4_clear yX4_clear ∈ TB := tb_of (List.mem_of_getElem? (i := 272) rfl) rfl
theorem wc_X4_clear : Cond.code yX4_clear cX4_clear 1 none ∈ TB := tb_of (List.mem_of_getElem? (i := 273) rfl) rfl
theorem wm_X4_24 : Cond.methodLink RX4 24 yJ7_fill_53178 ∈ TB := tb_of (List.mem_of_getElem? (i := 274) rfl) rfl
theorem wf_X7_12 : Cond.fieldLink RX7 12 "OilLine" "tables" "LOilLine$Tables;" ∈ TB := tb_of (List.mem_of_getElem? (i := 275) rfl) rfl
theorem wf_X7_19 : Cond.fieldLink RX7 19 "OilLine" "doors" "LOilLine$Doors;" ∈ TB := tb_of (List.mem_of_getElem? (i := 276) rfl) rfl
theorem wf_X7_26 : Cond.fieldLink RX7 26 "OilLine" "wishes" "LOilLine$Wishes;" ∈ TB := tb_of (List.mem_of_getElem? (i := 277) rfl) rfl
theorem wf_X7_33 : Cond.fieldLink RX7 33 "OilLine" "plan" "LOilLine$Plan;" ∈ TB := tb_of (List.mem_of_getElem? (i := 278) rfl) rfl
theorem wf_X7_37 : Cond.fieldLink RX7 37 "OilLine" "batchKind" "[I" ∈ TB := tb_of (List.mem_of_getElem? (i := 279) rfl) rfl
theorem wf_X7_41 : Cond.fieldLink RX7 41 "OilLine" "batchDoor" "[I" ∈ TB := tb_of (List.mem_of_getElem? (i := 280) rfl) rfl
theorem wf_X7_47 : Cond.fieldLink RX7 47 "OilLine" "now" "LOilLine$Moment;" ∈ TB := tb_of (List.mem_of_getElem? (i := 281) rfl) rfl
theorem wf_X7_51 : Cond.fieldLink RX7 51 "OilLine" "earlier" "[LOilLine$Moment;" ∈ TB := tb_of (List.mem_of_getElem? (i := 282) rfl) rfl
theorem wf_X7_55 : Cond.fieldLink RX7 55 "OilLine" "undoable" "I" ∈ TB := tb_of (List.mem_of_getElem? (i := 283) rfl) rfl
theorem wm_L_13 : Cond.methodLink RL 13 yX7_line ∈ TB := tb_of (List.mem_of_getElem? (i := 303) rfl) rfl
theorem wi_X7_line : Cond.instanceMethod yX7_line ∈ TB := tb_of (List.mem_of_getElem? (i := 304) rfl) rfl
theorem ws_X7_line : Cond.selects RX7 yX7_line yX7_line ∈ TB := tb_of (List.mem_of_getElem? (i := 305) rfl) rfl
theorem wc_X7_line : Cond.code yX7_line cX7_line 2 (some .int) ∈ TB := tb_of (List.mem_of_getElem? (i := 306) rfl) rfl
theorem wm_X7_63 : Cond.methodLink RX7 63 yX7_within ∈ TB := tb_of (List.mem_of_getElem? (i := 307) rfl) rfl
theorem wt_X7_within : Cond.static yX7_within ∈ TB := tb_of (List.mem_of_getElem? (i := 308) rfl) rfl
theorem wc_X7_within : Cond.code yX7_within cX7_within 3 (some .boolean) ∈ TB := tb_of (List.mem_of_getElem? (i := 309) rfl) rfl
theorem wm_X7_67 : Cond.methodLink RX7 67 yX0_clear ∈ TB := tb_of (List.mem_of_getElem? (i := 310) rfl) rfl
theorem wi_X0_clear : Cond.instanceMethod yX0_clear ∈ TB := tb_of (List.mem_of_getElem? (i := 311) rfl) rfl
theorem ws_X0_clear : Cond.selects RX0 yX0_clear yX0_clear ∈ TB := tb_of (List.mem_of_getElem? (i := 312) rfl) rfl
theorem wc_X0_clear : Cond.code yX0_clear cX0_clear 2 none ∈ TB := tb_of (List.mem_of_getElem? (i := 313) rfl) rfl
theorem wm_L_18 : Cond.methodLink RL 18 yX7_door ∈ TB := tb_of (List.mem_of_getElem? (i := 314) rfl) rfl
theorem wi_X7_door : Cond.instanceMethod yX7_door ∈ TB := tb_of (List.mem_of_getElem? (i := 315) rfl) rfl
theorem ws_X7_door : Cond.selects RX7 yX7_door yX7_door ∈ TB := tb_of (List.mem_of_getElem? (i := 316) rfl) rfl
theorem wc_X7_door : Cond.code yX7_door cX7_door 2 (some .int) ∈ TB := tb_of (List.mem_of_getElem? (i := 317) rfl) rfl
theorem wm_X7_80 : Cond.methodLink RX7 80 yX0_isTaken ∈ TB := tb_of (List.mem_of_getElem? (i := 318) rfl) rfl
theorem wi_X0_isTaken : Cond.instanceMethod yX0_isTaken ∈ TB := tb_of (List.mem_of_getElem? (i := 319) rfl) rfl
theorem ws_X0_isTaken : Cond.selects RX0 yX0_isTaken yX0_isTaken ∈ TB := tb_of (List.mem_of_getElem? (i := 320) rfl) rfl
theorem wc_X0_isTaken : Cond.code yX0_isTaken cX0_isTaken 3 (some .boolean) ∈ TB := tb_of (List.mem_of_getElem? (i := 321) rfl) rfl
theorem wm_X7_85 : Cond.methodLink RX7 85 yX0_open ∈ TB := tb_of (List.mem_of_getElem? (i := 322) rfl) rfl
theorem wi_X0_open : Cond.instanceMethod yX0_open ∈ TB := tb_of (List.mem_of_getElem? (i := 323) rfl) rfl
theorem ws_X0_open : Cond.selects RX0 yX0_open yX0_open ∈ TB := tb_of (List.mem_of_getElem? (i := 324) rfl) rfl
theorem wc_X0_open : Cond.code yX0_open cX0_open 3 (some .int) ∈ TB := tb_of (List.mem_of_getElem? (i := 325) rfl) rfl
theorem wm_L_22 : Cond.methodLink RL 22 yX7_tank ∈ TB := tb_of (List.mem_of_getElem? (i := 326) rfl) rfl
theorem wi_X7_tank : Cond.instanceMethod yX7_tank ∈ TB := tb_of (List.mem_of_getElem? (i := 327) rfl) rfl
theorem ws_X7_tank : Cond.selects RX7 yX7_tank yX7_tank ∈ TB := tb_of (List.mem_of_getElem? (i := 328) rfl) rfl
theorem wc_X7_tank : Cond.code yX7_tank cX7_tank 7 (some .int) ∈ TB := tb_of (List.mem_of_getElem? (i := 329) rfl) rfl
theorem wm_X7_89 : Cond.methodLink RX7 89 yX0_has ∈ TB := tb_of (List.mem_of_getElem? (i := 330) rfl) rfl
theorem wi_X0_has : Cond.instanceMethod yX0_has ∈ TB := tb_of (List.mem_of_getElem? (i := 331) rfl) rfl
theorem ws_X0_has : Cond.selects RX0 yX0_has yX0_has ∈ TB := tb_of (List.mem_of_getElem? (i := 332) rfl) rfl
theorem wc_X0_has : Cond.code yX0_has cX0_has 2 (some .boolean) ∈ TB := tb_of (List.mem_of_getElem? (i := 333) rfl) rfl
theorem wN_X0_32 : Cond.methodLinkNest RX0 32 yX7_within "OilLine" ∈ lw_tbl := List.mem_of_getElem? (i := 334) rfl
theorem wm_X7_92 : Cond.methodLink RX7 92 yX7_isKind ∈ TB := tb_of (List.mem_of_getElem? (i := 335) rfl) rfl
theorem wt_X7_isKind : Cond.static yX7_isKind ∈ TB := tb_of (List.mem_of_getElem? (i := 336) rfl) rfl
theorem wc_X7_isKind : Cond.code yX7_isKind cX7_isKind 1 (some .boolean) ∈ TB := tb_of (List.mem_of_getElem? (i := 337) rfl) rfl
theorem wm_X7_95 : Cond.methodLink RX7 95 yX7_tankNumber ∈ TB := tb_of (List.mem_of_getElem? (i := 338) rfl) rfl
theorem wt_X7_tankNumber : Cond.static yX7_tankNumber ∈ TB := tb_of (List.mem_of_getElem? (i := 339) rfl) rfl
theorem wc_X7_tankNumber : Cond.code yX7_tankNumber cX7_tankNumber 2 (some .int) ∈ TB := tb_of (List.mem_of_getElem? (i := 340) rfl) rfl
theorem wm_X7_103 : Cond.methodLink RX7 103 yX0_build ∈ TB := tb_of (List.mem_of_getElem? (i := 341) rfl) rfl
theorem wi_X0_build : Cond.instanceMethod yX0_build ∈ TB := tb_of (List.mem_of_getElem? (i := 342) rfl) rfl
theorem ws_X0_build : Cond.selects RX0 yX0_build yX0_build ∈ TB := tb_of (List.mem_of_getElem? (i := 343) rfl) rfl
theorem wc_X0_build : Cond.code yX0_build cX0_build 4 none ∈ TB := tb_of (List.mem_of_getElem? (i := 344) rfl) rfl
theorem wm_X7_111 : Cond.methodLink RX7 111 yX4_fill ∈ TB := tb_of (List.mem_of_getElem? (i := 345) rfl) rfl
theorem wi_X4_fill : Cond.instanceMethod yX4_fill ∈ TB := tb_of (List.mem_of_getElem? (i := 346) rfl) rfl
theorem ws_X4_fill : Cond.selects RX4 yX4_fill yX4_fill ∈ TB := tb_of (List.mem_of_getElem? (i := 347) rfl) rfl
theorem wc_X4_fill : Cond.code yX4_fill cX4_fill 3 none ∈ TB := tb_of (List.mem_of_getElem? (i := 348) rfl) rfl
theorem wm_L_27 : Cond.methodLink RL 27 yX7_follow ∈ TB := tb_of (List.mem_of_getElem? (i := 349) rfl) rfl
theorem wi_X7_follow : Cond.instanceMethod yX7_follow ∈ TB := tb_of (List.mem_of_getElem? (i := 350) rfl) rfl
set_option maxRecDepth 20000 in
theorem ws_X7_follow : Cond.selects RX7 yX7_follow yX7_follow ∈ TB := tb_of (List.mem_of_getElem? (i := 351) rfl) rfl
set_option maxRecDepth 20000 in
theorem wc_X7_follow : Cond.code yX7_follow cX7_follow 5 (some .int) ∈ TB := tb_of (List.mem_of_getElem? (i := 352) rfl) rfl
set_option maxRecDepth 20000 in
theorem wm_X7_117 : Cond.methodLink RX7 117 yX5_tellPair ∈ TB := tb_of (List.mem_of_getElem? (i := 353) rfl) rfl
set_option maxRecDepth 20000 in
theorem wi_X5_tellPair : Cond.instanceMethod yX5_tellPair ∈ TB := tb_of (List.mem_of_getElem? (i := 354) rfl) rfl
set_option maxRecDepth 20000 in
theorem ws_X5_tellPair : Cond.selects RX5 yX5_tellPair yX5_tellPair ∈ TB := tb_of (List.mem_of_getElem? (i := 355) rfl) rfl
set_option maxRecDepth 20000 in
theorem wc_X5_tellPair : Cond.code yX5_tellPair cX5_tellPair 5 none ∈ TB := tb_of (List.mem_of_getElem? (i := 356) rfl) rfl
set_option maxRecDepth 20000 in
theorem wm_L_32 : Cond.methodLink RL 32 yX7_grace ∈ TB := tb_of (List.mem_of_getElem? (i := 357) rfl) rfl
set_option maxRecDepth 20000 in
theorem wi_X7_grace : Cond.instanceMethod yX7_grace ∈ TB := tb_of (List.mem_of_getElem? (i := 358) rfl) rfl
set_option maxRecDepth 20000 in
theorem ws_X7_grace : Cond.selects RX7 yX7_grace yX7_grace ∈ TB := tb_of (List.mem_of_getElem? (i := 359) rfl) rfl
set_option maxRecDepth 20000 in
theorem wc_X7_grace : Cond.code yX7_grace cX7_grace 3 (some .int) ∈ TB := tb_of (List.mem_of_getElem? (i := 360) rfl) rfl
set_option maxRecDepth 20000 in
theorem wm_X7_124 : Cond.methodLink RX7 124 yX7_exchange ∈ TB := tb_of (List.mem_of_getElem? (i := 361) rfl) rfl
set_option maxRecDepth 20000 in
theorem wt_X7_exchange : Cond.static yX7_exchange ∈ TB := tb_of (List.mem_of_getElem? (i := 362) rfl) rfl
set_option maxRecDepth 20000 in
theorem wc_X7_exchange : Cond.code yX7_exchange cX7_exchange 4 (some .int) ∈ TB := tb_of (List.mem_of_getElem? (i := 363) rfl) rfl
set_option maxRecDepth 20000 in
theorem wm_L_37 : Cond.methodLink RL 37 yX7_rate ∈ TB := tb_of (List.mem_of_getElem? (i := 364) rfl) rfl
set_option maxRecDepth 20000 in
theorem wi_X7_rate : Cond.instanceMethod yX7_rate ∈ TB := tb_of (List.mem_of_getElem? (i := 365) rfl) rfl
set_option maxRecDepth 20000 in
theorem ws_X7_rate : Cond.selects RX7 yX7_rate yX7_rate ∈ TB := tb_of (List.mem_of_getElem? (i := 366) rfl) rfl
set_option maxRecDepth 20000 in
theorem wc_X7_rate : Cond.code yX7_rate cX7_rate 3 (some .int) ∈ TB := tb_of (List.mem_of_getElem? (i := 367) rfl) rfl
set_option maxRecDepth 20000 in
theorem wm_L_41 : Cond.methodLink RL 41 yX7_price ∈ TB := tb_of (List.mem_of_getElem? (i := 368) rfl) rfl
set_option maxRecDepth 20000 in
theorem wi_X7_price : Cond.instanceMethod yX7_price ∈ TB := tb_of (List.mem_of_getElem? (i := 369) rfl) rfl
set_option maxRecDepth 20000 in
theorem ws_X7_price : Cond.selects RX7 yX7_price yX7_price ∈ TB := tb_of (List.mem_of_getElem? (i := 370) rfl) rfl
set_option maxRecDepth 20000 in
theorem wc_X7_price : Cond.code yX7_price cX7_price 3 (some .int) ∈ TB := tb_of (List.mem_of_getElem? (i := 371) rfl) rfl
set_option maxRecDepth 20000 in
theorem wm_L_45 : Cond.methodLink RL 45 yX7_wish ∈ TB := tb_of (List.mem_of_getElem? (i := 372) rfl) rfl
set_option maxRecDepth 20000 in
theorem wi_X7_wish : Cond.instanceMethod yX7_wish ∈ TB := tb_of (List.mem_of_getElem? (i := 373) rfl) rfl
set_option maxRecDepth 20000 in
theorem ws_X7_wish : Cond.selects RX7 yX7_wish yX7_wish ∈ TB := tb_of (List.mem_of_getElem? (i := 374) rfl) rfl
set_option maxRecDepth 20000 in
theorem wc_X7_wish : Cond.code yX7_wish cX7_wish 6 (some .int) ∈ TB := tb_of (List.mem_of_getElem? (i := 375) rfl) rfl
set_option maxRecDepth 20000 in
theorem wm_X7_134 : Cond.methodLink RX7 134 yX7_hasTank ∈ TB := tb_of (List.mem_of_getElem? (i := 376) rfl) rfl
set_option maxRecDepth 20000 in
theorem wi_X7_hasTank : Cond.instanceMethod yX7_hasTank ∈ TB := tb_of (List.mem_of_getElem? (i := 378) rfl) rfl
set_option maxRecDepth 20000 in
theorem wc_X7_hasTank : Cond.code yX7_hasTank cX7_hasTank 3 (some .boolean) ∈ TB := tb_of (List.mem_of_getElem? (i := 379) rfl) rfl
set_option maxRecDepth 20000 in
theorem wv_X7_138 : Cond.constant RX7 138 100000 ∈ TB := tb_of (List.mem_of_getElem? (i := 380) rfl) rfl
set_option maxRecDepth 20000 in
theorem wm_X7_145 : Cond.methodLink RX7 145 yX6_tell ∈ TB := tb_of (List.mem_of_getElem? (i := 381) rfl) rfl
set_option maxRecDepth 20000 in
theorem wi_X6_tell : Cond.instanceMethod yX6_tell ∈ TB := tb_of (List.mem_of_getElem? (i := 382) rfl) rfl
set_option maxRecDepth 20000 in
theorem ws_X6_tell : Cond.selects RX6 yX6_tell yX6_tell ∈ TB := tb_of (List.mem_of_getElem? (i := 383) rfl) rfl
set_option maxRecDepth 20000 in
theorem wc_X6_tell : Cond.code yX6_tell cX6_tell 6 (some .int) ∈ TB := tb_of (List.mem_of_getElem? (i := 384) rfl) rfl
set_option maxRecDepth 20000 in
theorem wm_L_49 : Cond.methodLink RL 49 yX7_push ∈ TB := tb_of (List.mem_of_getElem? (i := 385) rfl) rfl
set_option maxRecDepth 20000 in
theorem wi_X7_push : Cond.instanceMethod yX7_push ∈ TB := tb_of (List.mem_of_getElem? (i := 386) rfl) rfl
set_option maxRecDepth 20000 in
theorem ws_X7_push : Cond.selects RX7 yX7_push yX7_push ∈ TB := tb_of (List.mem_of_getElem? (i := 387) rfl) rfl
set_option maxRecDepth 20000 in
theorem wc_X7_push : Cond.code yX7_push cX7_push 6 (some .int) ∈ TB := tb_of (List.mem_of_getElem? (i := 388) rfl) rfl
set_option maxRecDepth 20000 in
theorem wm_X7_149 : Cond.methodLink RX7 149 yX7_attempt ∈ TB := tb_of (List.mem_of_getElem? (i := 389) rfl) rfl
set_option maxRecDepth 20000 in
theorem wi_X7_attempt : Cond.instanceMethod yX7_attempt ∈ TB := tb_of (List.mem_of_getElem? (i := 391) rfl) rfl
set_option maxRecDepth 20000 in
theorem wc_X7_attempt : Cond.code yX7_attempt cX7_attempt 7 (some .int) ∈ TB := tb_of (List.mem_of_getElem? (i := 392) rfl) rfl
set_option maxRecDepth 20000 in
theorem wm_X7_152 : Cond.methodLink RX7 152 yX7_earlierAt ∈ TB := tb_of (List.mem_of_getElem? (i := 393) rfl) rfl
set_option maxRecDepth 20000 in
theorem wi_X7_earlierAt : Cond.instanceMethod yX7_earlierAt ∈ TB := tb_of (List.mem_of_getElem? (i := 395) rfl) rfl
set_option maxRecDepth 20000 in
theorem wc_X7_earlierAt : Cond.code yX7_earlierAt cX7_earlierAt 3 (some (.object "OilLine$Moment")) ∈ TB := tb_of (List.mem_of_getElem? (i := 396) rfl) rfl
set_option maxRecDepth 20000 in
theorem wm_X7_258 : Cond.methodLink RX7 258 Lib.Math.min.name ∈ TB := tb_of (List.mem_of_getElem? (i := 397) rfl) rfl
set_option maxRecDepth 20000 in
theorem wt_min : Cond.static Lib.Math.min.name ∈ TB := tb_of (List.mem_of_getElem? (i := 398) rfl) rfl
set_option maxRecDepth 20000 in
theorem wc_min : Cond.code Lib.Math.min.name Lib.Math.min.code 2 (some .int) ∈ TB := tb_of (List.mem_of_getElem? (i := 399) rfl) rfl
set_option maxRecDepth 20000 in
theorem wm_X7_263 : Cond.methodLink RX7 263 Lib.Math.max.name ∈ TB := tb_of (List.mem_of_getElem? (i := 400) rfl) rfl
set_option maxRecDepth 20000 in
theorem wt_max : Cond.static Lib.Math.max.name ∈ TB := tb_of (List.mem_of_getElem? (i := 401) rfl) rfl
set_option maxRecDepth 20000 in
theorem wc_max : Cond.code Lib.Math.max.name Lib.Math.max.code 2 (some .int) ∈ TB := tb_of (List.mem_of_getElem? (i := 402) rfl) rfl
set_option maxRecDepth 20000 in
theorem wm_X7_156 : Cond.methodLink RX7 156 yX1_copyFrom ∈ TB := tb_of (List.mem_of_getElem? (i := 403) rfl) rfl
set_option maxRecDepth 20000 in
theorem wi_X1_copyFrom : Cond.instanceMethod yX1_copyFrom ∈ TB := tb_of (List.mem_of_getElem? (i := 404) rfl) rfl
set_option maxRecDepth 20000 in
theorem ws_X1_copyFrom : Cond.selects RX1 yX1_copyFrom yX1_copyFrom ∈ TB := tb_of (List.mem_of_getElem? (i := 405) rfl) rfl
set_option maxRecDepth 20000 in
theorem wc_X1_copyFrom : Cond.code yX1_copyFrom cX1_copyFrom 2 none ∈ TB := tb_of (List.mem_of_getElem? (i := 406) rfl) rfl
set_option maxRecDepth 20000 in
theorem wm_X1_49 : Cond.methodLink RX1 49 yX2_copyFrom ∈ TB := tb_of (List.mem_of_getElem? (i := 407) rfl) rfl
set_option maxRecDepth 20000 in
theorem wi_X2_copyFrom : Cond.instanceMethod yX2_copyFrom ∈ TB := tb_of (List.mem_of_getElem? (i := 408) rfl) rfl
set_option maxRecDepth 20000 in
theorem ws_X2_copyFrom : Cond.selects RX2 yX2_copyFrom yX2_copyFrom ∈ TB := tb_of (List.mem_of_getElem? (i := 409) rfl) rfl
set_option maxRecDepth 20000 in
theorem wc_X2_copyFrom : Cond.code yX2_copyFrom cX2_copyFrom 2 none ∈ TB := tb_of (List.mem_of_getElem? (i := 410) rfl) rfl
set_option maxRecDepth 20000 in
theorem wm_X2_32 : Cond.methodLink RX2 32 arraycopyName ∈ TB := tb_of (List.mem_of_getElem? (i := 411) rfl) rfl
set_option maxRecDepth 20000 in
theorem wt_acp : Cond.static arraycopyName ∈ TB := tb_of (List.mem_of_getElem? (i := 412) rfl) rfl
set_option maxRecDepth 20000 in
theorem wa_acp : Cond.native arraycopyName ∈ TB := tb_of (List.mem_of_getElem? (i := 413) rfl) rfl
set_option maxRecDepth 20000 in
theorem wm_X1_53 : Cond.methodLink RX1 53 yX4_copyFrom ∈ TB := tb_of (List.mem_of_getElem? (i := 414) rfl) rfl
set_option maxRecDepth 20000 in
theorem wi_X4_copyFrom : Cond.instanceMethod yX4_copyFrom ∈ TB := tb_of (List.mem_of_getElem? (i := 415) rfl) rfl
set_option maxRecDepth 20000 in
theorem ws_X4_copyFrom : Cond.selects RX4 yX4_copyFrom yX4_copyFrom ∈ TB := tb_of (List.mem_of_getElem? (i := 416) rfl) rfl
set_option maxRecDepth 20000 in
theorem wc_X4_copyFrom : Cond.code yX4_copyFrom cX4_copyFrom 2 none ∈ TB := tb_of (List.mem_of_getElem? (i := 417) rfl) rfl
set_option maxRecDepth 20000 in
theorem wm_X4_30 : Cond.methodLink RX4 30 arraycopyName ∈ TB := tb_of (List.mem_of_getElem? (i := 418) rfl) rfl
set_option maxRecDepth 20000 in
theorem wm_X1_56 : Cond.methodLink RX1 56 arraycopyName ∈ TB := tb_of (List.mem_of_getElem? (i := 419) rfl) rfl
set_option maxRecDepth 20000 in
theorem wm_X7_236 : Cond.methodLink RX7 236 yX3_set ∈ TB := tb_of (List.mem_of_getElem? (i := 420) rfl) rfl
set_option maxRecDepth 20000 in
theorem wi_X3_set : Cond.instanceMethod yX3_set ∈ TB := tb_of (List.mem_of_getElem? (i := 421) rfl) rfl
set_option maxRecDepth 20000 in
theorem ws_X3_set : Cond.selects RX3 yX3_set yX3_set ∈ TB := tb_of (List.mem_of_getElem? (i := 422) rfl) rfl
set_option maxRecDepth 20000 in
theorem wc_X3_set : Cond.code yX3_set cX3_set 5 none ∈ TB := tb_of (List.mem_of_getElem? (i := 423) rfl) rfl
set_option maxRecDepth 20000 in
theorem wN_X3_25 : Cond.methodLinkNest RX3 25 yX7_tankNumber "OilLine" ∈ lw_tbl := List.mem_of_getElem? (i := 424) rfl
set_option maxRecDepth 20000 in
theorem wm_X7_240 : Cond.methodLink RX7 240 yX1_flow ∈ TB := tb_of (List.mem_of_getElem? (i := 425) rfl) rfl
set_option maxRecDepth 20000 in
theorem wi_X1_flow : Cond.instanceMethod yX1_flow ∈ TB := tb_of (List.mem_of_getElem? (i := 426) rfl) rfl
set_option maxRecDepth 20000 in
theorem ws_X1_flow : Cond.selects RX1 yX1_flow yX1_flow ∈ TB := tb_of (List.mem_of_getElem? (i := 427) rfl) rfl
set_option maxRecDepth 20000 in
theorem wc_X1_flow : Cond.code yX1_flow cX1_flow 7 (some .int) ∈ TB := tb_of (List.mem_of_getElem? (i := 428) rfl) rfl
set_option maxRecDepth 20000 in
theorem wm_X1_62 : Cond.methodLink RX1 62 yX1_step ∈ TB := tb_of (List.mem_of_getElem? (i := 429) rfl) rfl
set_option maxRecDepth 20000 in
theorem wi_X1_step : Cond.instanceMethod yX1_step ∈ TB := tb_of (List.mem_of_getElem? (i := 431) rfl) rfl
set_option maxRecDepth 20000 in
theorem wc_X1_step : Cond.code yX1_step cX1_step 8 (some .int) ∈ TB := tb_of (List.mem_of_getElem? (i := 432) rfl) rfl
set_option maxRecDepth 20000 in
theorem wm_X1_89 : Cond.methodLink RX1 89 yX1_sinkFor ∈ TB := tb_of (List.mem_of_getElem? (i := 433) rfl) rfl
set_option maxRecDepth 20000 in
theorem wi_X1_sinkFor : Cond.instanceMethod yX1_sinkFor ∈ TB := tb_of (List.mem_of_getElem? (i := 435) rfl) rfl
set_option maxRecDepth 20000 in
theorem wc_X1_sinkFor : Cond.code yX1_sinkFor cX1_sinkFor 7 (some .int) ∈ TB := tb_of (List.mem_of_getElem? (i := 436) rfl) rfl
set_option maxRecDepth 20000 in
theorem wN_X1_141 : Cond.methodLinkNest RX1 141 yX7_tankNumber "OilLine" ∈ lw_tbl := List.mem_of_getElem? (i := 437) rfl
set_option maxRecDepth 20000 in
theorem wm_X1_130 : Cond.methodLink RX1 130 yX2_isPure ∈ TB := tb_of (List.mem_of_getElem? (i := 438) rfl) rfl
set_option maxRecDepth 20000 in
theorem wi_X2_isPure : Cond.instanceMethod yX2_isPure ∈ TB := tb_of (List.mem_of_getElem? (i := 439) rfl) rfl
set_option maxRecDepth 20000 in
theorem ws_X2_isPure : Cond.selects RX2 yX2_isPure yX2_isPure ∈ TB := tb_of (List.mem_of_getElem? (i := 440) rfl) rfl
set_option maxRecDepth 20000 in
theorem wc_X2_isPure : Cond.code yX2_isPure cX2_isPure 2 (some .boolean) ∈ TB := tb_of (List.mem_of_getElem? (i := 441) rfl) rfl
set_option maxRecDepth 20000 in
theorem wm_X1_150 : Cond.methodLink RX1 150 yX4_bearsForeign ∈ TB := tb_of (List.mem_of_getElem? (i := 442) rfl) rfl
set_option maxRecDepth 20000 in
theorem wi_X4_bearsForeign : Cond.instanceMethod yX4_bearsForeign ∈ TB := tb_of (List.mem_of_getElem? (i := 443) rfl) rfl
set_option maxRecDepth 20000 in
theorem ws_X4_bearsForeign : Cond.selects RX4 yX4_bearsForeign yX4_bearsForeign ∈ TB := tb_of (List.mem_of_getElem? (i := 444) rfl) rfl
set_option maxRecDepth 20000 in
theorem wc_X4_bearsForeign : Cond.code yX4_bearsForeign cX4_bearsForeign 3 (some .boolean) ∈ TB := tb_of (List.mem_of_getElem? (i := 445) rfl) rfl
set_option maxRecDepth 20000 in
theorem wm_X1_96 : Cond.methodLink RX1 96 yX1_letOut ∈ TB := tb_of (List.mem_of_getElem? (i := 446) rfl) rfl
set_option maxRecDepth 20000 in
theorem wi_X1_letOut : Cond.instanceMethod yX1_letOut ∈ TB := tb_of (List.mem_of_getElem? (i := 448) rfl) rfl
set_option maxRecDepth 20000 in
theorem wc_X1_letOut : Cond.code yX1_letOut cX1_letOut 4 none ∈ TB := tb_of (List.mem_of_getElem? (i := 449) rfl) rfl
set_option maxRecDepth 20000 in
theorem wm_X1_134 : Cond.methodLink RX1 134 yX4_putOne ∈ TB := tb_of (List.mem_of_getElem? (i := 450) rfl) rfl
set_option maxRecDepth 20000 in
theorem wi_X4_putOne : Cond.instanceMethod yX4_putOne ∈ TB := tb_of (List.mem_of_getElem? (i := 451) rfl) rfl
set_option maxRecDepth 20000 in
theorem ws_X4_putOne : Cond.selects RX4 yX4_putOne yX4_putOne ∈ TB := tb_of (List.mem_of_getElem? (i := 452) rfl) rfl
set_option maxRecDepth 20000 in
theorem wc_X4_putOne : Cond.code yX4_putOne cX4_putOne 3 none ∈ TB := tb_of (List.mem_of_getElem? (i := 453) rfl) rfl
set_option maxRecDepth 20000 in
theorem wm_X1_103 : Cond.methodLink RX1 103 yX2_moveOn ∈ TB := tb_of (List.mem_of_getElem? (i := 454) rfl) rfl
set_option maxRecDepth 20000 in
theorem wi_X2_moveOn : Cond.instanceMethod yX2_moveOn ∈ TB := tb_of (List.mem_of_getElem? (i := 455) rfl) rfl
set_option maxRecDepth 20000 in
theorem ws_X2_moveOn : Cond.selects RX2 yX2_moveOn yX2_moveOn ∈ TB := tb_of (List.mem_of_getElem? (i := 456) rfl) rfl
set_option maxRecDepth 20000 in
theorem wc_X2_moveOn : Cond.code yX2_moveOn cX2_moveOn 4 none ∈ TB := tb_of (List.mem_of_getElem? (i := 457) rfl) rfl
set_option maxRecDepth 20000 in
theorem wm_X1_110 : Cond.methodLink RX1 110 yX2_put ∈ TB := tb_of (List.mem_of_getElem? (i := 458) rfl) rfl
set_option maxRecDepth 20000 in
theorem wm_X1_113 : Cond.methodLink RX1 113 yX4_takeOne ∈ TB := tb_of (List.mem_of_getElem? (i := 459) rfl) rfl
set_option maxRecDepth 20000 in
theorem wi_X4_takeOne : Cond.instanceMethod yX4_takeOne ∈ TB := tb_of (List.mem_of_getElem? (i := 460) rfl) rfl
set_option maxRecDepth 20000 in
theorem ws_X4_takeOne : Cond.selects RX4 yX4_takeOne yX4_takeOne ∈ TB := tb_of (List.mem_of_getElem? (i := 461) rfl) rfl
set_option maxRecDepth 20000 in
theorem wc_X4_takeOne : Cond.code yX4_takeOne cX4_takeOne 2 none ∈ TB := tb_of (List.mem_of_getElem? (i := 462) rfl) rfl
set_option maxRecDepth 20000 in
theorem wm_X4_36 : Cond.methodLink RX4 36 Lib.Math.min.name ∈ TB := tb_of (List.mem_of_getElem? (i := 463) rfl) rfl
set_option maxRecDepth 20000 in
theorem wm_X1_116 : Cond.methodLink RX1 116 yX2_mixBorders ∈ TB := tb_of (List.mem_of_getElem? (i := 464) rfl) rfl
set_option maxRecDepth 20000 in
theorem wi_X2_mixBorders : Cond.instanceMethod yX2_mixBorders ∈ TB := tb_of (List.mem_of_getElem? (i := 465) rfl) rfl
set_option maxRecDepth 20000 in
theorem ws_X2_mixBorders : Cond.selects RX2 yX2_mixBorders yX2_mixBorders ∈ TB := tb_of (List.mem_of_getElem? (i := 466) rfl) rfl
set_option maxRecDepth 20000 in
theorem wc_X2_mixBorders : Cond.code yX2_mixBorders cX2_mixBorders 7 none ∈ TB := tb_of (List.mem_of_getElem? (i := 467) rfl) rfl
set_option maxRecDepth 20000 in
theorem wm_X2_38 : Cond.methodLink RX2 38 yX2_isPure ∈ TB := tb_of (List.mem_of_getElem? (i := 468) rfl) rfl
set_option maxRecDepth 20000 in
theorem wm_X2_49 : Cond.methodLink RX2 49 yX2_farSide ∈ TB := tb_of (List.mem_of_getElem? (i := 469) rfl) rfl
set_option maxRecDepth 20000 in
theorem wi_X2_farSide : Cond.instanceMethod yX2_farSide ∈ TB := tb_of (List.mem_of_getElem? (i := 471) rfl) rfl
set_option maxRecDepth 20000 in
theorem wc_X2_farSide : Cond.code yX2_farSide cX2_farSide 5 (some .int) ∈ TB := tb_of (List.mem_of_getElem? (i := 472) rfl) rfl
set_option maxRecDepth 20000 in
theorem wm_X2_56 : Cond.methodLink RX2 56 yX5_mixOf ∈ TB := tb_of (List.mem_of_getElem? (i := 473) rfl) rfl
set_option maxRecDepth 20000 in
theorem wi_X5_mixOf : Cond.instanceMethod yX5_mixOf ∈ TB := tb_of (List.mem_of_getElem? (i := 474) rfl) rfl
set_option maxRecDepth 20000 in
theorem ws_X5_mixOf : Cond.selects RX5 yX5_mixOf yX5_mixOf ∈ TB := tb_of (List.mem_of_getElem? (i := 475) rfl) rfl
set_option maxRecDepth 20000 in
theorem wc_X5_mixOf : Cond.code yX5_mixOf cX5_mixOf 3 (some .int) ∈ TB := tb_of (List.mem_of_getElem? (i := 476) rfl) rfl
set_option maxRecDepth 20000 in
theorem wm_X2_62 : Cond.methodLink RX2 62 yX2_hindIsNext ∈ TB := tb_of (List.mem_of_getElem? (i := 477) rfl) rfl
set_option maxRecDepth 20000 in
theorem wi_X2_hindIsNext : Cond.instanceMethod yX2_hindIsNext ∈ TB := tb_of (List.mem_of_getElem? (i := 479) rfl) rfl
set_option maxRecDepth 20000 in
theorem wc_X2_hindIsNext : Cond.code yX2_hindIsNext cX2_hindIsNext 4 (some .boolean) ∈ TB := tb_of (List.mem_of_getElem? (i := 480) rfl) rfl
set_option maxRecDepth 20000 in
theorem wm_X2_53 : Cond.methodLink RX2 53 yX2_mixOne ∈ TB := tb_of (List.mem_of_getElem? (i := 481) rfl) rfl
set_option maxRecDepth 20000 in
theorem wi_X2_mixOne : Cond.instanceMethod yX2_mixOne ∈ TB := tb_of (List.mem_of_getElem? (i := 483) rfl) rfl
set_option maxRecDepth 20000 in
theorem wc_X2_mixOne : Cond.code yX2_mixOne cX2_mixOne 8 none ∈ TB := tb_of (List.mem_of_getElem? (i := 484) rfl) rfl
set_option maxRecDepth 20000 in
theorem wm_X1_120 : Cond.methodLink RX1 120 yX2_clashesAt ∈ TB := tb_of (List.mem_of_getElem? (i := 485) rfl) rfl
set_option maxRecDepth 20000 in
theorem wi_X2_clashesAt : Cond.instanceMethod yX2_clashesAt ∈ TB := tb_of (List.mem_of_getElem? (i := 486) rfl) rfl
set_option maxRecDepth 20000 in
theorem ws_X2_clashesAt : Cond.selects RX2 yX2_clashesAt yX2_clashesAt ∈ TB := tb_of (List.mem_of_getElem? (i := 487) rfl) rfl
set_option maxRecDepth 20000 in
theorem wc_X2_clashesAt : Cond.code yX2_clashesAt cX2_clashesAt 5 (some .boolean) ∈ TB := tb_of (List.mem_of_getElem? (i := 488) rfl) rfl
set_option maxRecDepth 20000 in
theorem wm_X2_42 : Cond.methodLink RX2 42 yX2_neighbourToBegin ∈ TB := tb_of (List.mem_of_getElem? (i := 489) rfl) rfl
set_option maxRecDepth 20000 in
theorem wi_X2_neighbourToBegin : Cond.instanceMethod yX2_neighbourToBegin ∈ TB := tb_of (List.mem_of_getElem? (i := 490) rfl) rfl
set_option maxRecDepth 20000 in
theorem ws_X2_neighbourToBegin : Cond.selects RX2 yX2_neighbourToBegin yX2_neighbourToBegin ∈ TB := tb_of (List.mem_of_getElem? (i := 491) rfl) rfl
set_option maxRecDepth 20000 in
theorem wc_X2_neighbourToBegin : Cond.code yX2_neighbourToBegin cX2_neighbourToBegin 3 (some .int) ∈ TB := tb_of (List.mem_of_getElem? (i := 492) rfl) rfl
set_option maxRecDepth 20000 in
theorem wm_X2_66 : Cond.methodLink RX2 66 yX2_neighbourToEnd ∈ TB := tb_of (List.mem_of_getElem? (i := 493) rfl) rfl
set_option maxRecDepth 20000 in
theorem wi_X2_neighbourToEnd : Cond.instanceMethod yX2_neighbourToEnd ∈ TB := tb_of (List.mem_of_getElem? (i := 494) rfl) rfl
set_option maxRecDepth 20000 in
theorem ws_X2_neighbourToEnd : Cond.selects RX2 yX2_neighbourToEnd yX2_neighbourToEnd ∈ TB := tb_of (List.mem_of_getElem? (i := 495) rfl) rfl
set_option maxRecDepth 20000 in
theorem wc_X2_neighbourToEnd : Cond.code yX2_neighbourToEnd cX2_neighbourToEnd 3 (some .int) ∈ TB := tb_of (List.mem_of_getElem? (i := 496) rfl) rfl
set_option maxRecDepth 20000 in
theorem wm_X2_69 : Cond.methodLink RX2 69 yX2_clash ∈ TB := tb_of (List.mem_of_getElem? (i := 497) rfl) rfl
set_option maxRecDepth 20000 in
theorem wi_X2_clash : Cond.instanceMethod yX2_clash ∈ TB := tb_of (List.mem_of_getElem? (i := 499) rfl) rfl
set_option maxRecDepth 20000 in
theorem wc_X2_clash : Cond.code yX2_clash cX2_clash 4 (some .boolean) ∈ TB := tb_of (List.mem_of_getElem? (i := 500) rfl) rfl
set_option maxRecDepth 20000 in
theorem wm_X2_73 : Cond.methodLink RX2 73 yX5_mayFollow ∈ TB := tb_of (List.mem_of_getElem? (i := 501) rfl) rfl
set_option maxRecDepth 20000 in
theorem wi_X5_mayFollow : Cond.instanceMethod yX5_mayFollow ∈ TB := tb_of (List.mem_of_getElem? (i := 502) rfl) rfl
set_option maxRecDepth 20000 in
theorem ws_X5_mayFollow : Cond.selects RX5 yX5_mayFollow yX5_mayFollow ∈ TB := tb_of (List.mem_of_getElem? (i := 503) rfl) rfl
set_option maxRecDepth 20000 in
theorem wc_X5_mayFollow : Cond.code yX5_mayFollow cX5_mayFollow 3 (some .boolean) ∈ TB := tb_of (List.mem_of_getElem? (i := 504) rfl) rfl
set_option maxRecDepth 20000 in
theorem wm_X7_244 : Cond.methodLink RX7 244 yX7_hoursFor ∈ TB := tb_of (List.mem_of_getElem? (i := 505) rfl) rfl
set_option maxRecDepth 20000 in
theorem wi_X7_hoursFor : Cond.instanceMethod yX7_hoursFor ∈ TB := tb_of (List.mem_of_getElem? (i := 507) rfl) rfl
set_option maxRecDepth 20000 in
theorem wc_X7_hoursFor : Cond.code yX7_hoursFor cX7_hoursFor 5 (some .int) ∈ TB := tb_of (List.mem_of_getElem? (i := 508) rfl) rfl
set_option maxRecDepth 20000 in
theorem wm_X7_248 : Cond.methodLink RX7 248 yX1_pass ∈ TB := tb_of (List.mem_of_getElem? (i := 509) rfl) rfl
set_option maxRecDepth 20000 in
theorem wi_X1_pass : Cond.instanceMethod yX1_pass ∈ TB := tb_of (List.mem_of_getElem? (i := 510) rfl) rfl
set_option maxRecDepth 20000 in
theorem ws_X1_pass : Cond.selects RX1 yX1_pass yX1_pass ∈ TB := tb_of (List.mem_of_getElem? (i := 511) rfl) rfl
set_option maxRecDepth 20000 in
theorem wc_X1_pass : Cond.code yX1_pass cX1_pass 4 none ∈ TB := tb_of (List.mem_of_getElem? (i := 512) rfl) rfl
set_option maxRecDepth 20000 in
theorem wm_X1_157 : Cond.methodLink RX1 157 yX5_priceAt ∈ TB := tb_of (List.mem_of_getElem? (i := 513) rfl) rfl
set_option maxRecDepth 20000 in
theorem wi_X5_priceAt : Cond.instanceMethod yX5_priceAt ∈ TB := tb_of (List.mem_of_getElem? (i := 514) rfl) rfl
set_option maxRecDepth 20000 in
theorem ws_X5_priceAt : Cond.selects RX5 yX5_priceAt yX5_priceAt ∈ TB := tb_of (List.mem_of_getElem? (i := 515) rfl) rfl
set_option maxRecDepth 20000 in
theorem wc_X5_priceAt : Cond.code yX5_priceAt cX5_priceAt 2 (some .int) ∈ TB := tb_of (List.mem_of_getElem? (i := 516) rfl) rfl
set_option maxRecDepth 20000 in
theorem wm_X5_31 : Cond.methodLink RX5 31 yJ9_floorMod_7cf53 ∈ TB := tb_of (List.mem_of_getElem? (i := 517) rfl) rfl
set_option maxRecDepth 20000 in
theorem wt_J9_floorMod_7cf53 : Cond.static yJ9_floorMod_7cf53 ∈ TB := tb_of (List.mem_of_getElem? (i := 518) rfl) rfl
set_option maxRecDepth 20000 in
theorem wc_J9_floorMod_7cf53 : Cond.code yJ9_floorMod_7cf53 cJ9_floorMod_7cf53 3 (some .int) ∈ TB := tb_of (List.mem_of_getElem? (i := 519) rfl) rfl
set_option maxRecDepth 20000 in
theorem wm_X7_252 : Cond.methodLink RX7 252 yX6_keep ∈ TB := tb_of (List.mem_of_getElem? (i := 520) rfl) rfl
set_option maxRecDepth 20000 in
theorem wi_X6_keep : Cond.instanceMethod yX6_keep ∈ TB := tb_of (List.mem_of_getElem? (i := 521) rfl) rfl
set_option maxRecDepth 20000 in
theorem ws_X6_keep : Cond.selects RX6 yX6_keep yX6_keep ∈ TB := tb_of (List.mem_of_getElem? (i := 522) rfl) rfl
set_option maxRecDepth 20000 in
theorem wc_X6_keep : Cond.code yX6_keep cX6_keep 3 none ∈ TB := tb_of (List.mem_of_getElem? (i := 523) rfl) rfl
set_option maxRecDepth 20000 in
theorem wm_X6_48 : Cond.methodLink RX6 48 yX6_wanting ∈ TB := tb_of (List.mem_of_getElem? (i := 524) rfl) rfl
set_option maxRecDepth 20000 in
theorem wi_X6_wanting : Cond.instanceMethod yX6_wanting ∈ TB := tb_of (List.mem_of_getElem? (i := 525) rfl) rfl
set_option maxRecDepth 20000 in
theorem ws_X6_wanting : Cond.selects RX6 yX6_wanting yX6_wanting ∈ TB := tb_of (List.mem_of_getElem? (i := 526) rfl) rfl
set_option maxRecDepth 20000 in
theorem wc_X6_wanting : Cond.code yX6_wanting cX6_wanting 4 (some .int) ∈ TB := tb_of (List.mem_of_getElem? (i := 527) rfl) rfl
set_option maxRecDepth 20000 in
theorem wm_X6_33 : Cond.methodLink RX6 33 Lib.Math.max.name ∈ TB := tb_of (List.mem_of_getElem? (i := 528) rfl) rfl
set_option maxRecDepth 20000 in
theorem wm_X7_255 : Cond.methodLink RX7 255 yX7_register ∈ TB := tb_of (List.mem_of_getElem? (i := 529) rfl) rfl
set_option maxRecDepth 20000 in
theorem wi_X7_register : Cond.instanceMethod yX7_register ∈ TB := tb_of (List.mem_of_getElem? (i := 531) rfl) rfl
set_option maxRecDepth 20000 in
theorem wc_X7_register : Cond.code yX7_register cX7_register 4 (some .int) ∈ TB := tb_of (List.mem_of_getElem? (i := 532) rfl) rfl
set_option maxRecDepth 20000 in
theorem wm_L_53 : Cond.methodLink RL 53 yX7_trial ∈ TB := tb_of (List.mem_of_getElem? (i := 533) rfl) rfl
set_option maxRecDepth 20000 in
theorem wi_X7_trial : Cond.instanceMethod yX7_trial ∈ TB := tb_of (List.mem_of_getElem? (i := 534) rfl) rfl
set_option maxRecDepth 20000 in
theorem ws_X7_trial : Cond.selects RX7 yX7_trial yX7_trial ∈ TB := tb_of (List.mem_of_getElem? (i := 535) rfl) rfl
set_option maxRecDepth 20000 in
theorem wc_X7_trial : Cond.code yX7_trial cX7_trial 6 (some .int) ∈ TB := tb_of (List.mem_of_getElem? (i := 536) rfl) rfl
set_option maxRecDepth 20000 in
theorem wm_L_57 : Cond.methodLink RL 57 yX7_undo ∈ TB := tb_of (List.mem_of_getElem? (i := 537) rfl) rfl
set_option maxRecDepth 20000 in
theorem wi_X7_undo : Cond.instanceMethod yX7_undo ∈ TB := tb_of (List.mem_of_getElem? (i := 538) rfl) rfl
set_option maxRecDepth 20000 in
theorem ws_X7_undo : Cond.selects RX7 yX7_undo yX7_undo ∈ TB := tb_of (List.mem_of_getElem? (i := 539) rfl) rfl
set_option maxRecDepth 20000 in
theorem wc_X7_undo : Cond.code yX7_undo cX7_undo 1 (some .int) ∈ TB := tb_of (List.mem_of_getElem? (i := 540) rfl) rfl
set_option maxRecDepth 20000 in
theorem wm_L_62 : Cond.methodLink RL 62 yX7_wait ∈ TB := tb_of (List.mem_of_getElem? (i := 541) rfl) rfl
set_option maxRecDepth 20000 in
theorem wi_X7_wait : Cond.instanceMethod yX7_wait ∈ TB := tb_of (List.mem_of_getElem? (i := 542) rfl) rfl
set_option maxRecDepth 20000 in
theorem ws_X7_wait : Cond.selects RX7 yX7_wait yX7_wait ∈ TB := tb_of (List.mem_of_getElem? (i := 543) rfl) rfl
set_option maxRecDepth 20000 in
theorem wc_X7_wait : Cond.code yX7_wait cX7_wait 2 (some .int) ∈ TB := tb_of (List.mem_of_getElem? (i := 544) rfl) rfl
set_option maxRecDepth 20000 in
theorem wm_L_66 : Cond.methodLink RL 66 yX7_at ∈ TB := tb_of (List.mem_of_getElem? (i := 545) rfl) rfl
set_option maxRecDepth 20000 in
theorem wi_X7_at : Cond.instanceMethod yX7_at ∈ TB := tb_of (List.mem_of_getElem? (i := 546) rfl) rfl
set_option maxRecDepth 20000 in
theorem ws_X7_at : Cond.selects RX7 yX7_at yX7_at ∈ TB := tb_of (List.mem_of_getElem? (i := 547) rfl) rfl
set_option maxRecDepth 20000 in
theorem wc_X7_at : Cond.code yX7_at cX7_at 4 (some .int) ∈ TB := tb_of (List.mem_of_getElem? (i := 548) rfl) rfl
set_option maxRecDepth 20000 in
theorem wm_X7_175 : Cond.methodLink RX7 175 yX2_isBorder ∈ TB := tb_of (List.mem_of_getElem? (i := 549) rfl) rfl
set_option maxRecDepth 20000 in
theorem wi_X2_isBorder : Cond.instanceMethod yX2_isBorder ∈ TB := tb_of (List.mem_of_getElem? (i := 550) rfl) rfl
set_option maxRecDepth 20000 in
theorem ws_X2_isBorder : Cond.selects RX2 yX2_isBorder yX2_isBorder ∈ TB := tb_of (List.mem_of_getElem? (i := 551) rfl) rfl
set_option maxRecDepth 20000 in
theorem wc_X2_isBorder : Cond.code yX2_isBorder cX2_isBorder 3 (some .boolean) ∈ TB := tb_of (List.mem_of_getElem? (i := 552) rfl) rfl
set_option maxRecDepth 20000 in
theorem wm_L_70 : Cond.methodLink RL 70 yX7_batch ∈ TB := tb_of (List.mem_of_getElem? (i := 553) rfl) rfl
set_option maxRecDepth 20000 in
theorem wi_X7_batch : Cond.instanceMethod yX7_batch ∈ TB := tb_of (List.mem_of_getElem? (i := 554) rfl) rfl
set_option maxRecDepth 20000 in
theorem ws_X7_batch : Cond.selects RX7 yX7_batch yX7_batch ∈ TB := tb_of (List.mem_of_getElem? (i := 555) rfl) rfl
set_option maxRecDepth 20000 in
theorem wc_X7_batch : Cond.code yX7_batch cX7_batch 3 (some .int) ∈ TB := tb_of (List.mem_of_getElem? (i := 556) rfl) rfl
set_option maxRecDepth 20000 in
theorem wm_X7_181 : Cond.methodLink RX7 181 yX2_countOf ∈ TB := tb_of (List.mem_of_getElem? (i := 557) rfl) rfl
set_option maxRecDepth 20000 in
theorem wi_X2_countOf : Cond.instanceMethod yX2_countOf ∈ TB := tb_of (List.mem_of_getElem? (i := 558) rfl) rfl
set_option maxRecDepth 20000 in
theorem ws_X2_countOf : Cond.selects RX2 yX2_countOf yX2_countOf ∈ TB := tb_of (List.mem_of_getElem? (i := 559) rfl) rfl
set_option maxRecDepth 20000 in
theorem wc_X2_countOf : Cond.code yX2_countOf cX2_countOf 4 (some .int) ∈ TB := tb_of (List.mem_of_getElem? (i := 560) rfl) rfl
set_option maxRecDepth 20000 in
theorem wm_X7_184 : Cond.methodLink RX7 184 yX2_leastOf ∈ TB := tb_of (List.mem_of_getElem? (i := 561) rfl) rfl
set_option maxRecDepth 20000 in
theorem wi_X2_leastOf : Cond.instanceMethod yX2_leastOf ∈ TB := tb_of (List.mem_of_getElem? (i := 562) rfl) rfl
set_option maxRecDepth 20000 in
theorem ws_X2_leastOf : Cond.selects RX2 yX2_leastOf yX2_leastOf ∈ TB := tb_of (List.mem_of_getElem? (i := 563) rfl) rfl
set_option maxRecDepth 20000 in
theorem wc_X2_leastOf : Cond.code yX2_leastOf cX2_leastOf 3 (some .int) ∈ TB := tb_of (List.mem_of_getElem? (i := 564) rfl) rfl
set_option maxRecDepth 20000 in
theorem wm_X7_187 : Cond.methodLink RX7 187 yX2_greatestOf ∈ TB := tb_of (List.mem_of_getElem? (i := 565) rfl) rfl
set_option maxRecDepth 20000 in
theorem wi_X2_greatestOf : Cond.instanceMethod yX2_greatestOf ∈ TB := tb_of (List.mem_of_getElem? (i := 566) rfl) rfl
set_option maxRecDepth 20000 in
theorem ws_X2_greatestOf : Cond.selects RX2 yX2_greatestOf yX2_greatestOf ∈ TB := tb_of (List.mem_of_getElem? (i := 567) rfl) rfl
set_option maxRecDepth 20000 in
theorem wc_X2_greatestOf : Cond.code yX2_greatestOf cX2_greatestOf 3 (some .int) ∈ TB := tb_of (List.mem_of_getElem? (i := 568) rfl) rfl
set_option maxRecDepth 20000 in
theorem wm_L_74 : Cond.methodLink RL 74 yX7_tankOf ∈ TB := tb_of (List.mem_of_getElem? (i := 569) rfl) rfl
set_option maxRecDepth 20000 in
theorem wi_X7_tankOf : Cond.instanceMethod yX7_tankOf ∈ TB := tb_of (List.mem_of_getElem? (i := 570) rfl) rfl
set_option maxRecDepth 20000 in
theorem ws_X7_tankOf : Cond.selects RX7 yX7_tankOf yX7_tankOf ∈ TB := tb_of (List.mem_of_getElem? (i := 571) rfl) rfl
set_option maxRecDepth 20000 in
theorem wc_X7_tankOf : Cond.code yX7_tankOf cX7_tankOf 5 (some .int) ∈ TB := tb_of (List.mem_of_getElem? (i := 572) rfl) rfl
set_option maxRecDepth 20000 in
theorem wm_L_79 : Cond.methodLink RL 79 yX7_about ∈ TB := tb_of (List.mem_of_getElem? (i := 573) rfl) rfl
set_option maxRecDepth 20000 in
theorem wi_X7_about : Cond.instanceMethod yX7_about ∈ TB := tb_of (List.mem_of_getElem? (i := 574) rfl) rfl
set_option maxRecDepth 20000 in
theorem ws_X7_about : Cond.selects RX7 yX7_about yX7_about ∈ TB := tb_of (List.mem_of_getElem? (i := 575) rfl) rfl
set_option maxRecDepth 20000 in
theorem wc_X7_about : Cond.code yX7_about cX7_about 3 (some .int) ∈ TB := tb_of (List.mem_of_getElem? (i := 576) rfl) rfl
set_option maxRecDepth 20000 in
theorem wm_L_83 : Cond.methodLink RL 83 yX7_wished ∈ TB := tb_of (List.mem_of_getElem? (i := 577) rfl) rfl
set_option maxRecDepth 20000 in
theorem wi_X7_wished : Cond.instanceMethod yX7_wished ∈ TB := tb_of (List.mem_of_getElem? (i := 578) rfl) rfl
set_option maxRecDepth 20000 in
theorem ws_X7_wished : Cond.selects RX7 yX7_wished yX7_wished ∈ TB := tb_of (List.mem_of_getElem? (i := 579) rfl) rfl
set_option maxRecDepth 20000 in
theorem wc_X7_wished : Cond.code yX7_wished cX7_wished 3 (some .int) ∈ TB := tb_of (List.mem_of_getElem? (i := 580) rfl) rfl
set_option maxRecDepth 20000 in
theorem wm_X7_211 : Cond.methodLink RX7 211 yX6_lateBy ∈ TB := tb_of (List.mem_of_getElem? (i := 581) rfl) rfl
set_option maxRecDepth 20000 in
theorem wi_X6_lateBy : Cond.instanceMethod yX6_lateBy ∈ TB := tb_of (List.mem_of_getElem? (i := 582) rfl) rfl
set_option maxRecDepth 20000 in
theorem ws_X6_lateBy : Cond.selects RX6 yX6_lateBy yX6_lateBy ∈ TB := tb_of (List.mem_of_getElem? (i := 583) rfl) rfl
set_option maxRecDepth 20000 in
theorem wc_X6_lateBy : Cond.code yX6_lateBy cX6_lateBy 4 (some .int) ∈ TB := tb_of (List.mem_of_getElem? (i := 584) rfl) rfl
set_option maxRecDepth 20000 in
theorem wm_X7_215 : Cond.methodLink RX7 215 yX6_wanting ∈ TB := tb_of (List.mem_of_getElem? (i := 585) rfl) rfl
set_option maxRecDepth 20000 in
theorem wm_L_87 : Cond.methodLink RL 87 yX7_count ∈ TB := tb_of (List.mem_of_getElem? (i := 586) rfl) rfl
set_option maxRecDepth 20000 in
theorem wi_X7_count : Cond.instanceMethod yX7_count ∈ TB := tb_of (List.mem_of_getElem? (i := 587) rfl) rfl
set_option maxRecDepth 20000 in
theorem ws_X7_count : Cond.selects RX7 yX7_count yX7_count ∈ TB := tb_of (List.mem_of_getElem? (i := 588) rfl) rfl
set_option maxRecDepth 20000 in
theorem wc_X7_count : Cond.code yX7_count cX7_count 2 (some .int) ∈ TB := tb_of (List.mem_of_getElem? (i := 589) rfl) rfl
set_option maxRecDepth 20000 in
theorem wm_X7_222 : Cond.methodLink RX7 222 yX2_countMixed ∈ TB := tb_of (List.mem_of_getElem? (i := 590) rfl) rfl
set_option maxRecDepth 20000 in
theorem wi_X2_countMixed : Cond.instanceMethod yX2_countMixed ∈ TB := tb_of (List.mem_of_getElem? (i := 591) rfl) rfl
set_option maxRecDepth 20000 in
theorem ws_X2_countMixed : Cond.selects RX2 yX2_countMixed yX2_countMixed ∈ TB := tb_of (List.mem_of_getElem? (i := 592) rfl) rfl
set_option maxRecDepth 20000 in
theorem wc_X2_countMixed : Cond.code yX2_countMixed cX2_countMixed 3 (some .int) ∈ TB := tb_of (List.mem_of_getElem? (i := 593) rfl) rfl
set_option maxRecDepth 20000 in
theorem wm_X7_226 : Cond.methodLink RX7 226 yX4_slopOfAll ∈ TB := tb_of (List.mem_of_getElem? (i := 594) rfl) rfl
set_option maxRecDepth 20000 in
theorem wi_X4_slopOfAll : Cond.instanceMethod yX4_slopOfAll ∈ TB := tb_of (List.mem_of_getElem? (i := 595) rfl) rfl
set_option maxRecDepth 20000 in
theorem ws_X4_slopOfAll : Cond.selects RX4 yX4_slopOfAll yX4_slopOfAll ∈ TB := tb_of (List.mem_of_getElem? (i := 596) rfl) rfl
set_option maxRecDepth 20000 in
theorem wc_X4_slopOfAll : Cond.code yX4_slopOfAll cX4_slopOfAll 3 (some .int) ∈ TB := tb_of (List.mem_of_getElem? (i := 597) rfl) rfl
set_option maxRecDepth 20000 in
theorem wm_X7_229 : Cond.methodLink RX7 229 yX6_lateByAll ∈ TB := tb_of (List.mem_of_getElem? (i := 598) rfl) rfl
set_option maxRecDepth 20000 in
theorem wi_X6_lateByAll : Cond.instanceMethod yX6_lateByAll ∈ TB := tb_of (List.mem_of_getElem? (i := 599) rfl) rfl
set_option maxRecDepth 20000 in
theorem ws_X6_lateByAll : Cond.selects RX6 yX6_lateByAll yX6_lateByAll ∈ TB := tb_of (List.mem_of_getElem? (i := 600) rfl) rfl
set_option maxRecDepth 20000 in
theorem wc_X6_lateByAll : Cond.code yX6_lateByAll cX6_lateByAll 4 (some .int) ∈ TB := tb_of (List.mem_of_getElem? (i := 601) rfl) rfl
set_option maxRecDepth 20000 in
theorem wm_X6_55 : Cond.methodLink RX6 55 yX6_lateBy ∈ TB := tb_of (List.mem_of_getElem? (i := 602) rfl) rfl
set_option maxRecDepth 20000 in
theorem wm_L_91 : Cond.methodLink RL 91 yX7_borders ∈ TB := tb_of (List.mem_of_getElem? (i := 603) rfl) rfl
set_option maxRecDepth 20000 in
theorem wi_X7_borders : Cond.instanceMethod yX7_borders ∈ TB := tb_of (List.mem_of_getElem? (i := 604) rfl) rfl
set_option maxRecDepth 20000 in
theorem ws_X7_borders : Cond.selects RX7 yX7_borders yX7_borders ∈ TB := tb_of (List.mem_of_getElem? (i := 605) rfl) rfl
set_option maxRecDepth 20000 in
theorem wc_X7_borders : Cond.code yX7_borders cX7_borders 1 (some .int) ∈ TB := tb_of (List.mem_of_getElem? (i := 606) rfl) rfl
set_option maxRecDepth 20000 in
theorem wm_X7_233 : Cond.methodLink RX7 233 yX2_countBorders ∈ TB := tb_of (List.mem_of_getElem? (i := 607) rfl) rfl
set_option maxRecDepth 20000 in
theorem wi_X2_countBorders : Cond.instanceMethod yX2_countBorders ∈ TB := tb_of (List.mem_of_getElem? (i := 608) rfl) rfl
set_option maxRecDepth 20000 in
theorem ws_X2_countBorders : Cond.selects RX2 yX2_countBorders yX2_countBorders ∈ TB := tb_of (List.mem_of_getElem? (i := 609) rfl) rfl
set_option maxRecDepth 20000 in
theorem wc_X2_countBorders : Cond.code yX2_countBorders cX2_countBorders 3 (some .int) ∈ TB := tb_of (List.mem_of_getElem? (i := 610) rfl) rfl
set_option maxRecDepth 20000 in
theorem wm_X2_46 : Cond.methodLink RX2 46 yX2_isBorder ∈ TB := tb_of (List.mem_of_getElem? (i := 611) rfl) rfl
set_option maxRecDepth 20000 in
theorem wk_L_10 : Cond.classLink RL 10 RX8 ∈ TB := tb_of (List.mem_of_getElem? (i := 612) rfl) rfl
set_option maxRecDepth 20000 in
theorem wb_X8 : Cond.instantiable RX8 35 ∈ TB := tb_of (List.mem_of_getElem? (i := 613) rfl) rfl
set_option maxRecDepth 20000 in
theorem wm_L_12 : Cond.methodLink RL 12 yX8_init ∈ TB := tb_of (List.mem_of_getElem? (i := 614) rfl) rfl
set_option maxRecDepth 20000 in
theorem wi_X8_init : Cond.instanceMethod yX8_init ∈ TB := tb_of (List.mem_of_getElem? (i := 615) rfl) rfl
set_option maxRecDepth 20000 in
theorem wc_X8_init : Cond.code yX8_init cX8_init 2 none ∈ TB := tb_of (List.mem_of_getElem? (i := 616) rfl) rfl
set_option maxRecDepth 20000 in
theorem wm_X8_7 : Cond.methodLink RX8 7 objectInit ∈ TB := tb_of (List.mem_of_getElem? (i := 617) rfl) rfl
set_option maxRecDepth 20000 in
theorem wv_X8_96 : Cond.constant RX8 96 180900 ∈ TB := tb_of (List.mem_of_getElem? (i := 618) rfl) rfl
set_option maxRecDepth 20000 in
theorem wm_X8_100 : Cond.methodLink RX8 100 yX8_line ∈ TB := tb_of (List.mem_of_getElem? (i := 619) rfl) rfl
set_option maxRecDepth 20000 in
theorem wi_X8_line : Cond.instanceMethod yX8_line ∈ TB := tb_of (List.mem_of_getElem? (i := 620) rfl) rfl
set_option maxRecDepth 20000 in
theorem ws_X8_line : Cond.selects RX8 yX8_line yX8_line ∈ TB := tb_of (List.mem_of_getElem? (i := 621) rfl) rfl
set_option maxRecDepth 20000 in
theorem wc_X8_line : Cond.code yX8_line cX8_line 3 (some .int) ∈ TB := tb_of (List.mem_of_getElem? (i := 622) rfl) rfl
set_option maxRecDepth 20000 in
theorem wm_X8_104 : Cond.methodLink RX8 104 yX8_in ∈ TB := tb_of (List.mem_of_getElem? (i := 623) rfl) rfl
set_option maxRecDepth 20000 in
theorem wt_X8_in : Cond.static yX8_in ∈ TB := tb_of (List.mem_of_getElem? (i := 624) rfl) rfl
set_option maxRecDepth 20000 in
theorem wc_X8_in : Cond.code yX8_in cX8_in 3 (some .boolean) ∈ TB := tb_of (List.mem_of_getElem? (i := 625) rfl) rfl
set_option maxRecDepth 20000 in
theorem wf_X8_13 : Cond.fieldLink RX8 13 "OilLineModel" "measures" "I" ∈ TB := tb_of (List.mem_of_getElem? (i := 626) rfl) rfl
set_option maxRecDepth 20000 in
theorem wf_X8_16 : Cond.fieldLink RX8 16 "OilLineModel" "batch" "[I" ∈ TB := tb_of (List.mem_of_getElem? (i := 627) rfl) rfl
set_option maxRecDepth 20000 in
theorem wf_X8_20 : Cond.fieldLink RX8 20 "OilLineModel" "hind" "[I" ∈ TB := tb_of (List.mem_of_getElem? (i := 628) rfl) rfl
set_option maxRecDepth 20000 in
theorem wf_X8_23 : Cond.fieldLink RX8 23 "OilLineModel" "fore" "[I" ∈ TB := tb_of (List.mem_of_getElem? (i := 629) rfl) rfl
set_option maxRecDepth 20000 in
theorem wf_X8_26 : Cond.fieldLink RX8 26 "OilLineModel" "went" "[I" ∈ TB := tb_of (List.mem_of_getElem? (i := 630) rfl) rfl
set_option maxRecDepth 20000 in
theorem wf_X8_29 : Cond.fieldLink RX8 29 "OilLineModel" "batches" "I" ∈ TB := tb_of (List.mem_of_getElem? (i := 631) rfl) rfl
set_option maxRecDepth 20000 in
theorem wf_X8_32 : Cond.fieldLink RX8 32 "OilLineModel" "batchKind" "[I" ∈ TB := tb_of (List.mem_of_getElem? (i := 632) rfl) rfl
set_option maxRecDepth 20000 in
theorem wf_X8_35 : Cond.fieldLink RX8 35 "OilLineModel" "batchDoor" "[I" ∈ TB := tb_of (List.mem_of_getElem? (i := 633) rfl) rfl
set_option maxRecDepth 20000 in
theorem wf_X8_38 : Cond.fieldLink RX8 38 "OilLineModel" "batchOut" "[I" ∈ TB := tb_of (List.mem_of_getElem? (i := 634) rfl) rfl
set_option maxRecDepth 20000 in
theorem wf_X8_108 : Cond.fieldLink RX8 108 "OilLineModel" "doors" "I" ∈ TB := tb_of (List.mem_of_getElem? (i := 635) rfl) rfl
set_option maxRecDepth 20000 in
theorem wf_X8_41 : Cond.fieldLink RX8 41 "OilLineModel" "place" "[I" ∈ TB := tb_of (List.mem_of_getElem? (i := 636) rfl) rfl
set_option maxRecDepth 20000 in
theorem wf_X8_44 : Cond.fieldLink RX8 44 "OilLineModel" "rates" "[I" ∈ TB := tb_of (List.mem_of_getElem? (i := 637) rfl) rfl
set_option maxRecDepth 20000 in
theorem wf_X8_47 : Cond.fieldLink RX8 47 "OilLineModel" "slop" "[I" ∈ TB := tb_of (List.mem_of_getElem? (i := 638) rfl) rfl
set_option maxRecDepth 20000 in
theorem wf_X8_50 : Cond.fieldLink RX8 50 "OilLineModel" "hasTank" "[Z" ∈ TB := tb_of (List.mem_of_getElem? (i := 639) rfl) rfl
set_option maxRecDepth 20000 in
theorem wf_X8_54 : Cond.fieldLink RX8 54 "OilLineModel" "least" "[I" ∈ TB := tb_of (List.mem_of_getElem? (i := 640) rfl) rfl
set_option maxRecDepth 20000 in
theorem wf_X8_57 : Cond.fieldLink RX8 57 "OilLineModel" "most" "[I" ∈ TB := tb_of (List.mem_of_getElem? (i := 641) rfl) rfl
set_option maxRecDepth 20000 in
theorem wf_X8_60 : Cond.fieldLink RX8 60 "OilLineModel" "amount" "[I" ∈ TB := tb_of (List.mem_of_getElem? (i := 642) rfl) rfl
set_option maxRecDepth 20000 in
theorem wf_X8_63 : Cond.fieldLink RX8 63 "OilLineModel" "foreign" "[I" ∈ TB := tb_of (List.mem_of_getElem? (i := 643) rfl) rfl
set_option maxRecDepth 20000 in
theorem wf_X8_66 : Cond.fieldLink RX8 66 "OilLineModel" "came" "[I" ∈ TB := tb_of (List.mem_of_getElem? (i := 644) rfl) rfl
set_option maxRecDepth 20000 in
theorem wf_X8_69 : Cond.fieldLink RX8 69 "OilLineModel" "never" "[Z" ∈ TB := tb_of (List.mem_of_getElem? (i := 645) rfl) rfl
set_option maxRecDepth 20000 in
theorem wf_X8_72 : Cond.fieldLink RX8 72 "OilLineModel" "mix" "[I" ∈ TB := tb_of (List.mem_of_getElem? (i := 646) rfl) rfl
set_option maxRecDepth 20000 in
theorem wf_X8_75 : Cond.fieldLink RX8 75 "OilLineModel" "grace" "[I" ∈ TB := tb_of (List.mem_of_getElem? (i := 647) rfl) rfl
set_option maxRecDepth 20000 in
theorem wf_X8_78 : Cond.fieldLink RX8 78 "OilLineModel" "price" "[I" ∈ TB := tb_of (List.mem_of_getElem? (i := 648) rfl) rfl
set_option maxRecDepth 20000 in
theorem wf_X8_114 : Cond.fieldLink RX8 114 "OilLineModel" "time" "I" ∈ TB := tb_of (List.mem_of_getElem? (i := 649) rfl) rfl
set_option maxRecDepth 20000 in
theorem wf_X8_117 : Cond.fieldLink RX8 117 "OilLineModel" "cost" "I" ∈ TB := tb_of (List.mem_of_getElem? (i := 650) rfl) rfl
set_option maxRecDepth 20000 in
theorem wf_X8_111 : Cond.fieldLink RX8 111 "OilLineModel" "wishes" "I" ∈ TB := tb_of (List.mem_of_getElem? (i := 651) rfl) rfl
set_option maxRecDepth 20000 in
theorem wf_X8_81 : Cond.fieldLink RX8 81 "OilLineModel" "wishTank" "[I" ∈ TB := tb_of (List.mem_of_getElem? (i := 652) rfl) rfl
set_option maxRecDepth 20000 in
theorem wf_X8_84 : Cond.fieldLink RX8 84 "OilLineModel" "wishMany" "[I" ∈ TB := tb_of (List.mem_of_getElem? (i := 653) rfl) rfl
set_option maxRecDepth 20000 in
theorem wf_X8_87 : Cond.fieldLink RX8 87 "OilLineModel" "wishBy" "[I" ∈ TB := tb_of (List.mem_of_getElem? (i := 654) rfl) rfl
set_option maxRecDepth 20000 in
theorem wf_X8_90 : Cond.fieldLink RX8 90 "OilLineModel" "wishFrom" "[I" ∈ TB := tb_of (List.mem_of_getElem? (i := 655) rfl) rfl
set_option maxRecDepth 20000 in
theorem wf_X8_93 : Cond.fieldLink RX8 93 "OilLineModel" "keptAt" "[I" ∈ TB := tb_of (List.mem_of_getElem? (i := 656) rfl) rfl
set_option maxRecDepth 20000 in
theorem wf_X8_97 : Cond.fieldLink RX8 97 "OilLineModel" "book" "[I" ∈ TB := tb_of (List.mem_of_getElem? (i := 657) rfl) rfl
set_option maxRecDepth 20000 in
theorem wf_X8_120 : Cond.fieldLink RX8 120 "OilLineModel" "pages" "I" ∈ TB := tb_of (List.mem_of_getElem? (i := 658) rfl) rfl
set_option maxRecDepth 20000 in
theorem wf_X8_135 : Cond.fieldLink RX8 135 "OilLineModel" "at" "I" ∈ TB := tb_of (List.mem_of_getElem? (i := 659) rfl) rfl
set_option maxRecDepth 20000 in
theorem wm_L_17 : Cond.methodLink RL 17 yX8_line ∈ TB := tb_of (List.mem_of_getElem? (i := 731) rfl) rfl
set_option maxRecDepth 20000 in
theorem wm_L_21 : Cond.methodLink RL 21 yX8_door ∈ TB := tb_of (List.mem_of_getElem? (i := 732) rfl) rfl
set_option maxRecDepth 20000 in
theorem wi_X8_door : Cond.instanceMethod yX8_door ∈ TB := tb_of (List.mem_of_getElem? (i := 733) rfl) rfl
set_option maxRecDepth 20000 in
theorem ws_X8_door : Cond.selects RX8 yX8_door yX8_door ∈ TB := tb_of (List.mem_of_getElem? (i := 734) rfl) rfl
set_option maxRecDepth 20000 in
theorem wc_X8_door : Cond.code yX8_door cX8_door 3 (some .int) ∈ TB := tb_of (List.mem_of_getElem? (i := 735) rfl) rfl
set_option maxRecDepth 20000 in
theorem wm_L_26 : Cond.methodLink RL 26 yX8_tank ∈ TB := tb_of (List.mem_of_getElem? (i := 736) rfl) rfl
set_option maxRecDepth 20000 in
theorem wi_X8_tank : Cond.instanceMethod yX8_tank ∈ TB := tb_of (List.mem_of_getElem? (i := 737) rfl) rfl
set_option maxRecDepth 20000 in
theorem ws_X8_tank : Cond.selects RX8 yX8_tank yX8_tank ∈ TB := tb_of (List.mem_of_getElem? (i := 738) rfl) rfl
set_option maxRecDepth 20000 in
theorem wc_X8_tank : Cond.code yX8_tank cX8_tank 7 (some .int) ∈ TB := tb_of (List.mem_of_getElem? (i := 739) rfl) rfl
set_option maxRecDepth 20000 in
theorem wm_X8_123 : Cond.methodLink RX8 123 yX8_isDoor ∈ TB := tb_of (List.mem_of_getElem? (i := 740) rfl) rfl
set_option maxRecDepth 20000 in
theorem wi_X8_isDoor : Cond.instanceMethod yX8_isDoor ∈ TB := tb_of (List.mem_of_getElem? (i := 742) rfl) rfl
set_option maxRecDepth 20000 in
theorem wc_X8_isDoor : Cond.code yX8_isDoor cX8_isDoor 2 (some .boolean) ∈ TB := tb_of (List.mem_of_getElem? (i := 743) rfl) rfl
set_option maxRecDepth 20000 in
theorem wm_X8_127 : Cond.methodLink RX8 127 yX8_isKind ∈ TB := tb_of (List.mem_of_getElem? (i := 744) rfl) rfl
set_option maxRecDepth 20000 in
theorem wt_X8_isKind : Cond.static yX8_isKind ∈ TB := tb_of (List.mem_of_getElem? (i := 745) rfl) rfl
set_option maxRecDepth 20000 in
theorem wc_X8_isKind : Cond.code yX8_isKind cX8_isKind 1 (some .boolean) ∈ TB := tb_of (List.mem_of_getElem? (i := 746) rfl) rfl
set_option maxRecDepth 20000 in
theorem wm_L_31 : Cond.methodLink RL 31 yX8_follow ∈ TB := tb_of (List.mem_of_getElem? (i := 747) rfl) rfl
set_option maxRecDepth 20000 in
theorem wi_X8_follow : Cond.instanceMethod yX8_follow ∈ TB := tb_of (List.mem_of_getElem? (i := 748) rfl) rfl
set_option maxRecDepth 20000 in
theorem ws_X8_follow : Cond.selects RX8 yX8_follow yX8_follow ∈ TB := tb_of (List.mem_of_getElem? (i := 749) rfl) rfl
set_option maxRecDepth 20000 in
theorem wc_X8_follow : Cond.code yX8_follow cX8_follow 5 (some .int) ∈ TB := tb_of (List.mem_of_getElem? (i := 750) rfl) rfl
set_option maxRecDepth 20000 in
theorem wm_L_36 : Cond.methodLink RL 36 yX8_grace ∈ TB := tb_of (List.mem_of_getElem? (i := 751) rfl) rfl
set_option maxRecDepth 20000 in
theorem wi_X8_grace : Cond.instanceMethod yX8_grace ∈ TB := tb_of (List.mem_of_getElem? (i := 752) rfl) rfl
set_option maxRecDepth 20000 in
theorem ws_X8_grace : Cond.selects RX8 yX8_grace yX8_grace ∈ TB := tb_of (List.mem_of_getElem? (i := 753) rfl) rfl
set_option maxRecDepth 20000 in
theorem wc_X8_grace : Cond.code yX8_grace cX8_grace 4 (some .int) ∈ TB := tb_of (List.mem_of_getElem? (i := 754) rfl) rfl
set_option maxRecDepth 20000 in
theorem wm_L_40 : Cond.methodLink RL 40 yX8_rate ∈ TB := tb_of (List.mem_of_getElem? (i := 755) rfl) rfl
set_option maxRecDepth 20000 in
theorem wi_X8_rate : Cond.instanceMethod yX8_rate ∈ TB := tb_of (List.mem_of_getElem? (i := 756) rfl) rfl
set_option maxRecDepth 20000 in
theorem ws_X8_rate : Cond.selects RX8 yX8_rate yX8_rate ∈ TB := tb_of (List.mem_of_getElem? (i := 757) rfl) rfl
set_option maxRecDepth 20000 in
theorem wc_X8_rate : Cond.code yX8_rate cX8_rate 4 (some .int) ∈ TB := tb_of (List.mem_of_getElem? (i := 758) rfl) rfl
set_option maxRecDepth 20000 in
theorem wm_L_44 : Cond.methodLink RL 44 yX8_price ∈ TB := tb_of (List.mem_of_getElem? (i := 759) rfl) rfl
set_option maxRecDepth 20000 in
theorem wi_X8_price : Cond.instanceMethod yX8_price ∈ TB := tb_of (List.mem_of_getElem? (i := 760) rfl) rfl
set_option maxRecDepth 20000 in
theorem ws_X8_price : Cond.selects RX8 yX8_price yX8_price ∈ TB := tb_of (List.mem_of_getElem? (i := 761) rfl) rfl
set_option maxRecDepth 20000 in
theorem wc_X8_price : Cond.code yX8_price cX8_price 4 (some .int) ∈ TB := tb_of (List.mem_of_getElem? (i := 762) rfl) rfl
set_option maxRecDepth 20000 in
theorem wm_L_48 : Cond.methodLink RL 48 yX8_wish ∈ TB := tb_of (List.mem_of_getElem? (i := 763) rfl) rfl
set_option maxRecDepth 20000 in
theorem wi_X8_wish : Cond.instanceMethod yX8_wish ∈ TB := tb_of (List.mem_of_getElem? (i := 764) rfl) rfl
set_option maxRecDepth 20000 in
theorem ws_X8_wish : Cond.selects RX8 yX8_wish yX8_wish ∈ TB := tb_of (List.mem_of_getElem? (i := 765) rfl) rfl
set_option maxRecDepth 20000 in
theorem wc_X8_wish : Cond.code yX8_wish cX8_wish 5 (some .int) ∈ TB := tb_of (List.mem_of_getElem? (i := 766) rfl) rfl
set_option maxRecDepth 20000 in
theorem wm_X8_130 : Cond.methodLink RX8 130 yX8_isTank ∈ TB := tb_of (List.mem_of_getElem? (i := 767) rfl) rfl
set_option maxRecDepth 20000 in
theorem wi_X8_isTank : Cond.instanceMethod yX8_isTank ∈ TB := tb_of (List.mem_of_getElem? (i := 769) rfl) rfl
set_option maxRecDepth 20000 in
theorem wc_X8_isTank : Cond.code yX8_isTank cX8_isTank 3 (some .boolean) ∈ TB := tb_of (List.mem_of_getElem? (i := 770) rfl) rfl
set_option maxRecDepth 20000 in
theorem wv_X8_134 : Cond.constant RX8 134 100000 ∈ TB := tb_of (List.mem_of_getElem? (i := 771) rfl) rfl
set_option maxRecDepth 20000 in
theorem wm_L_65 : Cond.methodLink RL 65 yX8_wait ∈ TB := tb_of (List.mem_of_getElem? (i := 772) rfl) rfl
set_option maxRecDepth 20000 in
theorem wi_X8_wait : Cond.instanceMethod yX8_wait ∈ TB := tb_of (List.mem_of_getElem? (i := 773) rfl) rfl
set_option maxRecDepth 20000 in
theorem ws_X8_wait : Cond.selects RX8 yX8_wait yX8_wait ∈ TB := tb_of (List.mem_of_getElem? (i := 774) rfl) rfl
set_option maxRecDepth 20000 in
theorem wc_X8_wait : Cond.code yX8_wait cX8_wait 2 (some .int) ∈ TB := tb_of (List.mem_of_getElem? (i := 775) rfl) rfl
set_option maxRecDepth 20000 in
theorem wm_L_52 : Cond.methodLink RL 52 yX8_push ∈ TB := tb_of (List.mem_of_getElem? (i := 776) rfl) rfl
set_option maxRecDepth 20000 in
theorem wi_X8_push : Cond.instanceMethod yX8_push ∈ TB := tb_of (List.mem_of_getElem? (i := 777) rfl) rfl
set_option maxRecDepth 20000 in
theorem ws_X8_push : Cond.selects RX8 yX8_push yX8_push ∈ TB := tb_of (List.mem_of_getElem? (i := 778) rfl) rfl
set_option maxRecDepth 20000 in
theorem wc_X8_push : Cond.code yX8_push cX8_push 6 (some .int) ∈ TB := tb_of (List.mem_of_getElem? (i := 779) rfl) rfl
set_option maxRecDepth 20000 in
theorem wm_X8_185 : Cond.methodLink RX8 185 yX8_tries ∈ TB := tb_of (List.mem_of_getElem? (i := 780) rfl) rfl
set_option maxRecDepth 20000 in
theorem wi_X8_tries : Cond.instanceMethod yX8_tries ∈ TB := tb_of (List.mem_of_getElem? (i := 782) rfl) rfl
set_option maxRecDepth 20000 in
theorem wc_X8_tries : Cond.code yX8_tries cX8_tries 7 (some .int) ∈ TB := tb_of (List.mem_of_getElem? (i := 783) rfl) rfl
set_option maxRecDepth 20000 in
theorem wm_X8_172 : Cond.methodLink RX8 172 yX8_writeDown ∈ TB := tb_of (List.mem_of_getElem? (i := 784) rfl) rfl
set_option maxRecDepth 20000 in
theorem wi_X8_writeDown : Cond.instanceMethod yX8_writeDown ∈ TB := tb_of (List.mem_of_getElem? (i := 786) rfl) rfl
set_option maxRecDepth 20000 in
theorem wc_X8_writeDown : Cond.code yX8_writeDown cX8_writeDown 2 none ∈ TB := tb_of (List.mem_of_getElem? (i := 787) rfl) rfl
set_option maxRecDepth 20000 in
theorem wm_X8_138 : Cond.methodLink RX8 138 yX8_note ∈ TB := tb_of (List.mem_of_getElem? (i := 788) rfl) rfl
set_option maxRecDepth 20000 in
theorem wi_X8_note : Cond.instanceMethod yX8_note ∈ TB := tb_of (List.mem_of_getElem? (i := 790) rfl) rfl
set_option maxRecDepth 20000 in
theorem wc_X8_note : Cond.code yX8_note cX8_note 2 none ∈ TB := tb_of (List.mem_of_getElem? (i := 791) rfl) rfl
set_option maxRecDepth 20000 in
theorem wm_X8_175 : Cond.methodLink RX8 175 yX8_steps ∈ TB := tb_of (List.mem_of_getElem? (i := 792) rfl) rfl
set_option maxRecDepth 20000 in
theorem wi_X8_steps : Cond.instanceMethod yX8_steps ∈ TB := tb_of (List.mem_of_getElem? (i := 794) rfl) rfl
set_option maxRecDepth 20000 in
theorem wc_X8_steps : Cond.code yX8_steps cX8_steps 8 (some .int) ∈ TB := tb_of (List.mem_of_getElem? (i := 795) rfl) rfl
set_option maxRecDepth 20000 in
theorem wm_X8_162 : Cond.methodLink RX8 162 yX8_goesOut ∈ TB := tb_of (List.mem_of_getElem? (i := 796) rfl) rfl
set_option maxRecDepth 20000 in
theorem wi_X8_goesOut : Cond.instanceMethod yX8_goesOut ∈ TB := tb_of (List.mem_of_getElem? (i := 798) rfl) rfl
set_option maxRecDepth 20000 in
theorem wc_X8_goesOut : Cond.code yX8_goesOut cX8_goesOut 5 (some .boolean) ∈ TB := tb_of (List.mem_of_getElem? (i := 799) rfl) rfl
set_option maxRecDepth 20000 in
theorem wm_X8_146 : Cond.methodLink RX8 146 yX8_isPure ∈ TB := tb_of (List.mem_of_getElem? (i := 800) rfl) rfl
set_option maxRecDepth 20000 in
theorem wi_X8_isPure : Cond.instanceMethod yX8_isPure ∈ TB := tb_of (List.mem_of_getElem? (i := 802) rfl) rfl
set_option maxRecDepth 20000 in
theorem wc_X8_isPure : Cond.code yX8_isPure cX8_isPure 2 (some .boolean) ∈ TB := tb_of (List.mem_of_getElem? (i := 803) rfl) rfl
set_option maxRecDepth 20000 in
theorem wm_X8_156 : Cond.methodLink RX8 156 yX8_fits ∈ TB := tb_of (List.mem_of_getElem? (i := 804) rfl) rfl
set_option maxRecDepth 20000 in
theorem wi_X8_fits : Cond.instanceMethod yX8_fits ∈ TB := tb_of (List.mem_of_getElem? (i := 806) rfl) rfl
set_option maxRecDepth 20000 in
theorem wc_X8_fits : Cond.code yX8_fits cX8_fits 2 (some .boolean) ∈ TB := tb_of (List.mem_of_getElem? (i := 807) rfl) rfl
set_option maxRecDepth 20000 in
theorem wm_X8_165 : Cond.methodLink RX8 165 yX8_mixes ∈ TB := tb_of (List.mem_of_getElem? (i := 808) rfl) rfl
set_option maxRecDepth 20000 in
theorem wi_X8_mixes : Cond.instanceMethod yX8_mixes ∈ TB := tb_of (List.mem_of_getElem? (i := 810) rfl) rfl
set_option maxRecDepth 20000 in
theorem wc_X8_mixes : Cond.code yX8_mixes cX8_mixes 11 none ∈ TB := tb_of (List.mem_of_getElem? (i := 811) rfl) rfl
set_option maxRecDepth 20000 in
theorem wm_X8_159 : Cond.methodLink RX8 159 yX8_border ∈ TB := tb_of (List.mem_of_getElem? (i := 812) rfl) rfl
set_option maxRecDepth 20000 in
theorem wi_X8_border : Cond.instanceMethod yX8_border ∈ TB := tb_of (List.mem_of_getElem? (i := 814) rfl) rfl
set_option maxRecDepth 20000 in
theorem wc_X8_border : Cond.code yX8_border cX8_border 3 (some .int) ∈ TB := tb_of (List.mem_of_getElem? (i := 815) rfl) rfl
set_option maxRecDepth 20000 in
theorem wm_X8_149 : Cond.methodLink RX8 149 yX8_neighbour ∈ TB := tb_of (List.mem_of_getElem? (i := 816) rfl) rfl
set_option maxRecDepth 20000 in
theorem wi_X8_neighbour : Cond.instanceMethod yX8_neighbour ∈ TB := tb_of (List.mem_of_getElem? (i := 818) rfl) rfl
set_option maxRecDepth 20000 in
theorem wc_X8_neighbour : Cond.code yX8_neighbour cX8_neighbour 4 (some .int) ∈ TB := tb_of (List.mem_of_getElem? (i := 819) rfl) rfl
set_option maxRecDepth 20000 in
theorem wm_X8_169 : Cond.methodLink RX8 169 yX8_isWrong ∈ TB := tb_of (List.mem_of_getElem? (i := 820) rfl) rfl
set_option maxRecDepth 20000 in
theorem wi_X8_isWrong : Cond.instanceMethod yX8_isWrong ∈ TB := tb_of (List.mem_of_getElem? (i := 822) rfl) rfl
set_option maxRecDepth 20000 in
theorem wc_X8_isWrong : Cond.code yX8_isWrong cX8_isWrong 4 (some .boolean) ∈ TB := tb_of (List.mem_of_getElem? (i := 823) rfl) rfl
set_option maxRecDepth 20000 in
theorem wm_X8_153 : Cond.methodLink RX8 153 yX8_mayNot ∈ TB := tb_of (List.mem_of_getElem? (i := 824) rfl) rfl
set_option maxRecDepth 20000 in
theorem wi_X8_mayNot : Cond.instanceMethod yX8_mayNot ∈ TB := tb_of (List.mem_of_getElem? (i := 826) rfl) rfl
set_option maxRecDepth 20000 in
theorem wc_X8_mayNot : Cond.code yX8_mayNot cX8_mayNot 3 (some .boolean) ∈ TB := tb_of (List.mem_of_getElem? (i := 827) rfl) rfl
set_option maxRecDepth 20000 in
theorem wm_X8_179 : Cond.methodLink RX8 179 yX8_bringBack ∈ TB := tb_of (List.mem_of_getElem? (i := 828) rfl) rfl
set_option maxRecDepth 20000 in
theorem wi_X8_bringBack : Cond.instanceMethod yX8_bringBack ∈ TB := tb_of (List.mem_of_getElem? (i := 830) rfl) rfl
set_option maxRecDepth 20000 in
theorem wc_X8_bringBack : Cond.code yX8_bringBack cX8_bringBack 2 none ∈ TB := tb_of (List.mem_of_getElem? (i := 831) rfl) rfl
set_option maxRecDepth 20000 in
theorem wm_X8_142 : Cond.methodLink RX8 142 yX8_noted ∈ TB := tb_of (List.mem_of_getElem? (i := 832) rfl) rfl
set_option maxRecDepth 20000 in
theorem wi_X8_noted : Cond.instanceMethod yX8_noted ∈ TB := tb_of (List.mem_of_getElem? (i := 834) rfl) rfl
set_option maxRecDepth 20000 in
theorem wc_X8_noted : Cond.code yX8_noted cX8_noted 1 (some .int) ∈ TB := tb_of (List.mem_of_getElem? (i := 835) rfl) rfl
set_option maxRecDepth 20000 in
theorem wm_X8_182 : Cond.methodLink RX8 182 yX8_ends ∈ TB := tb_of (List.mem_of_getElem? (i := 836) rfl) rfl
set_option maxRecDepth 20000 in
theorem wi_X8_ends : Cond.instanceMethod yX8_ends ∈ TB := tb_of (List.mem_of_getElem? (i := 838) rfl) rfl
set_option maxRecDepth 20000 in
theorem wc_X8_ends : Cond.code yX8_ends cX8_ends 6 none ∈ TB := tb_of (List.mem_of_getElem? (i := 839) rfl) rfl
set_option maxRecDepth 20000 in
theorem wm_L_56 : Cond.methodLink RL 56 yX8_trial ∈ TB := tb_of (List.mem_of_getElem? (i := 840) rfl) rfl
set_option maxRecDepth 20000 in
theorem wi_X8_trial : Cond.instanceMethod yX8_trial ∈ TB := tb_of (List.mem_of_getElem? (i := 841) rfl) rfl
set_option maxRecDepth 20000 in
theorem ws_X8_trial : Cond.selects RX8 yX8_trial yX8_trial ∈ TB := tb_of (List.mem_of_getElem? (i := 842) rfl) rfl
set_option maxRecDepth 20000 in
theorem wc_X8_trial : Cond.code yX8_trial cX8_trial 6 (some .int) ∈ TB := tb_of (List.mem_of_getElem? (i := 843) rfl) rfl
set_option maxRecDepth 20000 in
theorem wm_L_61 : Cond.methodLink RL 61 yX8_undo ∈ TB := tb_of (List.mem_of_getElem? (i := 844) rfl) rfl
set_option maxRecDepth 20000 in
theorem wi_X8_undo : Cond.instanceMethod yX8_undo ∈ TB := tb_of (List.mem_of_getElem? (i := 845) rfl) rfl
set_option maxRecDepth 20000 in
theorem ws_X8_undo : Cond.selects RX8 yX8_undo yX8_undo ∈ TB := tb_of (List.mem_of_getElem? (i := 846) rfl) rfl
set_option maxRecDepth 20000 in
theorem wc_X8_undo : Cond.code yX8_undo cX8_undo 1 (some .int) ∈ TB := tb_of (List.mem_of_getElem? (i := 847) rfl) rfl
set_option maxRecDepth 20000 in
theorem wm_L_69 : Cond.methodLink RL 69 yX8_at ∈ TB := tb_of (List.mem_of_getElem? (i := 848) rfl) rfl
set_option maxRecDepth 20000 in
theorem wi_X8_at : Cond.instanceMethod yX8_at ∈ TB := tb_of (List.mem_of_getElem? (i := 849) rfl) rfl
set_option maxRecDepth 20000 in
theorem ws_X8_at : Cond.selects RX8 yX8_at yX8_at ∈ TB := tb_of (List.mem_of_getElem? (i := 850) rfl) rfl
set_option maxRecDepth 20000 in
theorem wc_X8_at : Cond.code yX8_at cX8_at 3 (some .int) ∈ TB := tb_of (List.mem_of_getElem? (i := 851) rfl) rfl
set_option maxRecDepth 20000 in
theorem wm_L_73 : Cond.methodLink RL 73 yX8_batch ∈ TB := tb_of (List.mem_of_getElem? (i := 852) rfl) rfl
set_option maxRecDepth 20000 in
theorem wi_X8_batch : Cond.instanceMethod yX8_batch ∈ TB := tb_of (List.mem_of_getElem? (i := 853) rfl) rfl
set_option maxRecDepth 20000 in
theorem ws_X8_batch : Cond.selects RX8 yX8_batch yX8_batch ∈ TB := tb_of (List.mem_of_getElem? (i := 854) rfl) rfl
set_option maxRecDepth 20000 in
theorem wc_X8_batch : Cond.code yX8_batch cX8_batch 7 (some .int) ∈ TB := tb_of (List.mem_of_getElem? (i := 855) rfl) rfl
set_option maxRecDepth 20000 in
theorem wm_L_78 : Cond.methodLink RL 78 yX8_tankOf ∈ TB := tb_of (List.mem_of_getElem? (i := 856) rfl) rfl
set_option maxRecDepth 20000 in
theorem wi_X8_tankOf : Cond.instanceMethod yX8_tankOf ∈ TB := tb_of (List.mem_of_getElem? (i := 857) rfl) rfl
set_option maxRecDepth 20000 in
theorem ws_X8_tankOf : Cond.selects RX8 yX8_tankOf yX8_tankOf ∈ TB := tb_of (List.mem_of_getElem? (i := 858) rfl) rfl
set_option maxRecDepth 20000 in
theorem wc_X8_tankOf : Cond.code yX8_tankOf cX8_tankOf 5 (some .int) ∈ TB := tb_of (List.mem_of_getElem? (i := 859) rfl) rfl
set_option maxRecDepth 20000 in
theorem wm_L_82 : Cond.methodLink RL 82 yX8_about ∈ TB := tb_of (List.mem_of_getElem? (i := 860) rfl) rfl
set_option maxRecDepth 20000 in
theorem wi_X8_about : Cond.instanceMethod yX8_about ∈ TB := tb_of (List.mem_of_getElem? (i := 861) rfl) rfl
set_option maxRecDepth 20000 in
theorem ws_X8_about : Cond.selects RX8 yX8_about yX8_about ∈ TB := tb_of (List.mem_of_getElem? (i := 862) rfl) rfl
set_option maxRecDepth 20000 in
theorem wc_X8_about : Cond.code yX8_about cX8_about 3 (some .int) ∈ TB := tb_of (List.mem_of_getElem? (i := 863) rfl) rfl
set_option maxRecDepth 20000 in
theorem wm_L_86 : Cond.methodLink RL 86 yX8_wished ∈ TB := tb_of (List.mem_of_getElem? (i := 864) rfl) rfl
set_option maxRecDepth 20000 in
theorem wi_X8_wished : Cond.instanceMethod yX8_wished ∈ TB := tb_of (List.mem_of_getElem? (i := 865) rfl) rfl
set_option maxRecDepth 20000 in
theorem ws_X8_wished : Cond.selects RX8 yX8_wished yX8_wished ∈ TB := tb_of (List.mem_of_getElem? (i := 866) rfl) rfl
set_option maxRecDepth 20000 in
theorem wc_X8_wished : Cond.code yX8_wished cX8_wished 4 (some .int) ∈ TB := tb_of (List.mem_of_getElem? (i := 867) rfl) rfl
set_option maxRecDepth 20000 in
theorem wm_X8_189 : Cond.methodLink RX8 189 yX8_late ∈ TB := tb_of (List.mem_of_getElem? (i := 868) rfl) rfl
set_option maxRecDepth 20000 in
theorem wi_X8_late : Cond.instanceMethod yX8_late ∈ TB := tb_of (List.mem_of_getElem? (i := 870) rfl) rfl
set_option maxRecDepth 20000 in
theorem wc_X8_late : Cond.code yX8_late cX8_late 3 (some .int) ∈ TB := tb_of (List.mem_of_getElem? (i := 871) rfl) rfl
set_option maxRecDepth 20000 in
theorem wm_L_90 : Cond.methodLink RL 90 yX8_count ∈ TB := tb_of (List.mem_of_getElem? (i := 872) rfl) rfl
set_option maxRecDepth 20000 in
theorem wi_X8_count : Cond.instanceMethod yX8_count ∈ TB := tb_of (List.mem_of_getElem? (i := 873) rfl) rfl
set_option maxRecDepth 20000 in
theorem ws_X8_count : Cond.selects RX8 yX8_count yX8_count ∈ TB := tb_of (List.mem_of_getElem? (i := 874) rfl) rfl
set_option maxRecDepth 20000 in
theorem wc_X8_count : Cond.code yX8_count cX8_count 4 (some .int) ∈ TB := tb_of (List.mem_of_getElem? (i := 875) rfl) rfl
set_option maxRecDepth 20000 in
theorem wm_L_94 : Cond.methodLink RL 94 yX8_borders ∈ TB := tb_of (List.mem_of_getElem? (i := 876) rfl) rfl
set_option maxRecDepth 20000 in
theorem wi_X8_borders : Cond.instanceMethod yX8_borders ∈ TB := tb_of (List.mem_of_getElem? (i := 877) rfl) rfl
set_option maxRecDepth 20000 in
theorem ws_X8_borders : Cond.selects RX8 yX8_borders yX8_borders ∈ TB := tb_of (List.mem_of_getElem? (i := 878) rfl) rfl
set_option maxRecDepth 20000 in
theorem wc_X8_borders : Cond.code yX8_borders cX8_borders 3 (some .int) ∈ TB := tb_of (List.mem_of_getElem? (i := 879) rfl) rfl
theorem in_X0 : ∀ w ∈ u_ws RX0 TX0 6, w ∈ TB := fun w hw => tb_of ((show ∀ w ∈ u_ws RX0 TX0 6, w ∈ lw_tbl by decide +kernel) w hw) (by revert w; decide +kernel)
theorem in_X1 : ∀ w ∈ u_ws RX1 TX1 7, w ∈ TB := fun w hw => tb_of ((show ∀ w ∈ u_ws RX1 TX1 7, w ∈ lw_tbl by decide +kernel) w hw) (by revert w; decide +kernel)
theorem in_X2 : ∀ w ∈ u_ws RX2 TX2 5, w ∈ TB := fun w hw => tb_of ((show ∀ w ∈ u_ws RX2 TX2 5, w ∈ lw_tbl by decide +kernel) w hw) (by revert w; decide +kernel)
theorem in_X3 : ∀ w ∈ u_ws RX3 TX3 5, w ∈ TB := fun w hw => tb_of ((show ∀ w ∈ u_ws RX3 TX3 5, w ∈ lw_tbl by decide +kernel) w hw) (by revert w; decide +kernel)
theorem in_X4 : ∀ w ∈ u_ws RX4 TX4 4, w ∈ TB := fun w hw => tb_of ((show ∀ w ∈ u_ws RX4 TX4 4, w ∈ lw_tbl by decide +kernel) w hw) (by revert w; decide +kernel)
theorem in_X5 : ∀ w ∈ u_ws RX5 TX5 4, w ∈ TB := fun w hw => tb_of ((show ∀ w ∈ u_ws RX5 TX5 4, w ∈ lw_tbl by decide +kernel) w hw) (by revert w; decide +kernel)
theorem in_X6 : ∀ w ∈ u_ws RX6 TX6 5, w ∈ TB := fun w hw => tb_of ((show ∀ w ∈ u_ws RX6 TX6 5, w ∈ lw_tbl by decide +kernel) w hw) (by revert w; decide +kernel)
theorem in_X7 : ∀ w ∈ u_ws RX7 TX7 9, w ∈ TB := fun w hw => tb_of ((show ∀ w ∈ u_ws RX7 TX7 9, w ∈ lw_tbl by decide +kernel) w hw) (by revert w; decide +kernel)
theorem in_X8 : ∀ w ∈ u_ws RX8 TX8 35, w ∈ TB := fun w hw => tb_of ((show ∀ w ∈ u_ws RX8 TX8 35, w ∈ lw_tbl by decide +kernel) w hw) (by revert w; decide +kernel)
