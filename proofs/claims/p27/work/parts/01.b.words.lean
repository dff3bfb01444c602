def bigW : List Cond := lw_tbl.filter goodWord
theorem bw_in {w : Cond} (h : w ∈ lw_tbl) (g : goodWord w = true) : w ∈ bigW := List.mem_filter.mpr ⟨h, g⟩
theorem bw_good {w : Cond} (h : w ∈ bigW) : (w.onTables && w.keeps) = true ∨ ∃ ty, w = .arrayClass ty := good_of_word (List.mem_filter.mp h).2
theorem bw_of {args : Array Value} {s : State} (h : ∀ w ∈ lw_tbl, w.before args s = true) : ∀ w ∈ bigW, w.before args s = true := fun w q => h w (List.mem_filter.mp q).1
theorem tb_1 {w : Cond} (h : w ∈ tables_1_1) : w ∈ lw_tbl := List.mem_append_right _ (List.mem_append_left _ h)
theorem tb_2 {w : Cond} (h : w ∈ tables_1_2) : w ∈ lw_tbl := List.mem_append_right _ (List.mem_append_right _ (List.mem_append_left _ h))
theorem tb_3 {w : Cond} (h : w ∈ tables_1_3) : w ∈ lw_tbl := List.mem_append_right _ (List.mem_append_right _ (List.mem_append_right _ (List.mem_append_left _ h)))
theorem tb_4 {w : Cond} (h : w ∈ tables_1_4) : w ∈ lw_tbl := List.mem_append_right _ (List.mem_append_right _ (List.mem_append_right _ (List.mem_append_right _ (List.mem_append_left _ h))))
theorem tb_5 {w : Cond} (h : w ∈ tables_1_5) : w ∈ lw_tbl := List.mem_append_right _ (List.mem_append_right _ (List.mem_append_right _ (List.mem_append_right _ (List.mem_append_right _ (List.mem_append_left _ h)))))
theorem tb_6 {w : Cond} (h : w ∈ tables_1_6) : w ∈ lw_tbl := List.mem_append_right _ (List.mem_append_right _ (List.mem_append_right _ (List.mem_append_right _ (List.mem_append_right _ (List.mem_append_right _ (h))))))
theorem ini_L : Cond.initialized RL ∈ bigW := bw_in (tb_1 (List.mem_of_getElem? (i := 0) rfl)) rfl
theorem ini_X10 : Cond.initialized RX10 ∈ bigW := bw_in (tb_1 (List.mem_of_getElem? (i := 1) rfl)) rfl
theorem ini_X9 : Cond.initialized RX9 ∈ bigW := bw_in (tb_1 (List.mem_of_getElem? (i := 2) rfl)) rfl
theorem ini_X1 : Cond.initialized RX1 ∈ bigW := bw_in (tb_1 (List.mem_of_getElem? (i := 3) rfl)) rfl
theorem ini_X6 : Cond.initialized RX6 ∈ bigW := bw_in (tb_1 (List.mem_of_getElem? (i := 4) rfl)) rfl
theorem ini_X8 : Cond.initialized RX8 ∈ bigW := bw_in (tb_1 (List.mem_of_getElem? (i := 5) rfl)) rfl
theorem ini_J0 : Cond.initialized RJ0 ∈ bigW := bw_in (tb_1 (List.mem_of_getElem? (i := 6) rfl)) rfl
theorem ini_J1 : Cond.initialized RJ1 ∈ bigW := bw_in (tb_1 (List.mem_of_getElem? (i := 7) rfl)) rfl
theorem ini_J3 : Cond.initialized RJ3 ∈ bigW := bw_in (tb_1 (List.mem_of_getElem? (i := 8) rfl)) rfl
theorem ini_J2 : Cond.initialized RJ2 ∈ bigW := bw_in (tb_1 (List.mem_of_getElem? (i := 9) rfl)) rfl
theorem ini_X4 : Cond.initialized RX4 ∈ bigW := bw_in (tb_1 (List.mem_of_getElem? (i := 10) rfl)) rfl
theorem ini_X7 : Cond.initialized RX7 ∈ bigW := bw_in (tb_1 (List.mem_of_getElem? (i := 11) rfl)) rfl
theorem ini_X5 : Cond.initialized RX5 ∈ bigW := bw_in (tb_1 (List.mem_of_getElem? (i := 12) rfl)) rfl
theorem ini_X0 : Cond.initialized RX0 ∈ bigW := bw_in (tb_1 (List.mem_of_getElem? (i := 13) rfl)) rfl
theorem ini_J5 : Cond.initialized RJ5 ∈ bigW := bw_in (tb_1 (List.mem_of_getElem? (i := 14) rfl)) rfl
theorem ini_J4 : Cond.initialized RJ4 ∈ bigW := bw_in (tb_1 (List.mem_of_getElem? (i := 15) rfl)) rfl
theorem ini_J8 : Cond.initialized RJ8 ∈ bigW := bw_in (tb_1 (List.mem_of_getElem? (i := 16) rfl)) rfl
theorem ini_J9 : Cond.initialized RJ9 ∈ bigW := bw_in (tb_1 (List.mem_of_getElem? (i := 17) rfl)) rfl
theorem ini_J7 : Cond.initialized RJ7 ∈ bigW := bw_in (tb_1 (List.mem_of_getElem? (i := 18) rfl)) rfl
theorem ini_J10 : Cond.initialized RJ10 ∈ bigW := bw_in (tb_1 (List.mem_of_getElem? (i := 19) rfl)) rfl
theorem ini_X3 : Cond.initialized RX3 ∈ bigW := bw_in (tb_1 (List.mem_of_getElem? (i := 24) rfl)) rfl
theorem ini_J11 : Cond.initialized RJ11 ∈ bigW := bw_in (tb_1 (List.mem_of_getElem? (i := 27) rfl)) rfl
theorem ml_L_25 : Cond.methodLink RL 25 yX10_count ∈ bigW := bw_in (tb_1 (List.mem_of_getElem? (i := 28) rfl)) rfl
theorem im_yX10_count : Cond.instanceMethod yX10_count ∈ bigW := bw_in (tb_1 (List.mem_of_getElem? (i := 29) rfl)) rfl
theorem se_yX10_count : Cond.selects RX10 yX10_count yX10_count ∈ bigW := bw_in (tb_1 (List.mem_of_getElem? (i := 30) rfl)) rfl
theorem cd_yX10_count : Cond.code yX10_count cX10_count 2 (some .int) ∈ bigW := bw_in (tb_1 (List.mem_of_getElem? (i := 31) rfl)) rfl
theorem ml_X10_76 : Cond.methodLink RX10 76 yX6_length ∈ bigW := bw_in (tb_1 (List.mem_of_getElem? (i := 102) rfl)) rfl
theorem im_yX6_length : Cond.instanceMethod yX6_length ∈ bigW := bw_in (tb_1 (List.mem_of_getElem? (i := 103) rfl)) rfl
theorem se_yX6_length : Cond.selects RX6 yX6_length yX6_length ∈ bigW := bw_in (tb_1 (List.mem_of_getElem? (i := 104) rfl)) rfl
theorem cd_yX6_length : Cond.code yX6_length cX6_length 1 (some .int) ∈ bigW := bw_in (tb_1 (List.mem_of_getElem? (i := 105) rfl)) rfl
theorem ml_X10_129 : Cond.methodLink RX10 129 yX5_countTells ∈ bigW := bw_in (tb_1 (List.mem_of_getElem? (i := 106) rfl)) rfl
theorem im_yX5_countTells : Cond.instanceMethod yX5_countTells ∈ bigW := bw_in (tb_1 (List.mem_of_getElem? (i := 107) rfl)) rfl
theorem se_yX5_countTells : Cond.selects RX5 yX5_countTells yX5_countTells ∈ bigW := bw_in (tb_1 (List.mem_of_getElem? (i := 108) rfl)) rfl
theorem cd_yX5_countTells : Cond.code yX5_countTells cX5_countTells 2 (some .int) ∈ bigW := bw_in (tb_1 (List.mem_of_getElem? (i := 109) rfl)) rfl
theorem ml_X5_171 : Cond.methodLink RX5 171 yX5_valuesOfAll ∈ bigW := bw_in (tb_1 (List.mem_of_getElem? (i := 110) rfl)) rfl
theorem im_yX5_valuesOfAll : Cond.instanceMethod yX5_valuesOfAll ∈ bigW := bw_in (tb_1 (List.mem_of_getElem? (i := 111) rfl)) rfl
theorem se_yX5_valuesOfAll : Cond.selects RX5 yX5_valuesOfAll yX5_valuesOfAll ∈ bigW := bw_in (tb_1 (List.mem_of_getElem? (i := 112) rfl)) rfl
theorem cd_yX5_valuesOfAll : Cond.code yX5_valuesOfAll cX5_valuesOfAll 3 (some .int) ∈ bigW := bw_in (tb_1 (List.mem_of_getElem? (i := 113) rfl)) rfl
theorem ml_X5_175 : Cond.methodLink RX5 175 yX5_knotsOfAll ∈ bigW := bw_in (tb_1 (List.mem_of_getElem? (i := 114) rfl)) rfl
theorem im_yX5_knotsOfAll : Cond.instanceMethod yX5_knotsOfAll ∈ bigW := bw_in (tb_1 (List.mem_of_getElem? (i := 116) rfl)) rfl
theorem cd_yX5_knotsOfAll : Cond.code yX5_knotsOfAll cX5_knotsOfAll 3 (some .int) ∈ bigW := bw_in (tb_1 (List.mem_of_getElem? (i := 118) rfl)) rfl
theorem ml_X5_149 : Cond.methodLink RX5 149 yX3_knotsOf ∈ bigW := bw_in (tb_1 (List.mem_of_getElem? (i := 119) rfl)) rfl
theorem sm_yX3_knotsOf : Cond.static yX3_knotsOf ∈ bigW := bw_in (tb_1 (List.mem_of_getElem? (i := 120) rfl)) rfl
theorem cd_yX3_knotsOf : Cond.code yX3_knotsOf cX3_knotsOf 1 (some .int) ∈ bigW := bw_in (tb_1 (List.mem_of_getElem? (i := 121) rfl)) rfl
theorem ml_X3_7 : Cond.methodLink RX3 7 yX3_singleKnotsOf ∈ bigW := bw_in (tb_1 (List.mem_of_getElem? (i := 122) rfl)) rfl
theorem sm_yX3_singleKnotsOf : Cond.static yX3_singleKnotsOf ∈ bigW := bw_in (tb_1 (List.mem_of_getElem? (i := 123) rfl)) rfl
theorem cd_yX3_singleKnotsOf : Cond.code yX3_singleKnotsOf cX3_singleKnotsOf 4 (some .int) ∈ bigW := bw_in (tb_1 (List.mem_of_getElem? (i := 124) rfl)) rfl
theorem ml_X5_178 : Cond.methodLink RX5 178 yX5_turnsOfAll ∈ bigW := bw_in (tb_1 (List.mem_of_getElem? (i := 125) rfl)) rfl
theorem im_yX5_turnsOfAll : Cond.instanceMethod yX5_turnsOfAll ∈ bigW := bw_in (tb_1 (List.mem_of_getElem? (i := 127) rfl)) rfl
theorem cd_yX5_turnsOfAll : Cond.code yX5_turnsOfAll cX5_turnsOfAll 3 (some .int) ∈ bigW := bw_in (tb_1 (List.mem_of_getElem? (i := 128) rfl)) rfl
theorem ml_X5_160 : Cond.methodLink RX5 160 yX3_turnsOf ∈ bigW := bw_in (tb_1 (List.mem_of_getElem? (i := 129) rfl)) rfl
theorem sm_yX3_turnsOf : Cond.static yX3_turnsOf ∈ bigW := bw_in (tb_1 (List.mem_of_getElem? (i := 130) rfl)) rfl
theorem cd_yX3_turnsOf : Cond.code yX3_turnsOf cX3_turnsOf 2 (some .int) ∈ bigW := bw_in (tb_1 (List.mem_of_getElem? (i := 131) rfl)) rfl
theorem ml_X5_181 : Cond.methodLink RX5 181 yX5_wrongTops ∈ bigW := bw_in (tb_1 (List.mem_of_getElem? (i := 132) rfl)) rfl
theorem im_yX5_wrongTops : Cond.instanceMethod yX5_wrongTops ∈ bigW := bw_in (tb_1 (List.mem_of_getElem? (i := 133) rfl)) rfl
theorem se_yX5_wrongTops : Cond.selects RX5 yX5_wrongTops yX5_wrongTops ∈ bigW := bw_in (tb_1 (List.mem_of_getElem? (i := 134) rfl)) rfl
theorem cd_yX5_wrongTops : Cond.code yX5_wrongTops cX5_wrongTops 3 (some .int) ∈ bigW := bw_in (tb_1 (List.mem_of_getElem? (i := 135) rfl)) rfl
theorem ml_X5_121 : Cond.methodLink RX5 121 yX5_isWrong ∈ bigW := bw_in (tb_1 (List.mem_of_getElem? (i := 136) rfl)) rfl
theorem im_yX5_isWrong : Cond.instanceMethod yX5_isWrong ∈ bigW := bw_in (tb_1 (List.mem_of_getElem? (i := 137) rfl)) rfl
theorem se_yX5_isWrong : Cond.selects RX5 yX5_isWrong yX5_isWrong ∈ bigW := bw_in (tb_1 (List.mem_of_getElem? (i := 138) rfl)) rfl
theorem cd_yX5_isWrong : Cond.code yX5_isWrong cX5_isWrong 2 (some .boolean) ∈ bigW := bw_in (tb_1 (List.mem_of_getElem? (i := 139) rfl)) rfl
theorem ml_X5_115 : Cond.methodLink RX5 115 yX5_countedBelow ∈ bigW := bw_in (tb_1 (List.mem_of_getElem? (i := 140) rfl)) rfl
theorem im_yX5_countedBelow : Cond.instanceMethod yX5_countedBelow ∈ bigW := bw_in (tb_1 (List.mem_of_getElem? (i := 141) rfl)) rfl
theorem se_yX5_countedBelow : Cond.selects RX5 yX5_countedBelow yX5_countedBelow ∈ bigW := bw_in (tb_1 (List.mem_of_getElem? (i := 142) rfl)) rfl
theorem cd_yX5_countedBelow : Cond.code yX5_countedBelow cX5_countedBelow 5 (some .int) ∈ bigW := bw_in (tb_1 (List.mem_of_getElem? (i := 143) rfl)) rfl
theorem ml_X5_72 : Cond.methodLink RX5 72 yX9_hasCord ∈ bigW := bw_in (tb_1 (List.mem_of_getElem? (i := 144) rfl)) rfl
theorem im_yX9_hasCord : Cond.instanceMethod yX9_hasCord ∈ bigW := bw_in (tb_1 (List.mem_of_getElem? (i := 145) rfl)) rfl
theorem se_yX9_hasCord : Cond.selects RX9 yX9_hasCord yX9_hasCord ∈ bigW := bw_in (tb_1 (List.mem_of_getElem? (i := 146) rfl)) rfl
theorem cd_yX9_hasCord : Cond.code yX9_hasCord cX9_hasCord 2 (some .boolean) ∈ bigW := bw_in (tb_1 (List.mem_of_getElem? (i := 147) rfl)) rfl
theorem ml_L_213 : Cond.methodLink RL 213 yX10_cord ∈ bigW := bw_in (tb_1 (List.mem_of_getElem? (i := 148) rfl)) rfl
theorem im_yX10_cord : Cond.instanceMethod yX10_cord ∈ bigW := bw_in (tb_1 (List.mem_of_getElem? (i := 149) rfl)) rfl
theorem se_yX10_cord : Cond.selects RX10 yX10_cord yX10_cord ∈ bigW := bw_in (tb_1 (List.mem_of_getElem? (i := 150) rfl)) rfl
theorem cd_yX10_cord : Cond.code yX10_cord cX10_cord 3 (some .int) ∈ bigW := bw_in (tb_1 (List.mem_of_getElem? (i := 151) rfl)) rfl
theorem ml_X10_142 : Cond.methodLink RX10 142 yX9_hasCord ∈ bigW := bw_in (tb_1 (List.mem_of_getElem? (i := 152) rfl)) rfl
theorem ml_X10_147 : Cond.methodLink RX10 147 yX5_cordTells ∈ bigW := bw_in (tb_1 (List.mem_of_getElem? (i := 154) rfl)) rfl
theorem im_yX5_cordTells : Cond.instanceMethod yX5_cordTells ∈ bigW := bw_in (tb_1 (List.mem_of_getElem? (i := 155) rfl)) rfl
theorem se_yX5_cordTells : Cond.selects RX5 yX5_cordTells yX5_cordTells ∈ bigW := bw_in (tb_1 (List.mem_of_getElem? (i := 156) rfl)) rfl
theorem cd_yX5_cordTells : Cond.code yX5_cordTells cX5_cordTells 3 (some .int) ∈ bigW := bw_in (tb_1 (List.mem_of_getElem? (i := 157) rfl)) rfl
theorem ml_X5_80 : Cond.methodLink RX5 80 yX5_depthOf ∈ bigW := bw_in (tb_1 (List.mem_of_getElem? (i := 158) rfl)) rfl
theorem im_yX5_depthOf : Cond.instanceMethod yX5_depthOf ∈ bigW := bw_in (tb_1 (List.mem_of_getElem? (i := 159) rfl)) rfl
theorem se_yX5_depthOf : Cond.selects RX5 yX5_depthOf yX5_depthOf ∈ bigW := bw_in (tb_1 (List.mem_of_getElem? (i := 160) rfl)) rfl
theorem cd_yX5_depthOf : Cond.code yX5_depthOf cX5_depthOf 5 (some .int) ∈ bigW := bw_in (tb_1 (List.mem_of_getElem? (i := 161) rfl)) rfl
theorem ml_X5_184 : Cond.methodLink RX5 184 yX5_cordsUnder ∈ bigW := bw_in (tb_1 (List.mem_of_getElem? (i := 162) rfl)) rfl
theorem im_yX5_cordsUnder : Cond.instanceMethod yX5_cordsUnder ∈ bigW := bw_in (tb_1 (List.mem_of_getElem? (i := 163) rfl)) rfl
theorem se_yX5_cordsUnder : Cond.selects RX5 yX5_cordsUnder yX5_cordsUnder ∈ bigW := bw_in (tb_1 (List.mem_of_getElem? (i := 164) rfl)) rfl
theorem cd_yX5_cordsUnder : Cond.code yX5_cordsUnder cX5_cordsUnder 4 (some .int) ∈ bigW := bw_in (tb_1 (List.mem_of_getElem? (i := 165) rfl)) rfl
theorem ml_X5_187 : Cond.methodLink RX5 187 yX5_topsOver ∈ bigW := bw_in (tb_1 (List.mem_of_getElem? (i := 166) rfl)) rfl
theorem im_yX5_topsOver : Cond.instanceMethod yX5_topsOver ∈ bigW := bw_in (tb_1 (List.mem_of_getElem? (i := 168) rfl)) rfl
theorem cd_yX5_topsOver : Cond.code yX5_topsOver cX5_topsOver 4 (some .int) ∈ bigW := bw_in (tb_1 (List.mem_of_getElem? (i := 169) rfl)) rfl
theorem ml_X5_190 : Cond.methodLink RX5 190 yX9_isOver ∈ bigW := bw_in (tb_1 (List.mem_of_getElem? (i := 170) rfl)) rfl
theorem im_yX9_isOver : Cond.instanceMethod yX9_isOver ∈ bigW := bw_in (tb_1 (List.mem_of_getElem? (i := 171) rfl)) rfl
theorem se_yX9_isOver : Cond.selects RX9 yX9_isOver yX9_isOver ∈ bigW := bw_in (tb_1 (List.mem_of_getElem? (i := 172) rfl)) rfl
theorem cd_yX9_isOver : Cond.code yX9_isOver cX9_isOver 4 (some .boolean) ∈ bigW := bw_in (tb_1 (List.mem_of_getElem? (i := 173) rfl)) rfl
theorem ml_L_194 : Cond.methodLink RL 194 yX10_top ∈ bigW := bw_in (tb_1 (List.mem_of_getElem? (i := 174) rfl)) rfl
theorem im_yX10_top : Cond.instanceMethod yX10_top ∈ bigW := bw_in (tb_1 (List.mem_of_getElem? (i := 175) rfl)) rfl
theorem se_yX10_top : Cond.selects RX10 yX10_top yX10_top ∈ bigW := bw_in (tb_1 (List.mem_of_getElem? (i := 176) rfl)) rfl
theorem cd_yX10_top : Cond.code yX10_top cX10_top 3 (some .int) ∈ bigW := bw_in (tb_1 (List.mem_of_getElem? (i := 177) rfl)) rfl
theorem ml_X10_160 : Cond.methodLink RX10 160 yX9_hasTop ∈ bigW := bw_in (tb_1 (List.mem_of_getElem? (i := 178) rfl)) rfl
theorem im_yX9_hasTop : Cond.instanceMethod yX9_hasTop ∈ bigW := bw_in (tb_1 (List.mem_of_getElem? (i := 179) rfl)) rfl
theorem se_yX9_hasTop : Cond.selects RX9 yX9_hasTop yX9_hasTop ∈ bigW := bw_in (tb_1 (List.mem_of_getElem? (i := 180) rfl)) rfl
theorem cd_yX9_hasTop : Cond.code yX9_hasTop cX9_hasTop 2 (some .boolean) ∈ bigW := bw_in (tb_1 (List.mem_of_getElem? (i := 181) rfl)) rfl
theorem ml_X10_165 : Cond.methodLink RX10 165 yX5_topTells ∈ bigW := bw_in (tb_1 (List.mem_of_getElem? (i := 183) rfl)) rfl
theorem im_yX5_topTells : Cond.instanceMethod yX5_topTells ∈ bigW := bw_in (tb_1 (List.mem_of_getElem? (i := 184) rfl)) rfl
theorem se_yX5_topTells : Cond.selects RX5 yX5_topTells yX5_topTells ∈ bigW := bw_in (tb_1 (List.mem_of_getElem? (i := 185) rfl)) rfl
theorem cd_yX5_topTells : Cond.code yX5_topTells cX5_topTells 3 (some .int) ∈ bigW := bw_in (tb_1 (List.mem_of_getElem? (i := 186) rfl)) rfl
theorem ml_L_197 : Cond.methodLink RL 197 yX10_set ∈ bigW := bw_in (tb_1 (List.mem_of_getElem? (i := 187) rfl)) rfl
theorem im_yX10_set : Cond.instanceMethod yX10_set ∈ bigW := bw_in (tb_1 (List.mem_of_getElem? (i := 188) rfl)) rfl
theorem se_yX10_set : Cond.selects RX10 yX10_set yX10_set ∈ bigW := bw_in (tb_1 (List.mem_of_getElem? (i := 189) rfl)) rfl
theorem cd_yX10_set : Cond.code yX10_set cX10_set 4 (some .int) ∈ bigW := bw_in (tb_1 (List.mem_of_getElem? (i := 190) rfl)) rfl
theorem ml_X10_194 : Cond.methodLink RX10 194 yX5_tieInto ∈ bigW := bw_in (tb_1 (List.mem_of_getElem? (i := 208) rfl)) rfl
theorem im_yX5_tieInto : Cond.instanceMethod yX5_tieInto ∈ bigW := bw_in (tb_1 (List.mem_of_getElem? (i := 209) rfl)) rfl
theorem se_yX5_tieInto : Cond.selects RX5 yX5_tieInto yX5_tieInto ∈ bigW := bw_in (tb_1 (List.mem_of_getElem? (i := 210) rfl)) rfl
theorem cd_yX5_tieInto : Cond.code yX5_tieInto cX5_tieInto 4 none ∈ bigW := bw_in (tb_1 (List.mem_of_getElem? (i := 211) rfl)) rfl
theorem ml_X5_69 : Cond.methodLink RX5 69 yX5_addAbove ∈ bigW := bw_in (tb_1 (List.mem_of_getElem? (i := 212) rfl)) rfl
theorem im_yX5_addAbove : Cond.instanceMethod yX5_addAbove ∈ bigW := bw_in (tb_1 (List.mem_of_getElem? (i := 214) rfl)) rfl
theorem cd_yX5_addAbove : Cond.code yX5_addAbove cX5_addAbove 5 none ∈ bigW := bw_in (tb_1 (List.mem_of_getElem? (i := 215) rfl)) rfl
theorem ml_L_200 : Cond.methodLink RL 200 yX10_rest ∈ bigW := bw_in (tb_1 (List.mem_of_getElem? (i := 216) rfl)) rfl
theorem im_yX10_rest : Cond.instanceMethod yX10_rest ∈ bigW := bw_in (tb_1 (List.mem_of_getElem? (i := 217) rfl)) rfl
theorem se_yX10_rest : Cond.selects RX10 yX10_rest yX10_rest ∈ bigW := bw_in (tb_1 (List.mem_of_getElem? (i := 218) rfl)) rfl
theorem cd_yX10_rest : Cond.code yX10_rest cX10_rest 3 (some .int) ∈ bigW := bw_in (tb_1 (List.mem_of_getElem? (i := 219) rfl)) rfl
theorem ml_X10_168 : Cond.methodLink RX10 168 yX9_hasKeeper ∈ bigW := bw_in (tb_1 (List.mem_of_getElem? (i := 220) rfl)) rfl
theorem im_yX9_hasKeeper : Cond.instanceMethod yX9_hasKeeper ∈ bigW := bw_in (tb_1 (List.mem_of_getElem? (i := 221) rfl)) rfl
theorem se_yX9_hasKeeper : Cond.selects RX9 yX9_hasKeeper yX9_hasKeeper ∈ bigW := bw_in (tb_1 (List.mem_of_getElem? (i := 222) rfl)) rfl
theorem cd_yX9_hasKeeper : Cond.code yX9_hasKeeper cX9_hasKeeper 2 (some .boolean) ∈ bigW := bw_in (tb_1 (List.mem_of_getElem? (i := 223) rfl)) rfl
theorem ml_L_203 : Cond.methodLink RL 203 yX10_dye ∈ bigW := bw_in (tb_1 (List.mem_of_getElem? (i := 225) rfl)) rfl
theorem im_yX10_dye : Cond.instanceMethod yX10_dye ∈ bigW := bw_in (tb_1 (List.mem_of_getElem? (i := 226) rfl)) rfl
theorem se_yX10_dye : Cond.selects RX10 yX10_dye yX10_dye ∈ bigW := bw_in (tb_1 (List.mem_of_getElem? (i := 227) rfl)) rfl
theorem cd_yX10_dye : Cond.code yX10_dye cX10_dye 4 (some .int) ∈ bigW := bw_in (tb_1 (List.mem_of_getElem? (i := 228) rfl)) rfl
theorem ml_X10_132 : Cond.methodLink RX10 132 yX9_hasColour ∈ bigW := bw_in (tb_1 (List.mem_of_getElem? (i := 229) rfl)) rfl
theorem im_yX9_hasColour : Cond.instanceMethod yX9_hasColour ∈ bigW := bw_in (tb_1 (List.mem_of_getElem? (i := 230) rfl)) rfl
theorem se_yX9_hasColour : Cond.selects RX9 yX9_hasColour yX9_hasColour ∈ bigW := bw_in (tb_1 (List.mem_of_getElem? (i := 231) rfl)) rfl
theorem cd_yX9_hasColour : Cond.code yX9_hasColour cX9_hasColour 2 (some .boolean) ∈ bigW := bw_in (tb_1 (List.mem_of_getElem? (i := 232) rfl)) rfl
theorem ml_L_210 : Cond.methodLink RL 210 yX10_hang ∈ bigW := bw_in (tb_1 (List.mem_of_getElem? (i := 234) rfl)) rfl
theorem im_yX10_hang : Cond.instanceMethod yX10_hang ∈ bigW := bw_in (tb_1 (List.mem_of_getElem? (i := 235) rfl)) rfl
theorem se_yX10_hang : Cond.selects RX10 yX10_hang yX10_hang ∈ bigW := bw_in (tb_1 (List.mem_of_getElem? (i := 236) rfl)) rfl
theorem cd_yX10_hang : Cond.code yX10_hang cX10_hang 3 (some .int) ∈ bigW := bw_in (tb_1 (List.mem_of_getElem? (i := 237) rfl)) rfl
theorem ml_X10_208 : Cond.methodLink RX10 208 yX5_isWithin ∈ bigW := bw_in (tb_1 (List.mem_of_getElem? (i := 238) rfl)) rfl
theorem im_yX5_isWithin : Cond.instanceMethod yX5_isWithin ∈ bigW := bw_in (tb_1 (List.mem_of_getElem? (i := 239) rfl)) rfl
theorem se_yX5_isWithin : Cond.selects RX5 yX5_isWithin yX5_isWithin ∈ bigW := bw_in (tb_2 (List.mem_of_getElem? (i := 0) rfl)) rfl
theorem cd_yX5_isWithin : Cond.code yX5_isWithin cX5_isWithin 5 (some .boolean) ∈ bigW := bw_in (tb_2 (List.mem_of_getElem? (i := 1) rfl)) rfl
theorem ml_X10_214 : Cond.methodLink RX10 214 yX5_depthOf ∈ bigW := bw_in (tb_2 (List.mem_of_getElem? (i := 18) rfl)) rfl
theorem ml_X10_217 : Cond.methodLink RX10 217 yX5_heightOf ∈ bigW := bw_in (tb_2 (List.mem_of_getElem? (i := 19) rfl)) rfl
theorem im_yX5_heightOf : Cond.instanceMethod yX5_heightOf ∈ bigW := bw_in (tb_2 (List.mem_of_getElem? (i := 20) rfl)) rfl
theorem se_yX5_heightOf : Cond.selects RX5 yX5_heightOf yX5_heightOf ∈ bigW := bw_in (tb_2 (List.mem_of_getElem? (i := 21) rfl)) rfl
theorem cd_yX5_heightOf : Cond.code yX5_heightOf cX5_heightOf 4 (some .int) ∈ bigW := bw_in (tb_2 (List.mem_of_getElem? (i := 22) rfl)) rfl
theorem ml_X5_76 : Cond.methodLink RX5 76 yX5_isWithin ∈ bigW := bw_in (tb_2 (List.mem_of_getElem? (i := 23) rfl)) rfl
theorem ml_X5_84 : Cond.methodLink RX5 84 yJ9_max_7cf53 ∈ bigW := bw_in (tb_2 (List.mem_of_getElem? (i := 24) rfl)) rfl
theorem sm_yJ9_max_7cf53 : Cond.static yJ9_max_7cf53 ∈ bigW := bw_in (tb_2 (List.mem_of_getElem? (i := 25) rfl)) rfl
theorem cd_yJ9_max_7cf53 : Cond.code yJ9_max_7cf53 cJ9_max_7cf53 2 (some .int) ∈ bigW := bw_in (tb_2 (List.mem_of_getElem? (i := 26) rfl)) rfl
theorem ml_X10_222 : Cond.methodLink RX10 222 yX5_hangFrom ∈ bigW := bw_in (tb_2 (List.mem_of_getElem? (i := 28) rfl)) rfl
theorem im_yX5_hangFrom : Cond.instanceMethod yX5_hangFrom ∈ bigW := bw_in (tb_2 (List.mem_of_getElem? (i := 29) rfl)) rfl
theorem se_yX5_hangFrom : Cond.selects RX5 yX5_hangFrom yX5_hangFrom ∈ bigW := bw_in (tb_2 (List.mem_of_getElem? (i := 30) rfl)) rfl
theorem cd_yX5_hangFrom : Cond.code yX5_hangFrom cX5_hangFrom 3 none ∈ bigW := bw_in (tb_2 (List.mem_of_getElem? (i := 31) rfl)) rfl
theorem ml_L_216 : Cond.methodLink RL 216 yX10_pass ∈ bigW := bw_in (tb_2 (List.mem_of_getElem? (i := 32) rfl)) rfl
theorem im_yX10_pass : Cond.instanceMethod yX10_pass ∈ bigW := bw_in (tb_2 (List.mem_of_getElem? (i := 33) rfl)) rfl
theorem se_yX10_pass : Cond.selects RX10 yX10_pass yX10_pass ∈ bigW := bw_in (tb_2 (List.mem_of_getElem? (i := 34) rfl)) rfl
theorem cd_yX10_pass : Cond.code yX10_pass cX10_pass 3 (some .int) ∈ bigW := bw_in (tb_2 (List.mem_of_getElem? (i := 35) rfl)) rfl
theorem ml_X10_230 : Cond.methodLink RX10 230 yX0_letPass ∈ bigW := bw_in (tb_2 (List.mem_of_getElem? (i := 37) rfl)) rfl
theorem im_yX0_letPass : Cond.instanceMethod yX0_letPass ∈ bigW := bw_in (tb_2 (List.mem_of_getElem? (i := 38) rfl)) rfl
theorem se_yX0_letPass : Cond.selects RX0 yX0_letPass yX0_letPass ∈ bigW := bw_in (tb_2 (List.mem_of_getElem? (i := 39) rfl)) rfl
theorem cd_yX0_letPass : Cond.code yX0_letPass cX0_letPass 4 none ∈ bigW := bw_in (tb_2 (List.mem_of_getElem? (i := 40) rfl)) rfl
theorem ml_X0_19 : Cond.methodLink RX0 19 yX0_letOrdersBeCarriedOut ∈ bigW := bw_in (tb_2 (List.mem_of_getElem? (i := 41) rfl)) rfl
theorem im_yX0_letOrdersBeCarriedOut : Cond.instanceMethod yX0_letOrdersBeCarriedOut ∈ bigW := bw_in (tb_2 (List.mem_of_getElem? (i := 43) rfl)) rfl
theorem cd_yX0_letOrdersBeCarriedOut : Cond.code yX0_letOrdersBeCarriedOut cX0_letOrdersBeCarriedOut 7 none ∈ bigW := bw_in (tb_2 (List.mem_of_getElem? (i := 45) rfl)) rfl
theorem ml_X0_43 : Cond.methodLink RX0 43 yX0_reckoned ∈ bigW := bw_in (tb_2 (List.mem_of_getElem? (i := 46) rfl)) rfl
theorem im_yX0_reckoned : Cond.instanceMethod yX0_reckoned ∈ bigW := bw_in (tb_2 (List.mem_of_getElem? (i := 48) rfl)) rfl
theorem cd_yX0_reckoned : Cond.code yX0_reckoned cX0_reckoned 9 (some .int) ∈ bigW := bw_in (tb_2 (List.mem_of_getElem? (i := 49) rfl)) rfl
theorem ml_X0_55 : Cond.methodLink RX0 55 yJ9_max_7cf53 ∈ bigW := bw_in (tb_2 (List.mem_of_getElem? (i := 50) rfl)) rfl
theorem ml_X0_61 : Cond.methodLink RX0 61 yX1_length ∈ bigW := bw_in (tb_2 (List.mem_of_getElem? (i := 51) rfl)) rfl
theorem im_yX1_length : Cond.instanceMethod yX1_length ∈ bigW := bw_in (tb_2 (List.mem_of_getElem? (i := 52) rfl)) rfl
theorem se_yX1_length : Cond.selects RX1 yX1_length yX1_length ∈ bigW := bw_in (tb_2 (List.mem_of_getElem? (i := 53) rfl)) rfl
theorem cd_yX1_length : Cond.code yX1_length cX1_length 1 (some .int) ∈ bigW := bw_in (tb_2 (List.mem_of_getElem? (i := 54) rfl)) rfl
theorem ml_X0_75 : Cond.methodLink RX0 75 yX0_operandOf ∈ bigW := bw_in (tb_2 (List.mem_of_getElem? (i := 55) rfl)) rfl
theorem sm_yX0_operandOf : Cond.static yX0_operandOf ∈ bigW := bw_in (tb_2 (List.mem_of_getElem? (i := 56) rfl)) rfl
theorem cd_yX0_operandOf : Cond.code yX0_operandOf cX0_operandOf 4 (some .int) ∈ bigW := bw_in (tb_2 (List.mem_of_getElem? (i := 57) rfl)) rfl
theorem ml_X0_92 : Cond.methodLink RX0 92 yX9_hasCord ∈ bigW := bw_in (tb_2 (List.mem_of_getElem? (i := 58) rfl)) rfl
theorem ml_X0_102 : Cond.methodLink RX0 102 yX3_knotsOf ∈ bigW := bw_in (tb_2 (List.mem_of_getElem? (i := 59) rfl)) rfl
theorem ml_X0_108 : Cond.methodLink RX0 108 yX9_hasTop ∈ bigW := bw_in (tb_2 (List.mem_of_getElem? (i := 60) rfl)) rfl
theorem ml_X0_114 : Cond.methodLink RX0 114 yX9_hasKeeper ∈ bigW := bw_in (tb_2 (List.mem_of_getElem? (i := 61) rfl)) rfl
theorem ml_X0_120 : Cond.methodLink RX0 120 yX5_countedBelow ∈ bigW := bw_in (tb_2 (List.mem_of_getElem? (i := 62) rfl)) rfl
theorem ml_X0_78 : Cond.methodLink RX0 78 yX0_push ∈ bigW := bw_in (tb_2 (List.mem_of_getElem? (i := 63) rfl)) rfl
theorem im_yX0_push : Cond.instanceMethod yX0_push ∈ bigW := bw_in (tb_2 (List.mem_of_getElem? (i := 65) rfl)) rfl
theorem cd_yX0_push : Cond.code yX0_push cX0_push 2 none ∈ bigW := bw_in (tb_2 (List.mem_of_getElem? (i := 66) rfl)) rfl
theorem ml_X0_82 : Cond.methodLink RX0 82 yX0_pop ∈ bigW := bw_in (tb_2 (List.mem_of_getElem? (i := 67) rfl)) rfl
theorem im_yX0_pop : Cond.instanceMethod yX0_pop ∈ bigW := bw_in (tb_2 (List.mem_of_getElem? (i := 69) rfl)) rfl
theorem cd_yX0_pop : Cond.code yX0_pop cX0_pop 1 (some .int) ∈ bigW := bw_in (tb_2 (List.mem_of_getElem? (i := 70) rfl)) rfl
theorem ml_X0_85 : Cond.methodLink RX0 85 yX0_joined ∈ bigW := bw_in (tb_2 (List.mem_of_getElem? (i := 71) rfl)) rfl
theorem sm_yX0_joined : Cond.static yX0_joined ∈ bigW := bw_in (tb_2 (List.mem_of_getElem? (i := 72) rfl)) rfl
theorem cd_yX0_joined : Cond.code yX0_joined cX0_joined 3 (some .int) ∈ bigW := bw_in (tb_2 (List.mem_of_getElem? (i := 73) rfl)) rfl
theorem ml_X0_123 : Cond.methodLink RX0 123 yJ9_min_7cf53 ∈ bigW := bw_in (tb_2 (List.mem_of_getElem? (i := 74) rfl)) rfl
theorem sm_yJ9_min_7cf53 : Cond.static yJ9_min_7cf53 ∈ bigW := bw_in (tb_2 (List.mem_of_getElem? (i := 75) rfl)) rfl
theorem cd_yJ9_min_7cf53 : Cond.code yJ9_min_7cf53 cJ9_min_7cf53 2 (some .int) ∈ bigW := bw_in (tb_2 (List.mem_of_getElem? (i := 76) rfl)) rfl
theorem ml_X0_126 : Cond.methodLink RX0 126 yX0_compares ∈ bigW := bw_in (tb_2 (List.mem_of_getElem? (i := 77) rfl)) rfl
theorem sm_yX0_compares : Cond.static yX0_compares ∈ bigW := bw_in (tb_2 (List.mem_of_getElem? (i := 78) rfl)) rfl
theorem cd_yX0_compares : Cond.code yX0_compares cX0_compares 3 (some .boolean) ∈ bigW := bw_in (tb_2 (List.mem_of_getElem? (i := 79) rfl)) rfl
theorem ml_X0_47 : Cond.methodLink RX0 47 yX5_carryOut ∈ bigW := bw_in (tb_2 (List.mem_of_getElem? (i := 80) rfl)) rfl
theorem im_yX5_carryOut : Cond.instanceMethod yX5_carryOut ∈ bigW := bw_in (tb_2 (List.mem_of_getElem? (i := 81) rfl)) rfl
theorem se_yX5_carryOut : Cond.selects RX5 yX5_carryOut yX5_carryOut ∈ bigW := bw_in (tb_2 (List.mem_of_getElem? (i := 82) rfl)) rfl
theorem cd_yX5_carryOut : Cond.code yX5_carryOut cX5_carryOut 8 none ∈ bigW := bw_in (tb_2 (List.mem_of_getElem? (i := 83) rfl)) rfl
theorem ml_X5_137 : Cond.methodLink RX5 137 yX9_hasTop ∈ bigW := bw_in (tb_2 (List.mem_of_getElem? (i := 84) rfl)) rfl
theorem ml_X5_140 : Cond.methodLink RX5 140 yX9_hasKeeper ∈ bigW := bw_in (tb_2 (List.mem_of_getElem? (i := 85) rfl)) rfl
theorem ml_X5_143 : Cond.methodLink RX5 143 yJ9_min_7cf53 ∈ bigW := bw_in (tb_2 (List.mem_of_getElem? (i := 86) rfl)) rfl
theorem ml_X5_146 : Cond.methodLink RX5 146 yX5_isTooTired ∈ bigW := bw_in (tb_2 (List.mem_of_getElem? (i := 87) rfl)) rfl
theorem im_yX5_isTooTired : Cond.instanceMethod yX5_isTooTired ∈ bigW := bw_in (tb_2 (List.mem_of_getElem? (i := 89) rfl)) rfl
theorem cd_yX5_isTooTired : Cond.code yX5_isTooTired cX5_isTooTired 2 (some .boolean) ∈ bigW := bw_in (tb_2 (List.mem_of_getElem? (i := 90) rfl)) rfl
theorem ml_X5_59 : Cond.methodLink RX5 59 yX5_tieInto ∈ bigW := bw_in (tb_2 (List.mem_of_getElem? (i := 91) rfl)) rfl
theorem ml_X0_23 : Cond.methodLink RX0 23 yX5_endMonth ∈ bigW := bw_in (tb_2 (List.mem_of_getElem? (i := 92) rfl)) rfl
theorem im_yX5_endMonth : Cond.instanceMethod yX5_endMonth ∈ bigW := bw_in (tb_2 (List.mem_of_getElem? (i := 93) rfl)) rfl
theorem se_yX5_endMonth : Cond.selects RX5 yX5_endMonth yX5_endMonth ∈ bigW := bw_in (tb_2 (List.mem_of_getElem? (i := 94) rfl)) rfl
theorem cd_yX5_endMonth : Cond.code yX5_endMonth cX5_endMonth 2 none ∈ bigW := bw_in (tb_2 (List.mem_of_getElem? (i := 95) rfl)) rfl
theorem ml_X5_157 : Cond.methodLink RX5 157 yX5_letMothsEat ∈ bigW := bw_in (tb_2 (List.mem_of_getElem? (i := 96) rfl)) rfl
theorem im_yX5_letMothsEat : Cond.instanceMethod yX5_letMothsEat ∈ bigW := bw_in (tb_2 (List.mem_of_getElem? (i := 98) rfl)) rfl
theorem cd_yX5_letMothsEat : Cond.code yX5_letMothsEat cX5_letMothsEat 5 none ∈ bigW := bw_in (tb_2 (List.mem_of_getElem? (i := 99) rfl)) rfl
theorem ml_X5_163 : Cond.methodLink RX5 163 yX3_eaten ∈ bigW := bw_in (tb_2 (List.mem_of_getElem? (i := 100) rfl)) rfl
theorem sm_yX3_eaten : Cond.static yX3_eaten ∈ bigW := bw_in (tb_2 (List.mem_of_getElem? (i := 101) rfl)) rfl
theorem cd_yX3_eaten : Cond.code yX3_eaten cX3_eaten 3 (some .int) ∈ bigW := bw_in (tb_2 (List.mem_of_getElem? (i := 102) rfl)) rfl
theorem ml_L_188 : Cond.methodLink RL 188 yX10_until ∈ bigW := bw_in (tb_2 (List.mem_of_getElem? (i := 103) rfl)) rfl
theorem im_yX10_until : Cond.instanceMethod yX10_until ∈ bigW := bw_in (tb_2 (List.mem_of_getElem? (i := 104) rfl)) rfl
theorem se_yX10_until : Cond.selects RX10 yX10_until yX10_until ∈ bigW := bw_in (tb_2 (List.mem_of_getElem? (i := 105) rfl)) rfl
theorem cd_yX10_until : Cond.code yX10_until cX10_until 3 (some .int) ∈ bigW := bw_in (tb_2 (List.mem_of_getElem? (i := 106) rfl)) rfl
theorem ml_X10_236 : Cond.methodLink RX10 236 yX5_copyFrom ∈ bigW := bw_in (tb_2 (List.mem_of_getElem? (i := 108) rfl)) rfl
theorem im_yX5_copyFrom : Cond.instanceMethod yX5_copyFrom ∈ bigW := bw_in (tb_2 (List.mem_of_getElem? (i := 109) rfl)) rfl
theorem se_yX5_copyFrom : Cond.selects RX5 yX5_copyFrom yX5_copyFrom ∈ bigW := bw_in (tb_2 (List.mem_of_getElem? (i := 110) rfl)) rfl
theorem cd_yX5_copyFrom : Cond.code yX5_copyFrom cX5_copyFrom 2 none ∈ bigW := bw_in (tb_2 (List.mem_of_getElem? (i := 111) rfl)) rfl
theorem ml_X5_63 : Cond.methodLink RX5 63 arraycopyName ∈ bigW := bw_in (tb_2 (List.mem_of_getElem? (i := 112) rfl)) rfl
theorem nat_ac : Cond.native arraycopyName ∈ bigW := bw_in (tb_2 (List.mem_of_getElem? (i := 114) rfl)) rfl
theorem ml_X10_240 : Cond.methodLink RX10 240 yX5_isWrong ∈ bigW := bw_in (tb_2 (List.mem_of_getElem? (i := 115) rfl)) rfl
theorem ml_L_185 : Cond.methodLink RL 185 yX10_foresee ∈ bigW := bw_in (tb_2 (List.mem_of_getElem? (i := 116) rfl)) rfl
theorem im_yX10_foresee : Cond.instanceMethod yX10_foresee ∈ bigW := bw_in (tb_2 (List.mem_of_getElem? (i := 117) rfl)) rfl
theorem se_yX10_foresee : Cond.selects RX10 yX10_foresee yX10_foresee ∈ bigW := bw_in (tb_2 (List.mem_of_getElem? (i := 118) rfl)) rfl
theorem cd_yX10_foresee : Cond.code yX10_foresee cX10_foresee 3 (some .int) ∈ bigW := bw_in (tb_2 (List.mem_of_getElem? (i := 119) rfl)) rfl
theorem ml_L_191 : Cond.methodLink RL 191 yX10_advise ∈ bigW := bw_in (tb_2 (List.mem_of_getElem? (i := 120) rfl)) rfl
theorem im_yX10_advise : Cond.instanceMethod yX10_advise ∈ bigW := bw_in (tb_2 (List.mem_of_getElem? (i := 121) rfl)) rfl
theorem se_yX10_advise : Cond.selects RX10 yX10_advise yX10_advise ∈ bigW := bw_in (tb_2 (List.mem_of_getElem? (i := 122) rfl)) rfl
theorem cd_yX10_advise : Cond.code yX10_advise cX10_advise 6 (some .int) ∈ bigW := bw_in (tb_2 (List.mem_of_getElem? (i := 123) rfl)) rfl
theorem ml_X10_243 : Cond.methodLink RX10 243 yX10_wrongBehind ∈ bigW := bw_in (tb_2 (List.mem_of_getElem? (i := 124) rfl)) rfl
theorem im_yX10_wrongBehind : Cond.instanceMethod yX10_wrongBehind ∈ bigW := bw_in (tb_2 (List.mem_of_getElem? (i := 126) rfl)) rfl
theorem cd_yX10_wrongBehind : Cond.code yX10_wrongBehind cX10_wrongBehind 3 (some .int) ∈ bigW := bw_in (tb_2 (List.mem_of_getElem? (i := 128) rfl)) rfl
theorem ml_X10_268 : Cond.methodLink RX10 268 yX5_wrongTops ∈ bigW := bw_in (tb_2 (List.mem_of_getElem? (i := 129) rfl)) rfl
theorem ml_L_181 : Cond.methodLink RL 181 yX10_digest ∈ bigW := bw_in (tb_2 (List.mem_of_getElem? (i := 130) rfl)) rfl
theorem im_yX10_digest : Cond.instanceMethod yX10_digest ∈ bigW := bw_in (tb_2 (List.mem_of_getElem? (i := 131) rfl)) rfl
theorem se_yX10_digest : Cond.selects RX10 yX10_digest yX10_digest ∈ bigW := bw_in (tb_2 (List.mem_of_getElem? (i := 132) rfl)) rfl
theorem cd_yX10_digest : Cond.code yX10_digest cX10_digest 4 (some .long) ∈ bigW := bw_in (tb_2 (List.mem_of_getElem? (i := 133) rfl)) rfl
theorem ml_X10_138 : Cond.methodLink RX10 138 yX5_colourTells ∈ bigW := bw_in (tb_2 (List.mem_of_getElem? (i := 136) rfl)) rfl
theorem im_yX5_colourTells : Cond.instanceMethod yX5_colourTells ∈ bigW := bw_in (tb_2 (List.mem_of_getElem? (i := 137) rfl)) rfl
theorem se_yX5_colourTells : Cond.selects RX5 yX5_colourTells yX5_colourTells ∈ bigW := bw_in (tb_2 (List.mem_of_getElem? (i := 138) rfl)) rfl
theorem cd_yX5_colourTells : Cond.code yX5_colourTells cX5_colourTells 6 (some .int) ∈ bigW := bw_in (tb_2 (List.mem_of_getElem? (i := 139) rfl)) rfl
theorem ml_X10_173 : Cond.methodLink RX10 173 yX5_keeperTells ∈ bigW := bw_in (tb_2 (List.mem_of_getElem? (i := 140) rfl)) rfl
theorem im_yX5_keeperTells : Cond.instanceMethod yX5_keeperTells ∈ bigW := bw_in (tb_2 (List.mem_of_getElem? (i := 141) rfl)) rfl
theorem se_yX5_keeperTells : Cond.selects RX5 yX5_keeperTells yX5_keeperTells ∈ bigW := bw_in (tb_2 (List.mem_of_getElem? (i := 142) rfl)) rfl
theorem cd_yX5_keeperTells : Cond.code yX5_keeperTells cX5_keeperTells 3 (some .int) ∈ bigW := bw_in (tb_2 (List.mem_of_getElem? (i := 143) rfl)) rfl
theorem ml_X10_189 : Cond.methodLink RX10 189 yX5_cordsOutOfOrder ∈ bigW := bw_in (tb_2 (List.mem_of_getElem? (i := 144) rfl)) rfl
theorem im_yX5_cordsOutOfOrder : Cond.instanceMethod yX5_cordsOutOfOrder ∈ bigW := bw_in (tb_2 (List.mem_of_getElem? (i := 145) rfl)) rfl
theorem se_yX5_cordsOutOfOrder : Cond.selects RX5 yX5_cordsOutOfOrder yX5_cordsOutOfOrder ∈ bigW := bw_in (tb_2 (List.mem_of_getElem? (i := 146) rfl)) rfl
theorem cd_yX5_cordsOutOfOrder : Cond.code yX5_cordsOutOfOrder cX5_cordsOutOfOrder 5 (some .int) ∈ bigW := bw_in (tb_2 (List.mem_of_getElem? (i := 147) rfl)) rfl
theorem ml_X5_105 : Cond.methodLink RX5 105 yX5_neighbourAhead ∈ bigW := bw_in (tb_2 (List.mem_of_getElem? (i := 148) rfl)) rfl
theorem im_yX5_neighbourAhead : Cond.instanceMethod yX5_neighbourAhead ∈ bigW := bw_in (tb_2 (List.mem_of_getElem? (i := 150) rfl)) rfl
theorem cd_yX5_neighbourAhead : Cond.code yX5_neighbourAhead cX5_neighbourAhead 3 (some .int) ∈ bigW := bw_in (tb_2 (List.mem_of_getElem? (i := 151) rfl)) rfl
theorem ml_X5_96 : Cond.methodLink RX5 96 yX5_rankOf ∈ bigW := bw_in (tb_2 (List.mem_of_getElem? (i := 152) rfl)) rfl
theorem im_yX5_rankOf : Cond.instanceMethod yX5_rankOf ∈ bigW := bw_in (tb_2 (List.mem_of_getElem? (i := 154) rfl)) rfl
theorem cd_yX5_rankOf : Cond.code yX5_rankOf cX5_rankOf 3 (some .int) ∈ bigW := bw_in (tb_2 (List.mem_of_getElem? (i := 155) rfl)) rfl
theorem ml_X5_99 : Cond.methodLink RX5 99 yX9_hasColour ∈ bigW := bw_in (tb_2 (List.mem_of_getElem? (i := 156) rfl)) rfl
theorem ml_L_69 : Cond.methodLink RL 69 yL_below ∈ bigW := bw_in (tb_2 (List.mem_of_getElem? (i := 157) rfl)) rfl
theorem sm_yL_below : Cond.static yL_below ∈ bigW := bw_in (tb_2 (List.mem_of_getElem? (i := 158) rfl)) rfl
theorem cd_yL_below : Cond.code yL_below cL_below 2 (some .int) ∈ bigW := bw_in (tb_2 (List.mem_of_getElem? (i := 159) rfl)) rfl
theorem ml_L_65 : Cond.methodLink RL 65 yL_cell ∈ bigW := bw_in (tb_2 (List.mem_of_getElem? (i := 161) rfl)) rfl
theorem sm_yL_cell : Cond.static yL_cell ∈ bigW := bw_in (tb_2 (List.mem_of_getElem? (i := 162) rfl)) rfl
theorem cd_yL_cell : Cond.code yL_cell cL_cell 2 (some .int) ∈ bigW := bw_in (tb_2 (List.mem_of_getElem? (i := 163) rfl)) rfl
theorem ml_L_177 : Cond.methodLink RL 177 yL_quipu ∈ bigW := bw_in (tb_2 (List.mem_of_getElem? (i := 165) rfl)) rfl
theorem sm_yL_quipu : Cond.static yL_quipu ∈ bigW := bw_in (tb_2 (List.mem_of_getElem? (i := 166) rfl)) rfl
theorem cd_yL_quipu : Cond.code yL_quipu cL_quipu 2 (some (.object "QuipuKeepers")) ∈ bigW := bw_in (tb_2 (List.mem_of_getElem? (i := 167) rfl)) rfl
theorem ml_L_161 : Cond.methodLink RL 161 yX10_init ∈ bigW := bw_in (tb_2 (List.mem_of_getElem? (i := 169) rfl)) rfl
theorem im_yX10_init : Cond.instanceMethod yX10_init ∈ bigW := bw_in (tb_2 (List.mem_of_getElem? (i := 170) rfl)) rfl
theorem cd_yX10_init : Cond.code yX10_init cX10_init 1 none ∈ bigW := bw_in (tb_2 (List.mem_of_getElem? (i := 171) rfl)) rfl
theorem im_yX9_init : Cond.instanceMethod yX9_init ∈ bigW := bw_in (tb_2 (List.mem_of_getElem? (i := 176) rfl)) rfl
theorem cd_yX9_init : Cond.code yX9_init cX9_init 1 none ∈ bigW := bw_in (tb_2 (List.mem_of_getElem? (i := 177) rfl)) rfl
theorem im_yX1_init : Cond.instanceMethod yX1_init ∈ bigW := bw_in (tb_2 (List.mem_of_getElem? (i := 184) rfl)) rfl
theorem cd_yX1_init : Cond.code yX1_init cX1_init 1 none ∈ bigW := bw_in (tb_2 (List.mem_of_getElem? (i := 185) rfl)) rfl
theorem im_yX6_init : Cond.instanceMethod yX6_init ∈ bigW := bw_in (tb_3 (List.mem_of_getElem? (i := 64) rfl)) rfl
theorem cd_yX6_init : Cond.code yX6_init cX6_init 1 none ∈ bigW := bw_in (tb_3 (List.mem_of_getElem? (i := 65) rfl)) rfl
theorem ml_X10_28 : Cond.methodLink RX10 28 yX8_init ∈ bigW := bw_in (tb_3 (List.mem_of_getElem? (i := 76) rfl)) rfl
theorem im_yX8_init : Cond.instanceMethod yX8_init ∈ bigW := bw_in (tb_3 (List.mem_of_getElem? (i := 77) rfl)) rfl
theorem cd_yX8_init : Cond.code yX8_init cX8_init 6 none ∈ bigW := bw_in (tb_3 (List.mem_of_getElem? (i := 78) rfl)) rfl
theorem ml_X8_38 : Cond.methodLink RX8 38 yJ0_length_8abf5 ∈ bigW := bw_in (tb_3 (List.mem_of_getElem? (i := 81) rfl)) rfl
theorem im_yJ0_length_8abf5 : Cond.instanceMethod yJ0_length_8abf5 ∈ bigW := bw_in (tb_3 (List.mem_of_getElem? (i := 82) rfl)) rfl
theorem se_yJ0_length_8abf5 : Cond.selects RJ0 yJ0_length_8abf5 yJ0_length_8abf5 ∈ bigW := bw_in (tb_3 (List.mem_of_getElem? (i := 83) rfl)) rfl
theorem cd_yJ0_length_8abf5 : Cond.code yJ0_length_8abf5 cJ0_length_8abf5 1 (some .int) ∈ bigW := bw_in (tb_3 (List.mem_of_getElem? (i := 84) rfl)) rfl
theorem ml_J0_335 : Cond.methodLink RJ0 335 yJ0_coder_7d493 ∈ bigW := bw_in (tb_3 (List.mem_of_getElem? (i := 85) rfl)) rfl
theorem im_yJ0_coder_7d493 : Cond.instanceMethod yJ0_coder_7d493 ∈ bigW := bw_in (tb_3 (List.mem_of_getElem? (i := 86) rfl)) rfl
theorem se_yJ0_coder_7d493 : Cond.selects RJ0 yJ0_coder_7d493 yJ0_coder_7d493 ∈ bigW := bw_in (tb_3 (List.mem_of_getElem? (i := 87) rfl)) rfl
theorem cd_yJ0_coder_7d493 : Cond.code yJ0_coder_7d493 cJ0_coder_7d493 1 (some .byte) ∈ bigW := bw_in (tb_3 (List.mem_of_getElem? (i := 88) rfl)) rfl
theorem ml_X8_44 : Cond.methodLink RX8 44 yJ0_charAt_5068e ∈ bigW := bw_in (tb_3 (List.mem_of_getElem? (i := 91) rfl)) rfl
theorem im_yJ0_charAt_5068e : Cond.instanceMethod yJ0_charAt_5068e ∈ bigW := bw_in (tb_3 (List.mem_of_getElem? (i := 92) rfl)) rfl
theorem se_yJ0_charAt_5068e : Cond.selects RJ0 yJ0_charAt_5068e yJ0_charAt_5068e ∈ bigW := bw_in (tb_3 (List.mem_of_getElem? (i := 93) rfl)) rfl
theorem cd_yJ0_charAt_5068e : Cond.code yJ0_charAt_5068e cJ0_charAt_5068e 2 (some .char) ∈ bigW := bw_in (tb_3 (List.mem_of_getElem? (i := 94) rfl)) rfl
theorem ml_J0_492 : Cond.methodLink RJ0 492 yJ0_isLatin1_aae02 ∈ bigW := bw_in (tb_3 (List.mem_of_getElem? (i := 95) rfl)) rfl
theorem im_yJ0_isLatin1_aae02 : Cond.instanceMethod yJ0_isLatin1_aae02 ∈ bigW := bw_in (tb_3 (List.mem_of_getElem? (i := 96) rfl)) rfl
theorem se_yJ0_isLatin1_aae02 : Cond.selects RJ0 yJ0_isLatin1_aae02 yJ0_isLatin1_aae02 ∈ bigW := bw_in (tb_3 (List.mem_of_getElem? (i := 97) rfl)) rfl
theorem cd_yJ0_isLatin1_aae02 : Cond.code yJ0_isLatin1_aae02 cJ0_isLatin1_aae02 1 (some .boolean) ∈ bigW := bw_in (tb_3 (List.mem_of_getElem? (i := 98) rfl)) rfl
theorem ml_J0_495 : Cond.methodLink RJ0 495 yJ1_charAt_3b067 ∈ bigW := bw_in (tb_3 (List.mem_of_getElem? (i := 99) rfl)) rfl
theorem sm_yJ1_charAt_3b067 : Cond.static yJ1_charAt_3b067 ∈ bigW := bw_in (tb_3 (List.mem_of_getElem? (i := 100) rfl)) rfl
theorem cd_yJ1_charAt_3b067 : Cond.code yJ1_charAt_3b067 cJ1_charAt_3b067 2 (some .char) ∈ bigW := bw_in (tb_3 (List.mem_of_getElem? (i := 101) rfl)) rfl
theorem ml_J1_9 : Cond.methodLink RJ1 9 yJ0_checkIndex_df160 ∈ bigW := bw_in (tb_3 (List.mem_of_getElem? (i := 102) rfl)) rfl
theorem sm_yJ0_checkIndex_df160 : Cond.static yJ0_checkIndex_df160 ∈ bigW := bw_in (tb_3 (List.mem_of_getElem? (i := 103) rfl)) rfl
theorem cd_yJ0_checkIndex_df160 : Cond.code yJ0_checkIndex_df160 cJ0_checkIndex_df160 2 none ∈ bigW := bw_in (tb_3 (List.mem_of_getElem? (i := 104) rfl)) rfl
theorem ml_J0_1059 : Cond.methodLink RJ0 1059 yJ3_checkIndex_8e157 ∈ bigW := bw_in (tb_3 (List.mem_of_getElem? (i := 107) rfl)) rfl
theorem sm_yJ3_checkIndex_8e157 : Cond.static yJ3_checkIndex_8e157 ∈ bigW := bw_in (tb_3 (List.mem_of_getElem? (i := 108) rfl)) rfl
theorem cd_yJ3_checkIndex_8e157 : Cond.code yJ3_checkIndex_8e157 cJ3_checkIndex_8e157 3 (some .int) ∈ bigW := bw_in (tb_3 (List.mem_of_getElem? (i := 109) rfl)) rfl
theorem ml_J0_498 : Cond.methodLink RJ0 498 yJ2_charAt_3b067 ∈ bigW := bw_in (tb_3 (List.mem_of_getElem? (i := 110) rfl)) rfl
theorem sm_yJ2_charAt_3b067 : Cond.static yJ2_charAt_3b067 ∈ bigW := bw_in (tb_3 (List.mem_of_getElem? (i := 111) rfl)) rfl
theorem cd_yJ2_charAt_3b067 : Cond.code yJ2_charAt_3b067 cJ2_charAt_3b067 2 (some .char) ∈ bigW := bw_in (tb_3 (List.mem_of_getElem? (i := 112) rfl)) rfl
theorem ml_J2_67 : Cond.methodLink RJ2 67 yJ2_checkIndex_2214a ∈ bigW := bw_in (tb_3 (List.mem_of_getElem? (i := 113) rfl)) rfl
theorem sm_yJ2_checkIndex_2214a : Cond.static yJ2_checkIndex_2214a ∈ bigW := bw_in (tb_3 (List.mem_of_getElem? (i := 114) rfl)) rfl
theorem cd_yJ2_checkIndex_2214a : Cond.code yJ2_checkIndex_2214a cJ2_checkIndex_2214a 2 none ∈ bigW := bw_in (tb_3 (List.mem_of_getElem? (i := 115) rfl)) rfl
theorem ml_J2_48 : Cond.methodLink RJ2 48 yJ2_length_9d52b ∈ bigW := bw_in (tb_3 (List.mem_of_getElem? (i := 116) rfl)) rfl
theorem sm_yJ2_length_9d52b : Cond.static yJ2_length_9d52b ∈ bigW := bw_in (tb_3 (List.mem_of_getElem? (i := 117) rfl)) rfl
theorem cd_yJ2_length_9d52b : Cond.code yJ2_length_9d52b cJ2_length_9d52b 1 (some .int) ∈ bigW := bw_in (tb_3 (List.mem_of_getElem? (i := 118) rfl)) rfl
theorem ml_J2_414 : Cond.methodLink RJ2 414 yJ0_checkIndex_df160 ∈ bigW := bw_in (tb_3 (List.mem_of_getElem? (i := 119) rfl)) rfl
theorem ml_J2_71 : Cond.methodLink RJ2 71 yJ2_getChar_3b067 ∈ bigW := bw_in (tb_3 (List.mem_of_getElem? (i := 120) rfl)) rfl
theorem sm_yJ2_getChar_3b067 : Cond.static yJ2_getChar_3b067 ∈ bigW := bw_in (tb_3 (List.mem_of_getElem? (i := 121) rfl)) rfl
theorem cd_yJ2_getChar_3b067 : Cond.code yJ2_getChar_3b067 cJ2_getChar_3b067 2 (some .char) ∈ bigW := bw_in (tb_3 (List.mem_of_getElem? (i := 122) rfl)) rfl
theorem ml_X8_50 : Cond.methodLink RX8 50 yX8_numberOfSign ∈ bigW := bw_in (tb_3 (List.mem_of_getElem? (i := 130) rfl)) rfl
theorem sm_yX8_numberOfSign : Cond.static yX8_numberOfSign ∈ bigW := bw_in (tb_3 (List.mem_of_getElem? (i := 131) rfl)) rfl
theorem cd_yX8_numberOfSign : Cond.code yX8_numberOfSign cX8_numberOfSign 1 (some .int) ∈ bigW := bw_in (tb_3 (List.mem_of_getElem? (i := 132) rfl)) rfl
theorem ml_X8_66 : Cond.methodLink RX8 66 yX8_isLetter ∈ bigW := bw_in (tb_3 (List.mem_of_getElem? (i := 133) rfl)) rfl
theorem sm_yX8_isLetter : Cond.static yX8_isLetter ∈ bigW := bw_in (tb_3 (List.mem_of_getElem? (i := 134) rfl)) rfl
theorem cd_yX8_isLetter : Cond.code yX8_isLetter cX8_isLetter 1 (some .boolean) ∈ bigW := bw_in (tb_3 (List.mem_of_getElem? (i := 135) rfl)) rfl
theorem ml_X10_39 : Cond.methodLink RX10 39 yX4_init ∈ bigW := bw_in (tb_3 (List.mem_of_getElem? (i := 164) rfl)) rfl
theorem im_yX4_init : Cond.instanceMethod yX4_init ∈ bigW := bw_in (tb_3 (List.mem_of_getElem? (i := 165) rfl)) rfl
theorem cd_yX4_init : Cond.code yX4_init cX4_init 3 none ∈ bigW := bw_in (tb_3 (List.mem_of_getElem? (i := 166) rfl)) rfl
theorem im_yX7_init : Cond.instanceMethod yX7_init ∈ bigW := bw_in (tb_3 (List.mem_of_getElem? (i := 188) rfl)) rfl
theorem cd_yX7_init : Cond.code yX7_init cX7_init 1 none ∈ bigW := bw_in (tb_3 (List.mem_of_getElem? (i := 189) rfl)) rfl
theorem ml_X10_55 : Cond.methodLink RX10 55 yX5_init ∈ bigW := bw_in (tb_3 (List.mem_of_getElem? (i := 221) rfl)) rfl
theorem im_yX5_init : Cond.instanceMethod yX5_init ∈ bigW := bw_in (tb_3 (List.mem_of_getElem? (i := 222) rfl)) rfl
theorem cd_yX5_init : Cond.code yX5_init cX5_init 2 none ∈ bigW := bw_in (tb_3 (List.mem_of_getElem? (i := 223) rfl)) rfl
theorem im_yX0_init : Cond.instanceMethod yX0_init ∈ bigW := bw_in (tb_4 (List.mem_of_getElem? (i := 31) rfl)) rfl
theorem cd_yX0_init : Cond.code yX0_init cX0_init 1 none ∈ bigW := bw_in (tb_4 (List.mem_of_getElem? (i := 32) rfl)) rfl
theorem ml_L_166 : Cond.methodLink RL 166 yL_list ∈ bigW := bw_in (tb_4 (List.mem_of_getElem? (i := 74) rfl)) rfl
theorem sm_yL_list : Cond.static yL_list ∈ bigW := bw_in (tb_4 (List.mem_of_getElem? (i := 75) rfl)) rfl
theorem cd_yL_list : Cond.code yL_list cL_list 6 (some (.object "java/lang/String")) ∈ bigW := bw_in (tb_4 (List.mem_of_getElem? (i := 76) rfl)) rfl
theorem ml_L_49 : Cond.methodLink RL 49 yJ4_init_da8c8 ∈ bigW := bw_in (tb_4 (List.mem_of_getElem? (i := 80) rfl)) rfl
theorem im_yJ4_init_da8c8 : Cond.instanceMethod yJ4_init_da8c8 ∈ bigW := bw_in (tb_4 (List.mem_of_getElem? (i := 81) rfl)) rfl
theorem cd_yJ4_init_da8c8 : Cond.code yJ4_init_da8c8 cJ4_init_da8c8 1 none ∈ bigW := bw_in (tb_4 (List.mem_of_getElem? (i := 82) rfl)) rfl
theorem ml_J4_1 : Cond.methodLink RJ4 1 yJ5_init_d00df ∈ bigW := bw_in (tb_4 (List.mem_of_getElem? (i := 83) rfl)) rfl
theorem im_yJ5_init_d00df : Cond.instanceMethod yJ5_init_d00df ∈ bigW := bw_in (tb_4 (List.mem_of_getElem? (i := 84) rfl)) rfl
theorem cd_yJ5_init_d00df : Cond.code yJ5_init_d00df cJ5_init_d00df 2 none ∈ bigW := bw_in (tb_4 (List.mem_of_getElem? (i := 85) rfl)) rfl
theorem ml_J5_26 : Cond.methodLink RJ5 26 yJ2_newBytesFor_77867 ∈ bigW := bw_in (tb_4 (List.mem_of_getElem? (i := 88) rfl)) rfl
theorem sm_yJ2_newBytesFor_77867 : Cond.static yJ2_newBytesFor_77867 ∈ bigW := bw_in (tb_4 (List.mem_of_getElem? (i := 89) rfl)) rfl
theorem cd_yJ2_newBytesFor_77867 : Cond.code yJ2_newBytesFor_77867 cJ2_newBytesFor_77867 1 (some (.array .byte)) ∈ bigW := bw_in (tb_4 (List.mem_of_getElem? (i := 90) rfl)) rfl
theorem ml_J2_11 : Cond.methodLink RJ2 11 yJ2_newBytesLength_0f7a4 ∈ bigW := bw_in (tb_4 (List.mem_of_getElem? (i := 91) rfl)) rfl
theorem sm_yJ2_newBytesLength_0f7a4 : Cond.static yJ2_newBytesLength_0f7a4 ∈ bigW := bw_in (tb_4 (List.mem_of_getElem? (i := 92) rfl)) rfl
theorem cd_yJ2_newBytesLength_0f7a4 : Cond.code yJ2_newBytesLength_0f7a4 cJ2_newBytesLength_0f7a4 1 (some .int) ∈ bigW := bw_in (tb_4 (List.mem_of_getElem? (i := 93) rfl)) rfl
theorem ml_L_54 : Cond.methodLink RL 54 yJ4_append_15ec4 ∈ bigW := bw_in (tb_4 (List.mem_of_getElem? (i := 108) rfl)) rfl
theorem im_yJ4_append_15ec4 : Cond.instanceMethod yJ4_append_15ec4 ∈ bigW := bw_in (tb_4 (List.mem_of_getElem? (i := 109) rfl)) rfl
theorem se_yJ4_append_15ec4 : Cond.selects RJ4 yJ4_append_15ec4 yJ4_append_15ec4 ∈ bigW := bw_in (tb_4 (List.mem_of_getElem? (i := 110) rfl)) rfl
theorem cd_yJ4_append_15ec4 : Cond.code yJ4_append_15ec4 cJ4_append_15ec4 2 (some (.object "java/lang/StringBuilder")) ∈ bigW := bw_in (tb_4 (List.mem_of_getElem? (i := 111) rfl)) rfl
theorem ml_J4_29 : Cond.methodLink RJ4 29 yJ5_append_cf1ce ∈ bigW := bw_in (tb_4 (List.mem_of_getElem? (i := 112) rfl)) rfl
theorem im_yJ5_append_cf1ce : Cond.instanceMethod yJ5_append_cf1ce ∈ bigW := bw_in (tb_4 (List.mem_of_getElem? (i := 113) rfl)) rfl
theorem cd_yJ5_append_cf1ce : Cond.code yJ5_append_cf1ce cJ5_append_cf1ce 3 (some (.object "java/lang/AbstractStringBuilder")) ∈ bigW := bw_in (tb_4 (List.mem_of_getElem? (i := 114) rfl)) rfl
theorem ml_J5_204 : Cond.methodLink RJ5 204 yJ5_appendNull_278bc ∈ bigW := bw_in (tb_4 (List.mem_of_getElem? (i := 115) rfl)) rfl
theorem im_yJ5_appendNull_278bc : Cond.instanceMethod yJ5_appendNull_278bc ∈ bigW := bw_in (tb_4 (List.mem_of_getElem? (i := 117) rfl)) rfl
theorem cd_yJ5_appendNull_278bc : Cond.code yJ5_appendNull_278bc cJ5_appendNull_278bc 3 (some (.object "java/lang/AbstractStringBuilder")) ∈ bigW := bw_in (tb_4 (List.mem_of_getElem? (i := 118) rfl)) rfl
theorem ml_J5_100 : Cond.methodLink RJ5 100 yJ5_ensureCapacityInternal_d00df ∈ bigW := bw_in (tb_4 (List.mem_of_getElem? (i := 119) rfl)) rfl
theorem im_yJ5_ensureCapacityInternal_d00df : Cond.instanceMethod yJ5_ensureCapacityInternal_d00df ∈ bigW := bw_in (tb_4 (List.mem_of_getElem? (i := 121) rfl)) rfl
theorem cd_yJ5_ensureCapacityInternal_d00df : Cond.code yJ5_ensureCapacityInternal_d00df cJ5_ensureCapacityInternal_d00df 3 none ∈ bigW := bw_in (tb_4 (List.mem_of_getElem? (i := 122) rfl)) rfl
theorem ml_J5_104 : Cond.methodLink RJ5 104 yJ5_newCapacity_0f7a4 ∈ bigW := bw_in (tb_4 (List.mem_of_getElem? (i := 123) rfl)) rfl
theorem im_yJ5_newCapacity_0f7a4 : Cond.instanceMethod yJ5_newCapacity_0f7a4 ∈ bigW := bw_in (tb_4 (List.mem_of_getElem? (i := 125) rfl)) rfl
theorem cd_yJ5_newCapacity_0f7a4 : Cond.code yJ5_newCapacity_0f7a4 cJ5_newCapacity_0f7a4 6 (some .int) ∈ bigW := bw_in (tb_4 (List.mem_of_getElem? (i := 126) rfl)) rfl
theorem ml_J5_114 : Cond.methodLink RJ5 114 yJ8_newLength_cabcc ∈ bigW := bw_in (tb_4 (List.mem_of_getElem? (i := 127) rfl)) rfl
theorem sm_yJ8_newLength_cabcc : Cond.static yJ8_newLength_cabcc ∈ bigW := bw_in (tb_4 (List.mem_of_getElem? (i := 128) rfl)) rfl
theorem cd_yJ8_newLength_cabcc : Cond.code yJ8_newLength_cabcc cJ8_newLength_cabcc 4 (some .int) ∈ bigW := bw_in (tb_4 (List.mem_of_getElem? (i := 129) rfl)) rfl
theorem ml_J8_194 : Cond.methodLink RJ8 194 yJ9_max_7cf53 ∈ bigW := bw_in (tb_4 (List.mem_of_getElem? (i := 130) rfl)) rfl
theorem ml_J8_201 : Cond.methodLink RJ8 201 yJ8_hugeLength_7cf53 ∈ bigW := bw_in (tb_4 (List.mem_of_getElem? (i := 132) rfl)) rfl
theorem sm_yJ8_hugeLength_7cf53 : Cond.static yJ8_hugeLength_7cf53 ∈ bigW := bw_in (tb_4 (List.mem_of_getElem? (i := 133) rfl)) rfl
theorem cd_yJ8_hugeLength_7cf53 : Cond.code yJ8_hugeLength_7cf53 cJ8_hugeLength_7cf53 3 (some .int) ∈ bigW := bw_in (tb_4 (List.mem_of_getElem? (i := 134) rfl)) rfl
theorem ml_J5_108 : Cond.methodLink RJ5 108 yJ7_copyOf_9075b ∈ bigW := bw_in (tb_4 (List.mem_of_getElem? (i := 136) rfl)) rfl
theorem sm_yJ7_copyOf_9075b : Cond.static yJ7_copyOf_9075b ∈ bigW := bw_in (tb_4 (List.mem_of_getElem? (i := 137) rfl)) rfl
theorem cd_yJ7_copyOf_9075b : Cond.code yJ7_copyOf_9075b cJ7_copyOf_9075b 3 (some (.array .byte)) ∈ bigW := bw_in (tb_4 (List.mem_of_getElem? (i := 138) rfl)) rfl
theorem ml_J7_304 : Cond.methodLink RJ7 304 yJ9_min_7cf53 ∈ bigW := bw_in (tb_4 (List.mem_of_getElem? (i := 146) rfl)) rfl
theorem ml_J7_150 : Cond.methodLink RJ7 150 arraycopyName ∈ bigW := bw_in (tb_4 (List.mem_of_getElem? (i := 147) rfl)) rfl
theorem ml_J5_83 : Cond.methodLink RJ5 83 yJ5_isLatin1_aae02 ∈ bigW := bw_in (tb_4 (List.mem_of_getElem? (i := 148) rfl)) rfl
theorem im_yJ5_isLatin1_aae02 : Cond.instanceMethod yJ5_isLatin1_aae02 ∈ bigW := bw_in (tb_4 (List.mem_of_getElem? (i := 149) rfl)) rfl
theorem cd_yJ5_isLatin1_aae02 : Cond.code yJ5_isLatin1_aae02 cJ5_isLatin1_aae02 1 (some .boolean) ∈ bigW := bw_in (tb_4 (List.mem_of_getElem? (i := 152) rfl)) rfl
theorem ml_J5_226 : Cond.methodLink RJ5 226 yJ2_putCharsAt_cd4e5 ∈ bigW := bw_in (tb_4 (List.mem_of_getElem? (i := 153) rfl)) rfl
theorem sm_yJ2_putCharsAt_cd4e5 : Cond.static yJ2_putCharsAt_cd4e5 ∈ bigW := bw_in (tb_4 (List.mem_of_getElem? (i := 154) rfl)) rfl
theorem cd_yJ2_putCharsAt_cd4e5 : Cond.code yJ2_putCharsAt_cd4e5 cJ2_putCharsAt_cd4e5 7 (some .int) ∈ bigW := bw_in (tb_4 (List.mem_of_getElem? (i := 155) rfl)) rfl
theorem ml_J2_96 : Cond.methodLink RJ2 96 yJ2_checkBoundsBeginEnd_d044e ∈ bigW := bw_in (tb_4 (List.mem_of_getElem? (i := 156) rfl)) rfl
theorem sm_yJ2_checkBoundsBeginEnd_d044e : Cond.static yJ2_checkBoundsBeginEnd_d044e ∈ bigW := bw_in (tb_4 (List.mem_of_getElem? (i := 157) rfl)) rfl
theorem cd_yJ2_checkBoundsBeginEnd_d044e : Cond.code yJ2_checkBoundsBeginEnd_d044e cJ2_checkBoundsBeginEnd_d044e 3 none ∈ bigW := bw_in (tb_4 (List.mem_of_getElem? (i := 158) rfl)) rfl
theorem ml_J2_241 : Cond.methodLink RJ2 241 yJ0_checkBoundsBeginEnd_23922 ∈ bigW := bw_in (tb_4 (List.mem_of_getElem? (i := 159) rfl)) rfl
theorem sm_yJ0_checkBoundsBeginEnd_23922 : Cond.static yJ0_checkBoundsBeginEnd_23922 ∈ bigW := bw_in (tb_4 (List.mem_of_getElem? (i := 160) rfl)) rfl
theorem cd_yJ0_checkBoundsBeginEnd_23922 : Cond.code yJ0_checkBoundsBeginEnd_23922 cJ0_checkBoundsBeginEnd_23922 3 none ∈ bigW := bw_in (tb_4 (List.mem_of_getElem? (i := 161) rfl)) rfl
theorem ml_J0_1062 : Cond.methodLink RJ0 1062 yJ3_checkFromToIndex_8c36e ∈ bigW := bw_in (tb_4 (List.mem_of_getElem? (i := 162) rfl)) rfl
theorem sm_yJ3_checkFromToIndex_8c36e : Cond.static yJ3_checkFromToIndex_8c36e ∈ bigW := bw_in (tb_4 (List.mem_of_getElem? (i := 163) rfl)) rfl
theorem cd_yJ3_checkFromToIndex_8c36e : Cond.code yJ3_checkFromToIndex_8c36e cJ3_checkFromToIndex_8c36e 4 (some .int) ∈ bigW := bw_in (tb_4 (List.mem_of_getElem? (i := 164) rfl)) rfl
theorem ml_J2_111 : Cond.methodLink RJ2 111 yJ2_putChar_b72d1 ∈ bigW := bw_in (tb_4 (List.mem_of_getElem? (i := 165) rfl)) rfl
theorem sm_yJ2_putChar_b72d1 : Cond.static yJ2_putChar_b72d1 ∈ bigW := bw_in (tb_4 (List.mem_of_getElem? (i := 166) rfl)) rfl
theorem cd_yJ2_putChar_b72d1 : Cond.code yJ2_putChar_b72d1 cJ2_putChar_b72d1 3 none ∈ bigW := bw_in (tb_4 (List.mem_of_getElem? (i := 167) rfl)) rfl
theorem ml_J5_32 : Cond.methodLink RJ5 32 yJ0_length_8abf5 ∈ bigW := bw_in (tb_4 (List.mem_of_getElem? (i := 168) rfl)) rfl
theorem ml_J5_208 : Cond.methodLink RJ5 208 yJ5_putStringAt_47b60 ∈ bigW := bw_in (tb_4 (List.mem_of_getElem? (i := 169) rfl)) rfl
theorem im_yJ5_putStringAt_47b60 : Cond.instanceMethod yJ5_putStringAt_47b60 ∈ bigW := bw_in (tb_4 (List.mem_of_getElem? (i := 171) rfl)) rfl
theorem cd_yJ5_putStringAt_47b60 : Cond.code yJ5_putStringAt_47b60 cJ5_putStringAt_47b60 3 none ∈ bigW := bw_in (tb_4 (List.mem_of_getElem? (i := 172) rfl)) rfl
theorem ml_J5_397 : Cond.methodLink RJ5 397 yJ5_inflateIfNeededFor_a7421 ∈ bigW := bw_in (tb_4 (List.mem_of_getElem? (i := 173) rfl)) rfl
theorem im_yJ5_inflateIfNeededFor_a7421 : Cond.instanceMethod yJ5_inflateIfNeededFor_a7421 ∈ bigW := bw_in (tb_4 (List.mem_of_getElem? (i := 175) rfl)) rfl
theorem cd_yJ5_inflateIfNeededFor_a7421 : Cond.code yJ5_inflateIfNeededFor_a7421 cJ5_inflateIfNeededFor_a7421 2 none ∈ bigW := bw_in (tb_4 (List.mem_of_getElem? (i := 176) rfl)) rfl
theorem ml_J5_40 : Cond.methodLink RJ5 40 yJ0_coder_7d493 ∈ bigW := bw_in (tb_4 (List.mem_of_getElem? (i := 177) rfl)) rfl
theorem ml_J5_195 : Cond.methodLink RJ5 195 yJ5_inflate_da8c8 ∈ bigW := bw_in (tb_4 (List.mem_of_getElem? (i := 178) rfl)) rfl
theorem im_yJ5_inflate_da8c8 : Cond.instanceMethod yJ5_inflate_da8c8 ∈ bigW := bw_in (tb_4 (List.mem_of_getElem? (i := 180) rfl)) rfl
theorem cd_yJ5_inflate_da8c8 : Cond.code yJ5_inflate_da8c8 cJ5_inflate_da8c8 2 none ∈ bigW := bw_in (tb_4 (List.mem_of_getElem? (i := 181) rfl)) rfl
theorem ml_J5_125 : Cond.methodLink RJ5 125 yJ1_inflate_0e8fd ∈ bigW := bw_in (tb_4 (List.mem_of_getElem? (i := 182) rfl)) rfl
theorem sm_yJ1_inflate_0e8fd : Cond.static yJ1_inflate_0e8fd ∈ bigW := bw_in (tb_4 (List.mem_of_getElem? (i := 183) rfl)) rfl
theorem cd_yJ1_inflate_0e8fd : Cond.code yJ1_inflate_0e8fd cJ1_inflate_0e8fd 5 none ∈ bigW := bw_in (tb_4 (List.mem_of_getElem? (i := 184) rfl)) rfl
theorem ml_J1_240 : Cond.methodLink RJ1 240 yJ2_inflate_0e8fd ∈ bigW := bw_in (tb_4 (List.mem_of_getElem? (i := 185) rfl)) rfl
theorem sm_yJ2_inflate_0e8fd : Cond.static yJ2_inflate_0e8fd ∈ bigW := bw_in (tb_4 (List.mem_of_getElem? (i := 186) rfl)) rfl
theorem cd_yJ2_inflate_0e8fd : Cond.code yJ2_inflate_0e8fd cJ2_inflate_0e8fd 6 none ∈ bigW := bw_in (tb_4 (List.mem_of_getElem? (i := 187) rfl)) rfl
theorem ml_J2_173 : Cond.methodLink RJ2 173 yJ2_checkBoundsOffCount_d044e ∈ bigW := bw_in (tb_4 (List.mem_of_getElem? (i := 188) rfl)) rfl
theorem sm_yJ2_checkBoundsOffCount_d044e : Cond.static yJ2_checkBoundsOffCount_d044e ∈ bigW := bw_in (tb_4 (List.mem_of_getElem? (i := 189) rfl)) rfl
theorem cd_yJ2_checkBoundsOffCount_d044e : Cond.code yJ2_checkBoundsOffCount_d044e cJ2_checkBoundsOffCount_d044e 3 none ∈ bigW := bw_in (tb_4 (List.mem_of_getElem? (i := 190) rfl)) rfl
theorem ml_J2_419 : Cond.methodLink RJ2 419 yJ0_checkBoundsOffCount_cabcc ∈ bigW := bw_in (tb_4 (List.mem_of_getElem? (i := 191) rfl)) rfl
theorem sm_yJ0_checkBoundsOffCount_cabcc : Cond.static yJ0_checkBoundsOffCount_cabcc ∈ bigW := bw_in (tb_4 (List.mem_of_getElem? (i := 192) rfl)) rfl
theorem cd_yJ0_checkBoundsOffCount_cabcc : Cond.code yJ0_checkBoundsOffCount_cabcc cJ0_checkBoundsOffCount_cabcc 3 (some .int) ∈ bigW := bw_in (tb_4 (List.mem_of_getElem? (i := 193) rfl)) rfl
theorem ml_J0_1065 : Cond.methodLink RJ0 1065 yJ3_checkFromIndexSize_8c36e ∈ bigW := bw_in (tb_4 (List.mem_of_getElem? (i := 194) rfl)) rfl
theorem sm_yJ3_checkFromIndexSize_8c36e : Cond.static yJ3_checkFromIndexSize_8c36e ∈ bigW := bw_in (tb_4 (List.mem_of_getElem? (i := 195) rfl)) rfl
theorem cd_yJ3_checkFromIndexSize_8c36e : Cond.code yJ3_checkFromIndexSize_8c36e cJ3_checkFromIndexSize_8c36e 4 (some .int) ∈ bigW := bw_in (tb_4 (List.mem_of_getElem? (i := 196) rfl)) rfl
theorem ml_J5_399 : Cond.methodLink RJ5 399 yJ0_getBytes_840e7 ∈ bigW := bw_in (tb_4 (List.mem_of_getElem? (i := 197) rfl)) rfl
theorem im_yJ0_getBytes_840e7 : Cond.instanceMethod yJ0_getBytes_840e7 ∈ bigW := bw_in (tb_4 (List.mem_of_getElem? (i := 198) rfl)) rfl
theorem se_yJ0_getBytes_840e7 : Cond.selects RJ0 yJ0_getBytes_840e7 yJ0_getBytes_840e7 ∈ bigW := bw_in (tb_4 (List.mem_of_getElem? (i := 199) rfl)) rfl
theorem cd_yJ0_getBytes_840e7 : Cond.code yJ0_getBytes_840e7 cJ0_getBytes_840e7 4 none ∈ bigW := bw_in (tb_4 (List.mem_of_getElem? (i := 200) rfl)) rfl
theorem ml_J0_212 : Cond.methodLink RJ0 212 arraycopyName ∈ bigW := bw_in (tb_4 (List.mem_of_getElem? (i := 201) rfl)) rfl
theorem ml_J0_106 : Cond.methodLink RJ0 106 yJ1_inflate_0e8fd ∈ bigW := bw_in (tb_4 (List.mem_of_getElem? (i := 202) rfl)) rfl
theorem ml_L_79 : Cond.methodLink RL 79 yL_rank ∈ bigW := bw_in (tb_4 (List.mem_of_getElem? (i := 205) rfl)) rfl
theorem sm_yL_rank : Cond.static yL_rank ∈ bigW := bw_in (tb_4 (List.mem_of_getElem? (i := 206) rfl)) rfl
theorem cd_yL_rank : Cond.code yL_rank cL_rank 2 (some .int) ∈ bigW := bw_in (tb_4 (List.mem_of_getElem? (i := 207) rfl)) rfl
theorem ml_L_50 : Cond.methodLink RL 50 yL_num ∈ bigW := bw_in (tb_4 (List.mem_of_getElem? (i := 208) rfl)) rfl
theorem sm_yL_num : Cond.static yL_num ∈ bigW := bw_in (tb_4 (List.mem_of_getElem? (i := 209) rfl)) rfl
theorem cd_yL_num : Cond.code yL_num cL_num 2 (some (.object "java/lang/String")) ∈ bigW := bw_in (tb_4 (List.mem_of_getElem? (i := 210) rfl)) rfl
theorem ml_L_43 : Cond.methodLink RL 43 yJ0_substring_37a41 ∈ bigW := bw_in (tb_4 (List.mem_of_getElem? (i := 212) rfl)) rfl
theorem im_yJ0_substring_37a41 : Cond.instanceMethod yJ0_substring_37a41 ∈ bigW := bw_in (tb_4 (List.mem_of_getElem? (i := 213) rfl)) rfl
theorem se_yJ0_substring_37a41 : Cond.selects RJ0 yJ0_substring_37a41 yJ0_substring_37a41 ∈ bigW := bw_in (tb_4 (List.mem_of_getElem? (i := 214) rfl)) rfl
theorem cd_yJ0_substring_37a41 : Cond.code yJ0_substring_37a41 cJ0_substring_37a41 5 (some (.object "java/lang/String")) ∈ bigW := bw_in (tb_4 (List.mem_of_getElem? (i := 215) rfl)) rfl
theorem ml_J0_505 : Cond.methodLink RJ0 505 yJ0_length_8abf5 ∈ bigW := bw_in (tb_4 (List.mem_of_getElem? (i := 216) rfl)) rfl
theorem ml_J0_521 : Cond.methodLink RJ0 521 yJ0_checkBoundsBeginEnd_23922 ∈ bigW := bw_in (tb_4 (List.mem_of_getElem? (i := 217) rfl)) rfl
theorem ml_J0_685 : Cond.methodLink RJ0 685 yJ1_newString_b4f7a ∈ bigW := bw_in (tb_4 (List.mem_of_getElem? (i := 218) rfl)) rfl
theorem sm_yJ1_newString_b4f7a : Cond.static yJ1_newString_b4f7a ∈ bigW := bw_in (tb_4 (List.mem_of_getElem? (i := 219) rfl)) rfl
theorem cd_yJ1_newString_b4f7a : Cond.code yJ1_newString_b4f7a cJ1_newString_b4f7a 3 (some (.object "java/lang/String")) ∈ bigW := bw_in (tb_4 (List.mem_of_getElem? (i := 220) rfl)) rfl
theorem ml_J1_232 : Cond.methodLink RJ1 232 yJ7_copyOfRange_39247 ∈ bigW := bw_in (tb_4 (List.mem_of_getElem? (i := 224) rfl)) rfl
theorem sm_yJ7_copyOfRange_39247 : Cond.static yJ7_copyOfRange_39247 ∈ bigW := bw_in (tb_4 (List.mem_of_getElem? (i := 225) rfl)) rfl
theorem cd_yJ7_copyOfRange_39247 : Cond.code yJ7_copyOfRange_39247 cJ7_copyOfRange_39247 3 (some (.array .byte)) ∈ bigW := bw_in (tb_4 (List.mem_of_getElem? (i := 226) rfl)) rfl
theorem ml_J7_339 : Cond.methodLink RJ7 339 yJ7_copyOfRangeByte_39247 ∈ bigW := bw_in (tb_4 (List.mem_of_getElem? (i := 227) rfl)) rfl
theorem sm_yJ7_copyOfRangeByte_39247 : Cond.static yJ7_copyOfRangeByte_39247 ∈ bigW := bw_in (tb_4 (List.mem_of_getElem? (i := 228) rfl)) rfl
theorem cd_yJ7_copyOfRangeByte_39247 : Cond.code yJ7_copyOfRangeByte_39247 cJ7_copyOfRangeByte_39247 5 (some (.array .byte)) ∈ bigW := bw_in (tb_4 (List.mem_of_getElem? (i := 229) rfl)) rfl
theorem ml_J7_343 : Cond.methodLink RJ7 343 yJ7_checkLength_df160 ∈ bigW := bw_in (tb_4 (List.mem_of_getElem? (i := 230) rfl)) rfl
theorem sm_yJ7_checkLength_df160 : Cond.static yJ7_checkLength_df160 ∈ bigW := bw_in (tb_4 (List.mem_of_getElem? (i := 231) rfl)) rfl
theorem cd_yJ7_checkLength_df160 : Cond.code yJ7_checkLength_df160 cJ7_checkLength_df160 2 none ∈ bigW := bw_in (tb_4 (List.mem_of_getElem? (i := 232) rfl)) rfl
theorem ml_J1_112 : Cond.methodLink RJ1 112 yJ0_init_031fb ∈ bigW := bw_in (tb_4 (List.mem_of_getElem? (i := 233) rfl)) rfl
theorem im_yJ0_init_031fb : Cond.instanceMethod yJ0_init_031fb ∈ bigW := bw_in (tb_4 (List.mem_of_getElem? (i := 234) rfl)) rfl
theorem cd_yJ0_init_031fb : Cond.code yJ0_init_031fb cJ0_init_031fb 3 none ∈ bigW := bw_in (tb_4 (List.mem_of_getElem? (i := 235) rfl)) rfl
theorem ml_J0_689 : Cond.methodLink RJ0 689 yJ2_newString_b4f7a ∈ bigW := bw_in (tb_5 (List.mem_of_getElem? (i := 8) rfl)) rfl
theorem sm_yJ2_newString_b4f7a : Cond.static yJ2_newString_b4f7a ∈ bigW := bw_in (tb_5 (List.mem_of_getElem? (i := 9) rfl)) rfl
theorem cd_yJ2_newString_b4f7a : Cond.code yJ2_newString_b4f7a cJ2_newString_b4f7a 5 (some (.object "java/lang/String")) ∈ bigW := bw_in (tb_5 (List.mem_of_getElem? (i := 10) rfl)) rfl
theorem ml_J2_257 : Cond.methodLink RJ2 257 yJ2_compress_39247 ∈ bigW := bw_in (tb_5 (List.mem_of_getElem? (i := 13) rfl)) rfl
theorem sm_yJ2_compress_39247 : Cond.static yJ2_compress_39247 ∈ bigW := bw_in (tb_5 (List.mem_of_getElem? (i := 14) rfl)) rfl
theorem cd_yJ2_compress_39247 : Cond.code yJ2_compress_39247 cJ2_compress_39247 6 (some (.array .byte)) ∈ bigW := bw_in (tb_5 (List.mem_of_getElem? (i := 15) rfl)) rfl
theorem ml_J2_123 : Cond.methodLink RJ2 123 yJ2_compress_5af95 ∈ bigW := bw_in (tb_5 (List.mem_of_getElem? (i := 16) rfl)) rfl
theorem sm_yJ2_compress_5af95 : Cond.static yJ2_compress_5af95 ∈ bigW := bw_in (tb_5 (List.mem_of_getElem? (i := 17) rfl)) rfl
theorem cd_yJ2_compress_5af95 : Cond.code yJ2_compress_5af95 cJ2_compress_5af95 7 (some .int) ∈ bigW := bw_in (tb_5 (List.mem_of_getElem? (i := 18) rfl)) rfl
theorem ml_J2_126 : Cond.methodLink RJ2 126 yJ7_copyOfRange_39247 ∈ bigW := bw_in (tb_5 (List.mem_of_getElem? (i := 19) rfl)) rfl
theorem ml_J2_259 : Cond.methodLink RJ2 259 yJ2_coderFromArrayLen_85cad ∈ bigW := bw_in (tb_5 (List.mem_of_getElem? (i := 20) rfl)) rfl
theorem sm_yJ2_coderFromArrayLen_85cad : Cond.static yJ2_coderFromArrayLen_85cad ∈ bigW := bw_in (tb_5 (List.mem_of_getElem? (i := 21) rfl)) rfl
theorem cd_yJ2_coderFromArrayLen_85cad : Cond.code yJ2_coderFromArrayLen_85cad cJ2_coderFromArrayLen_85cad 2 (some .byte) ∈ bigW := bw_in (tb_5 (List.mem_of_getElem? (i := 22) rfl)) rfl
theorem ml_J2_263 : Cond.methodLink RJ2 263 yJ0_init_031fb ∈ bigW := bw_in (tb_5 (List.mem_of_getElem? (i := 24) rfl)) rfl
theorem ml_L_58 : Cond.methodLink RL 58 yJ4_toString_0e30d ∈ bigW := bw_in (tb_5 (List.mem_of_getElem? (i := 25) rfl)) rfl
theorem im_yJ4_toString_0e30d : Cond.instanceMethod yJ4_toString_0e30d ∈ bigW := bw_in (tb_5 (List.mem_of_getElem? (i := 26) rfl)) rfl
theorem se_yJ4_toString_0e30d : Cond.selects RJ4 yJ4_toString_0e30d yJ4_toString_0e30d ∈ bigW := bw_in (tb_5 (List.mem_of_getElem? (i := 27) rfl)) rfl
theorem cd_yJ4_toString_0e30d : Cond.code yJ4_toString_0e30d cJ4_toString_0e30d 1 (some (.object "java/lang/String")) ∈ bigW := bw_in (tb_5 (List.mem_of_getElem? (i := 28) rfl)) rfl
theorem ml_J4_137 : Cond.methodLink RJ4 137 yJ0_init_81219 ∈ bigW := bw_in (tb_5 (List.mem_of_getElem? (i := 30) rfl)) rfl
theorem im_yJ0_init_81219 : Cond.instanceMethod yJ0_init_81219 ∈ bigW := bw_in (tb_5 (List.mem_of_getElem? (i := 31) rfl)) rfl
theorem cd_yJ0_init_81219 : Cond.code yJ0_init_81219 cJ0_init_81219 2 none ∈ bigW := bw_in (tb_5 (List.mem_of_getElem? (i := 32) rfl)) rfl
theorem ml_J0_489 : Cond.methodLink RJ0 489 yJ0_init_db425 ∈ bigW := bw_in (tb_5 (List.mem_of_getElem? (i := 33) rfl)) rfl
theorem im_yJ0_init_db425 : Cond.instanceMethod yJ0_init_db425 ∈ bigW := bw_in (tb_5 (List.mem_of_getElem? (i := 34) rfl)) rfl
theorem cd_yJ0_init_db425 : Cond.code yJ0_init_db425 cJ0_init_db425 5 none ∈ bigW := bw_in (tb_5 (List.mem_of_getElem? (i := 35) rfl)) rfl
theorem ml_J0_552 : Cond.methodLink RJ0 552 yJ5_getValue_6d5f1 ∈ bigW := bw_in (tb_5 (List.mem_of_getElem? (i := 36) rfl)) rfl
theorem im_yJ5_getValue_6d5f1 : Cond.instanceMethod yJ5_getValue_6d5f1 ∈ bigW := bw_in (tb_5 (List.mem_of_getElem? (i := 37) rfl)) rfl
theorem cd_yJ5_getValue_6d5f1 : Cond.code yJ5_getValue_6d5f1 cJ5_getValue_6d5f1 1 (some (.array .byte)) ∈ bigW := bw_in (tb_5 (List.mem_of_getElem? (i := 40) rfl)) rfl
theorem ml_J0_549 : Cond.methodLink RJ0 549 yJ5_length_8abf5 ∈ bigW := bw_in (tb_5 (List.mem_of_getElem? (i := 41) rfl)) rfl
theorem im_yJ5_length_8abf5 : Cond.instanceMethod yJ5_length_8abf5 ∈ bigW := bw_in (tb_5 (List.mem_of_getElem? (i := 42) rfl)) rfl
theorem im_yJ4_length_8abf5 : Cond.instanceMethod yJ4_length_8abf5 ∈ bigW := bw_in (tb_5 (List.mem_of_getElem? (i := 45) rfl)) rfl
theorem cd_yJ4_length_8abf5 : Cond.code yJ4_length_8abf5 cJ4_length_8abf5 1 (some .int) ∈ bigW := bw_in (tb_5 (List.mem_of_getElem? (i := 46) rfl)) rfl
theorem ml_J4_343 : Cond.methodLink RJ4 343 yJ5_length_8abf5 ∈ bigW := bw_in (tb_5 (List.mem_of_getElem? (i := 47) rfl)) rfl
theorem cd_yJ5_length_8abf5 : Cond.code yJ5_length_8abf5 cJ5_length_8abf5 1 (some .int) ∈ bigW := bw_in (tb_5 (List.mem_of_getElem? (i := 48) rfl)) rfl
theorem ml_J0_1047 : Cond.methodLink RJ0 1047 yJ5_isLatin1_aae02 ∈ bigW := bw_in (tb_5 (List.mem_of_getElem? (i := 49) rfl)) rfl
theorem ml_J0_54 : Cond.methodLink RJ0 54 yJ7_copyOfRange_39247 ∈ bigW := bw_in (tb_5 (List.mem_of_getElem? (i := 50) rfl)) rfl
theorem ml_J0_1051 : Cond.methodLink RJ0 1051 yJ2_compress_39247 ∈ bigW := bw_in (tb_5 (List.mem_of_getElem? (i := 51) rfl)) rfl
theorem ml_J0_47 : Cond.methodLink RJ0 47 yJ2_coderFromArrayLen_85cad ∈ bigW := bw_in (tb_5 (List.mem_of_getElem? (i := 52) rfl)) rfl
theorem ml_L_94 : Cond.methodLink RL 94 yL_first ∈ bigW := bw_in (tb_5 (List.mem_of_getElem? (i := 61) rfl)) rfl
theorem sm_yL_first : Cond.static yL_first ∈ bigW := bw_in (tb_5 (List.mem_of_getElem? (i := 62) rfl)) rfl
theorem cd_yL_first : Cond.code yL_first cL_first 2 (some .int) ∈ bigW := bw_in (tb_5 (List.mem_of_getElem? (i := 63) rfl)) rfl
theorem ml_L_109 : Cond.methodLink RL 109 yL_care ∈ bigW := bw_in (tb_5 (List.mem_of_getElem? (i := 70) rfl)) rfl
theorem sm_yL_care : Cond.static yL_care ∈ bigW := bw_in (tb_5 (List.mem_of_getElem? (i := 71) rfl)) rfl
theorem cd_yL_care : Cond.code yL_care cL_care 2 (some .int) ∈ bigW := bw_in (tb_5 (List.mem_of_getElem? (i := 72) rfl)) rfl
theorem ml_L_122 : Cond.methodLink RL 122 yL_adds ∈ bigW := bw_in (tb_5 (List.mem_of_getElem? (i := 78) rfl)) rfl
theorem sm_yL_adds : Cond.static yL_adds ∈ bigW := bw_in (tb_5 (List.mem_of_getElem? (i := 79) rfl)) rfl
theorem cd_yL_adds : Cond.code yL_adds cL_adds 1 (some .int) ∈ bigW := bw_in (tb_5 (List.mem_of_getElem? (i := 80) rfl)) rfl
theorem ml_L_140 : Cond.methodLink RL 140 yL_part ∈ bigW := bw_in (tb_5 (List.mem_of_getElem? (i := 88) rfl)) rfl
theorem sm_yL_part : Cond.static yL_part ∈ bigW := bw_in (tb_5 (List.mem_of_getElem? (i := 89) rfl)) rfl
theorem cd_yL_part : Cond.code yL_part cL_part 1 (some .int) ∈ bigW := bw_in (tb_5 (List.mem_of_getElem? (i := 90) rfl)) rfl
theorem ml_L_145 : Cond.methodLink RL 145 yL_since ∈ bigW := bw_in (tb_5 (List.mem_of_getElem? (i := 92) rfl)) rfl
theorem sm_yL_since : Cond.static yL_since ∈ bigW := bw_in (tb_5 (List.mem_of_getElem? (i := 93) rfl)) rfl
theorem cd_yL_since : Cond.code yL_since cL_since 1 (some .int) ∈ bigW := bw_in (tb_5 (List.mem_of_getElem? (i := 94) rfl)) rfl
theorem ml_L_154 : Cond.methodLink RL 154 yL_each ∈ bigW := bw_in (tb_5 (List.mem_of_getElem? (i := 98) rfl)) rfl
theorem sm_yL_each : Cond.static yL_each ∈ bigW := bw_in (tb_5 (List.mem_of_getElem? (i := 99) rfl)) rfl
theorem cd_yL_each : Cond.code yL_each cL_each 1 (some .int) ∈ bigW := bw_in (tb_5 (List.mem_of_getElem? (i := 100) rfl)) rfl
theorem ml_L_170 : Cond.methodLink RL 170 yL_say ∈ bigW := bw_in (tb_5 (List.mem_of_getElem? (i := 103) rfl)) rfl
theorem sm_yL_say : Cond.static yL_say ∈ bigW := bw_in (tb_5 (List.mem_of_getElem? (i := 104) rfl)) rfl
theorem cd_yL_say : Cond.code yL_say cL_say 4 none ∈ bigW := bw_in (tb_5 (List.mem_of_getElem? (i := 105) rfl)) rfl
theorem ml_L_9 : Cond.methodLink RL 9 yJ0_length_8abf5 ∈ bigW := bw_in (tb_5 (List.mem_of_getElem? (i := 106) rfl)) rfl
theorem ml_L_31 : Cond.methodLink RL 31 yL_four ∈ bigW := bw_in (tb_5 (List.mem_of_getElem? (i := 107) rfl)) rfl
theorem sm_yL_four : Cond.static yL_four ∈ bigW := bw_in (tb_5 (List.mem_of_getElem? (i := 108) rfl)) rfl
theorem cd_yL_four : Cond.code yL_four cL_four 2 (some .int) ∈ bigW := bw_in (tb_5 (List.mem_of_getElem? (i := 109) rfl)) rfl
theorem ml_L_19 : Cond.methodLink RL 19 yL_letter ∈ bigW := bw_in (tb_5 (List.mem_of_getElem? (i := 110) rfl)) rfl
theorem sm_yL_letter : Cond.static yL_letter ∈ bigW := bw_in (tb_5 (List.mem_of_getElem? (i := 111) rfl)) rfl
theorem cd_yL_letter : Cond.code yL_letter cL_letter 2 (some .int) ∈ bigW := bw_in (tb_5 (List.mem_of_getElem? (i := 112) rfl)) rfl
theorem ml_L_15 : Cond.methodLink RL 15 yJ0_charAt_5068e ∈ bigW := bw_in (tb_5 (List.mem_of_getElem? (i := 113) rfl)) rfl
theorem ml_L_34 : Cond.methodLink RL 34 yX10_feed ∈ bigW := bw_in (tb_5 (List.mem_of_getElem? (i := 114) rfl)) rfl
theorem im_yX10_feed : Cond.instanceMethod yX10_feed ∈ bigW := bw_in (tb_5 (List.mem_of_getElem? (i := 115) rfl)) rfl
theorem se_yX10_feed : Cond.selects RX10 yX10_feed yX10_feed ∈ bigW := bw_in (tb_5 (List.mem_of_getElem? (i := 116) rfl)) rfl
theorem cd_yX10_feed : Cond.code yX10_feed cX10_feed 6 (some .int) ∈ bigW := bw_in (tb_5 (List.mem_of_getElem? (i := 117) rfl)) rfl
theorem ml_X10_87 : Cond.methodLink RX10 87 yX6_append ∈ bigW := bw_in (tb_5 (List.mem_of_getElem? (i := 119) rfl)) rfl
theorem im_yX6_append : Cond.instanceMethod yX6_append ∈ bigW := bw_in (tb_5 (List.mem_of_getElem? (i := 120) rfl)) rfl
theorem se_yX6_append : Cond.selects RX6 yX6_append yX6_append ∈ bigW := bw_in (tb_5 (List.mem_of_getElem? (i := 121) rfl)) rfl
theorem cd_yX6_append : Cond.code yX6_append cX6_append 3 none ∈ bigW := bw_in (tb_5 (List.mem_of_getElem? (i := 122) rfl)) rfl
theorem ml_L_38 : Cond.methodLink RL 38 yX10_trim ∈ bigW := bw_in (tb_5 (List.mem_of_getElem? (i := 123) rfl)) rfl
theorem im_yX10_trim : Cond.instanceMethod yX10_trim ∈ bigW := bw_in (tb_5 (List.mem_of_getElem? (i := 124) rfl)) rfl
theorem se_yX10_trim : Cond.selects RX10 yX10_trim yX10_trim ∈ bigW := bw_in (tb_5 (List.mem_of_getElem? (i := 125) rfl)) rfl
theorem cd_yX10_trim : Cond.code yX10_trim cX10_trim 2 (some .int) ∈ bigW := bw_in (tb_5 (List.mem_of_getElem? (i := 126) rfl)) rfl
theorem ml_X10_96 : Cond.methodLink RX10 96 yX6_cut ∈ bigW := bw_in (tb_5 (List.mem_of_getElem? (i := 128) rfl)) rfl
theorem im_yX6_cut : Cond.instanceMethod yX6_cut ∈ bigW := bw_in (tb_5 (List.mem_of_getElem? (i := 129) rfl)) rfl
theorem se_yX6_cut : Cond.selects RX6 yX6_cut yX6_cut ∈ bigW := bw_in (tb_5 (List.mem_of_getElem? (i := 130) rfl)) rfl
theorem cd_yX6_cut : Cond.code yX6_cut cX6_cut 2 none ∈ bigW := bw_in (tb_5 (List.mem_of_getElem? (i := 131) rfl)) rfl
theorem ml_L_174 : Cond.methodLink RL 174 yX10_teach ∈ bigW := bw_in (tb_5 (List.mem_of_getElem? (i := 132) rfl)) rfl
theorem im_yX10_teach : Cond.instanceMethod yX10_teach ∈ bigW := bw_in (tb_5 (List.mem_of_getElem? (i := 133) rfl)) rfl
theorem se_yX10_teach : Cond.selects RX10 yX10_teach yX10_teach ∈ bigW := bw_in (tb_5 (List.mem_of_getElem? (i := 134) rfl)) rfl
theorem cd_yX10_teach : Cond.code yX10_teach cX10_teach 4 (some .int) ∈ bigW := bw_in (tb_5 (List.mem_of_getElem? (i := 135) rfl)) rfl
theorem ml_X10_99 : Cond.methodLink RX10 99 yX8_readAll ∈ bigW := bw_in (tb_5 (List.mem_of_getElem? (i := 136) rfl)) rfl
theorem im_yX8_readAll : Cond.instanceMethod yX8_readAll ∈ bigW := bw_in (tb_5 (List.mem_of_getElem? (i := 137) rfl)) rfl
theorem se_yX8_readAll : Cond.selects RX8 yX8_readAll yX8_readAll ∈ bigW := bw_in (tb_5 (List.mem_of_getElem? (i := 138) rfl)) rfl
theorem cd_yX8_readAll : Cond.code yX8_readAll cX8_readAll 6 none ∈ bigW := bw_in (tb_5 (List.mem_of_getElem? (i := 139) rfl)) rfl
theorem ml_X8_54 : Cond.methodLink RX8 54 yX6_behindBlanks ∈ bigW := bw_in (tb_5 (List.mem_of_getElem? (i := 140) rfl)) rfl
theorem im_yX6_behindBlanks : Cond.instanceMethod yX6_behindBlanks ∈ bigW := bw_in (tb_5 (List.mem_of_getElem? (i := 141) rfl)) rfl
theorem se_yX6_behindBlanks : Cond.selects RX6 yX6_behindBlanks yX6_behindBlanks ∈ bigW := bw_in (tb_5 (List.mem_of_getElem? (i := 142) rfl)) rfl
theorem cd_yX6_behindBlanks : Cond.code yX6_behindBlanks cX6_behindBlanks 3 (some .int) ∈ bigW := bw_in (tb_5 (List.mem_of_getElem? (i := 143) rfl)) rfl
theorem ml_X6_17 : Cond.methodLink RX6 17 yX6_signAt ∈ bigW := bw_in (tb_5 (List.mem_of_getElem? (i := 144) rfl)) rfl
theorem im_yX6_signAt : Cond.instanceMethod yX6_signAt ∈ bigW := bw_in (tb_5 (List.mem_of_getElem? (i := 145) rfl)) rfl
theorem se_yX6_signAt : Cond.selects RX6 yX6_signAt yX6_signAt ∈ bigW := bw_in (tb_5 (List.mem_of_getElem? (i := 146) rfl)) rfl
theorem cd_yX6_signAt : Cond.code yX6_signAt cX6_signAt 2 (some .int) ∈ bigW := bw_in (tb_5 (List.mem_of_getElem? (i := 147) rfl)) rfl
theorem ml_X8_59 : Cond.methodLink RX8 59 yX8_kindOfNext ∈ bigW := bw_in (tb_5 (List.mem_of_getElem? (i := 148) rfl)) rfl
theorem im_yX8_kindOfNext : Cond.instanceMethod yX8_kindOfNext ∈ bigW := bw_in (tb_5 (List.mem_of_getElem? (i := 150) rfl)) rfl
theorem cd_yX8_kindOfNext : Cond.code yX8_kindOfNext cX8_kindOfNext 4 (some .int) ∈ bigW := bw_in (tb_5 (List.mem_of_getElem? (i := 151) rfl)) rfl
theorem ml_X8_63 : Cond.methodLink RX8 63 yX6_signAt ∈ bigW := bw_in (tb_5 (List.mem_of_getElem? (i := 152) rfl)) rfl
theorem ml_X8_70 : Cond.methodLink RX8 70 yX8_kindOfWord ∈ bigW := bw_in (tb_5 (List.mem_of_getElem? (i := 153) rfl)) rfl
theorem im_yX8_kindOfWord : Cond.instanceMethod yX8_kindOfWord ∈ bigW := bw_in (tb_5 (List.mem_of_getElem? (i := 155) rfl)) rfl
theorem cd_yX8_kindOfWord : Cond.code yX8_kindOfWord cX8_kindOfWord 6 (some .int) ∈ bigW := bw_in (tb_5 (List.mem_of_getElem? (i := 156) rfl)) rfl
theorem ml_X8_73 : Cond.methodLink RX8 73 yX8_isDigit ∈ bigW := bw_in (tb_5 (List.mem_of_getElem? (i := 157) rfl)) rfl
theorem sm_yX8_isDigit : Cond.static yX8_isDigit ∈ bigW := bw_in (tb_5 (List.mem_of_getElem? (i := 158) rfl)) rfl
theorem cd_yX8_isDigit : Cond.code yX8_isDigit cX8_isDigit 1 (some .boolean) ∈ bigW := bw_in (tb_5 (List.mem_of_getElem? (i := 159) rfl)) rfl
theorem ml_X8_76 : Cond.methodLink RX8 76 yX8_kindOfNumber ∈ bigW := bw_in (tb_5 (List.mem_of_getElem? (i := 160) rfl)) rfl
theorem im_yX8_kindOfNumber : Cond.instanceMethod yX8_kindOfNumber ∈ bigW := bw_in (tb_5 (List.mem_of_getElem? (i := 162) rfl)) rfl
theorem cd_yX8_kindOfNumber : Cond.code yX8_kindOfNumber cX8_kindOfNumber 5 (some .int) ∈ bigW := bw_in (tb_5 (List.mem_of_getElem? (i := 163) rfl)) rfl
theorem ml_X8_79 : Cond.methodLink RX8 79 yX8_kindOfSymbol ∈ bigW := bw_in (tb_5 (List.mem_of_getElem? (i := 166) rfl)) rfl
theorem im_yX8_kindOfSymbol : Cond.instanceMethod yX8_kindOfSymbol ∈ bigW := bw_in (tb_5 (List.mem_of_getElem? (i := 168) rfl)) rfl
theorem cd_yX8_kindOfSymbol : Cond.code yX8_kindOfSymbol cX8_kindOfSymbol 5 (some .int) ∈ bigW := bw_in (tb_5 (List.mem_of_getElem? (i := 169) rfl)) rfl
theorem ml_X8_89 : Cond.methodLink RX8 89 yJ0_indexOf_0f7a4 ∈ bigW := bw_in (tb_5 (List.mem_of_getElem? (i := 171) rfl)) rfl
theorem im_yJ0_indexOf_0f7a4 : Cond.instanceMethod yJ0_indexOf_0f7a4 ∈ bigW := bw_in (tb_5 (List.mem_of_getElem? (i := 172) rfl)) rfl
theorem se_yJ0_indexOf_0f7a4 : Cond.selects RJ0 yJ0_indexOf_0f7a4 yJ0_indexOf_0f7a4 ∈ bigW := bw_in (tb_5 (List.mem_of_getElem? (i := 173) rfl)) rfl
theorem cd_yJ0_indexOf_0f7a4 : Cond.code yJ0_indexOf_0f7a4 cJ0_indexOf_0f7a4 2 (some .int) ∈ bigW := bw_in (tb_5 (List.mem_of_getElem? (i := 174) rfl)) rfl
theorem ml_J0_633 : Cond.methodLink RJ0 633 yJ0_indexOf_7cf53 ∈ bigW := bw_in (tb_5 (List.mem_of_getElem? (i := 175) rfl)) rfl
theorem im_yJ0_indexOf_7cf53 : Cond.instanceMethod yJ0_indexOf_7cf53 ∈ bigW := bw_in (tb_5 (List.mem_of_getElem? (i := 176) rfl)) rfl
theorem se_yJ0_indexOf_7cf53 : Cond.selects RJ0 yJ0_indexOf_7cf53 yJ0_indexOf_7cf53 ∈ bigW := bw_in (tb_5 (List.mem_of_getElem? (i := 177) rfl)) rfl
theorem cd_yJ0_indexOf_7cf53 : Cond.code yJ0_indexOf_7cf53 cJ0_indexOf_7cf53 3 (some .int) ∈ bigW := bw_in (tb_5 (List.mem_of_getElem? (i := 178) rfl)) rfl
theorem ml_J0_637 : Cond.methodLink RJ0 637 yJ1_indexOf_4cfef ∈ bigW := bw_in (tb_5 (List.mem_of_getElem? (i := 179) rfl)) rfl
theorem sm_yJ1_indexOf_4cfef : Cond.static yJ1_indexOf_4cfef ∈ bigW := bw_in (tb_5 (List.mem_of_getElem? (i := 180) rfl)) rfl
theorem cd_yJ1_indexOf_4cfef : Cond.code yJ1_indexOf_4cfef cJ1_indexOf_4cfef 4 (some .int) ∈ bigW := bw_in (tb_5 (List.mem_of_getElem? (i := 181) rfl)) rfl
theorem ml_J1_88 : Cond.methodLink RJ1 88 yJ1_canEncode_9a6ad ∈ bigW := bw_in (tb_5 (List.mem_of_getElem? (i := 182) rfl)) rfl
theorem sm_yJ1_canEncode_9a6ad : Cond.static yJ1_canEncode_9a6ad ∈ bigW := bw_in (tb_5 (List.mem_of_getElem? (i := 183) rfl)) rfl
theorem cd_yJ1_canEncode_9a6ad : Cond.code yJ1_canEncode_9a6ad cJ1_canEncode_9a6ad 1 (some .boolean) ∈ bigW := bw_in (tb_5 (List.mem_of_getElem? (i := 184) rfl)) rfl
theorem ml_J1_92 : Cond.methodLink RJ1 92 yJ9_max_7cf53 ∈ bigW := bw_in (tb_5 (List.mem_of_getElem? (i := 185) rfl)) rfl
theorem ml_J1_38 : Cond.methodLink RJ1 38 yJ9_min_7cf53 ∈ bigW := bw_in (tb_5 (List.mem_of_getElem? (i := 186) rfl)) rfl
theorem ml_J1_95 : Cond.methodLink RJ1 95 yJ1_indexOfChar_4cfef ∈ bigW := bw_in (tb_5 (List.mem_of_getElem? (i := 187) rfl)) rfl
theorem sm_yJ1_indexOfChar_4cfef : Cond.static yJ1_indexOfChar_4cfef ∈ bigW := bw_in (tb_5 (List.mem_of_getElem? (i := 188) rfl)) rfl
theorem cd_yJ1_indexOfChar_4cfef : Cond.code yJ1_indexOfChar_4cfef cJ1_indexOfChar_4cfef 6 (some .int) ∈ bigW := bw_in (tb_5 (List.mem_of_getElem? (i := 189) rfl)) rfl
theorem ml_J0_640 : Cond.methodLink RJ0 640 yJ2_indexOf_4cfef ∈ bigW := bw_in (tb_5 (List.mem_of_getElem? (i := 190) rfl)) rfl
theorem sm_yJ2_indexOf_4cfef : Cond.static yJ2_indexOf_4cfef ∈ bigW := bw_in (tb_5 (List.mem_of_getElem? (i := 191) rfl)) rfl
theorem cd_yJ2_indexOf_4cfef : Cond.code yJ2_indexOf_4cfef cJ2_indexOf_4cfef 4 (some .int) ∈ bigW := bw_in (tb_5 (List.mem_of_getElem? (i := 192) rfl)) rfl
theorem ml_J2_224 : Cond.methodLink RJ2 224 yJ9_max_7cf53 ∈ bigW := bw_in (tb_5 (List.mem_of_getElem? (i := 193) rfl)) rfl
theorem ml_J2_183 : Cond.methodLink RJ2 183 yJ9_min_7cf53 ∈ bigW := bw_in (tb_5 (List.mem_of_getElem? (i := 194) rfl)) rfl
theorem ml_J2_228 : Cond.methodLink RJ2 228 yJ2_indexOfChar_4cfef ∈ bigW := bw_in (tb_5 (List.mem_of_getElem? (i := 196) rfl)) rfl
theorem sm_yJ2_indexOfChar_4cfef : Cond.static yJ2_indexOfChar_4cfef ∈ bigW := bw_in (tb_5 (List.mem_of_getElem? (i := 197) rfl)) rfl
theorem cd_yJ2_indexOfChar_4cfef : Cond.code yJ2_indexOfChar_4cfef cJ2_indexOfChar_4cfef 4 (some .int) ∈ bigW := bw_in (tb_5 (List.mem_of_getElem? (i := 198) rfl)) rfl
theorem ml_J2_244 : Cond.methodLink RJ2 244 yJ2_indexOfCharUnsafe_4cfef ∈ bigW := bw_in (tb_5 (List.mem_of_getElem? (i := 199) rfl)) rfl
theorem sm_yJ2_indexOfCharUnsafe_4cfef : Cond.static yJ2_indexOfCharUnsafe_4cfef ∈ bigW := bw_in (tb_5 (List.mem_of_getElem? (i := 200) rfl)) rfl
theorem cd_yJ2_indexOfCharUnsafe_4cfef : Cond.code yJ2_indexOfCharUnsafe_4cfef cJ2_indexOfCharUnsafe_4cfef 5 (some .int) ∈ bigW := bw_in (tb_5 (List.mem_of_getElem? (i := 201) rfl)) rfl
theorem ml_J2_232 : Cond.methodLink RJ2 232 yJ2_indexOfSupplementary_4cfef ∈ bigW := bw_in (tb_5 (List.mem_of_getElem? (i := 202) rfl)) rfl
theorem sm_yJ2_indexOfSupplementary_4cfef : Cond.static yJ2_indexOfSupplementary_4cfef ∈ bigW := bw_in (tb_5 (List.mem_of_getElem? (i := 203) rfl)) rfl
theorem cd_yJ2_indexOfSupplementary_4cfef : Cond.code yJ2_indexOfSupplementary_4cfef cJ2_indexOfSupplementary_4cfef 7 (some .int) ∈ bigW := bw_in (tb_5 (List.mem_of_getElem? (i := 204) rfl)) rfl
theorem ml_J2_164 : Cond.methodLink RJ2 164 yJ11_isValidCodePoint_9a6ad ∈ bigW := bw_in (tb_5 (List.mem_of_getElem? (i := 205) rfl)) rfl
theorem sm_yJ11_isValidCodePoint_9a6ad : Cond.static yJ11_isValidCodePoint_9a6ad ∈ bigW := bw_in (tb_5 (List.mem_of_getElem? (i := 206) rfl)) rfl
theorem cd_yJ11_isValidCodePoint_9a6ad : Cond.code yJ11_isValidCodePoint_9a6ad cJ11_isValidCodePoint_9a6ad 2 (some .boolean) ∈ bigW := bw_in (tb_5 (List.mem_of_getElem? (i := 207) rfl)) rfl
theorem ml_J2_157 : Cond.methodLink RJ2 157 yJ11_highSurrogate_5068e ∈ bigW := bw_in (tb_5 (List.mem_of_getElem? (i := 208) rfl)) rfl
theorem sm_yJ11_highSurrogate_5068e : Cond.static yJ11_highSurrogate_5068e ∈ bigW := bw_in (tb_5 (List.mem_of_getElem? (i := 209) rfl)) rfl
theorem cd_yJ11_highSurrogate_5068e : Cond.code yJ11_highSurrogate_5068e cJ11_highSurrogate_5068e 1 (some .char) ∈ bigW := bw_in (tb_5 (List.mem_of_getElem? (i := 210) rfl)) rfl
theorem ml_J2_161 : Cond.methodLink RJ2 161 yJ11_lowSurrogate_5068e ∈ bigW := bw_in (tb_5 (List.mem_of_getElem? (i := 212) rfl)) rfl
theorem sm_yJ11_lowSurrogate_5068e : Cond.static yJ11_lowSurrogate_5068e ∈ bigW := bw_in (tb_5 (List.mem_of_getElem? (i := 213) rfl)) rfl
theorem cd_yJ11_lowSurrogate_5068e : Cond.code yJ11_lowSurrogate_5068e cJ11_lowSurrogate_5068e 1 (some .char) ∈ bigW := bw_in (tb_5 (List.mem_of_getElem? (i := 214) rfl)) rfl
theorem ml_X10_103 : Cond.methodLink RX10 103 yX4_firstFault ∈ bigW := bw_in (tb_5 (List.mem_of_getElem? (i := 216) rfl)) rfl
theorem im_yX4_firstFault : Cond.instanceMethod yX4_firstFault ∈ bigW := bw_in (tb_5 (List.mem_of_getElem? (i := 217) rfl)) rfl
theorem se_yX4_firstFault : Cond.selects RX4 yX4_firstFault yX4_firstFault ∈ bigW := bw_in (tb_5 (List.mem_of_getElem? (i := 218) rfl)) rfl
theorem cd_yX4_firstFault : Cond.code yX4_firstFault cX4_firstFault 4 (some .int) ∈ bigW := bw_in (tb_5 (List.mem_of_getElem? (i := 219) rfl)) rfl
theorem ml_X4_32 : Cond.methodLink RX4 32 yX1_clear ∈ bigW := bw_in (tb_5 (List.mem_of_getElem? (i := 220) rfl)) rfl
theorem im_yX1_clear : Cond.instanceMethod yX1_clear ∈ bigW := bw_in (tb_5 (List.mem_of_getElem? (i := 221) rfl)) rfl
theorem se_yX1_clear : Cond.selects RX1 yX1_clear yX1_clear ∈ bigW := bw_in (tb_5 (List.mem_of_getElem? (i := 222) rfl)) rfl
theorem cd_yX1_clear : Cond.code yX1_clear cX1_clear 1 none ∈ bigW := bw_in (tb_5 (List.mem_of_getElem? (i := 223) rfl)) rfl
theorem ml_X4_37 : Cond.methodLink RX4 37 yX8_kindOf ∈ bigW := bw_in (tb_5 (List.mem_of_getElem? (i := 224) rfl)) rfl
theorem im_yX8_kindOf : Cond.instanceMethod yX8_kindOf ∈ bigW := bw_in (tb_5 (List.mem_of_getElem? (i := 225) rfl)) rfl
theorem se_yX8_kindOf : Cond.selects RX8 yX8_kindOf yX8_kindOf ∈ bigW := bw_in (tb_5 (List.mem_of_getElem? (i := 226) rfl)) rfl
theorem cd_yX8_kindOf : Cond.code yX8_kindOf cX8_kindOf 2 (some .int) ∈ bigW := bw_in (tb_5 (List.mem_of_getElem? (i := 227) rfl)) rfl
theorem ml_X4_41 : Cond.methodLink RX4 41 yX4_line ∈ bigW := bw_in (tb_5 (List.mem_of_getElem? (i := 228) rfl)) rfl
theorem im_yX4_line : Cond.instanceMethod yX4_line ∈ bigW := bw_in (tb_5 (List.mem_of_getElem? (i := 230) rfl)) rfl
theorem cd_yX4_line : Cond.code yX4_line cX4_line 1 (some .boolean) ∈ bigW := bw_in (tb_5 (List.mem_of_getElem? (i := 231) rfl)) rfl
theorem ml_X4_45 : Cond.methodLink RX4 45 yX4_take ∈ bigW := bw_in (tb_5 (List.mem_of_getElem? (i := 232) rfl)) rfl
theorem im_yX4_take : Cond.instanceMethod yX4_take ∈ bigW := bw_in (tb_5 (List.mem_of_getElem? (i := 234) rfl)) rfl
theorem cd_yX4_take : Cond.code yX4_take cX4_take 2 (some .boolean) ∈ bigW := bw_in (tb_5 (List.mem_of_getElem? (i := 235) rfl)) rfl
theorem ml_X4_49 : Cond.methodLink RX4 49 yX4_otherNames ∈ bigW := bw_in (tb_5 (List.mem_of_getElem? (i := 236) rfl)) rfl
theorem im_yX4_otherNames : Cond.instanceMethod yX4_otherNames ∈ bigW := bw_in (tb_5 (List.mem_of_getElem? (i := 238) rfl)) rfl
theorem cd_yX4_otherNames : Cond.code yX4_otherNames cX4_otherNames 3 (some .boolean) ∈ bigW := bw_in (tb_5 (List.mem_of_getElem? (i := 239) rfl)) rfl
theorem ml_X4_52 : Cond.methodLink RX4 52 yX4_sumAt ∈ bigW := bw_in (tb_6 (List.mem_of_getElem? (i := 0) rfl)) rfl
theorem im_yX4_sumAt : Cond.instanceMethod yX4_sumAt ∈ bigW := bw_in (tb_6 (List.mem_of_getElem? (i := 2) rfl)) rfl
theorem cd_yX4_sumAt : Cond.code yX4_sumAt cX4_sumAt 7 (some .boolean) ∈ bigW := bw_in (tb_6 (List.mem_of_getElem? (i := 3) rfl)) rfl
theorem ml_X4_65 : Cond.methodLink RX4 65 yX4_valueAt ∈ bigW := bw_in (tb_6 (List.mem_of_getElem? (i := 4) rfl)) rfl
theorem im_yX4_valueAt : Cond.instanceMethod yX4_valueAt ∈ bigW := bw_in (tb_6 (List.mem_of_getElem? (i := 6) rfl)) rfl
theorem cd_yX4_valueAt : Cond.code yX4_valueAt cX4_valueAt 3 (some .boolean) ∈ bigW := bw_in (tb_6 (List.mem_of_getElem? (i := 7) rfl)) rfl
theorem ml_X4_68 : Cond.methodLink RX4 68 yX8_numberOf ∈ bigW := bw_in (tb_6 (List.mem_of_getElem? (i := 8) rfl)) rfl
theorem im_yX8_numberOf : Cond.instanceMethod yX8_numberOf ∈ bigW := bw_in (tb_6 (List.mem_of_getElem? (i := 9) rfl)) rfl
theorem se_yX8_numberOf : Cond.selects RX8 yX8_numberOf yX8_numberOf ∈ bigW := bw_in (tb_6 (List.mem_of_getElem? (i := 10) rfl)) rfl
theorem cd_yX8_numberOf : Cond.code yX8_numberOf cX8_numberOf 2 (some .int) ∈ bigW := bw_in (tb_6 (List.mem_of_getElem? (i := 11) rfl)) rfl
theorem ml_X4_61 : Cond.methodLink RX4 61 yX1_append ∈ bigW := bw_in (tb_6 (List.mem_of_getElem? (i := 12) rfl)) rfl
theorem im_yX1_append : Cond.instanceMethod yX1_append ∈ bigW := bw_in (tb_6 (List.mem_of_getElem? (i := 13) rfl)) rfl
theorem se_yX1_append : Cond.selects RX1 yX1_append yX1_append ∈ bigW := bw_in (tb_6 (List.mem_of_getElem? (i := 14) rfl)) rfl
theorem cd_yX1_append : Cond.code yX1_append cX1_append 3 (some .boolean) ∈ bigW := bw_in (tb_6 (List.mem_of_getElem? (i := 15) rfl)) rfl
theorem ml_X4_55 : Cond.methodLink RX4 55 yX4_testAt ∈ bigW := bw_in (tb_6 (List.mem_of_getElem? (i := 16) rfl)) rfl
theorem im_yX4_testAt : Cond.instanceMethod yX4_testAt ∈ bigW := bw_in (tb_6 (List.mem_of_getElem? (i := 18) rfl)) rfl
theorem cd_yX4_testAt : Cond.code yX4_testAt cX4_testAt 6 (some .boolean) ∈ bigW := bw_in (tb_6 (List.mem_of_getElem? (i := 19) rfl)) rfl
theorem ml_X4_58 : Cond.methodLink RX4 58 yX4_singleAt ∈ bigW := bw_in (tb_6 (List.mem_of_getElem? (i := 20) rfl)) rfl
theorem im_yX4_singleAt : Cond.instanceMethod yX4_singleAt ∈ bigW := bw_in (tb_6 (List.mem_of_getElem? (i := 22) rfl)) rfl
theorem cd_yX4_singleAt : Cond.code yX4_singleAt cX4_singleAt 3 (some .boolean) ∈ bigW := bw_in (tb_6 (List.mem_of_getElem? (i := 23) rfl)) rfl
theorem ml_X10_111 : Cond.methodLink RX10 111 yX7_firstFault ∈ bigW := bw_in (tb_6 (List.mem_of_getElem? (i := 24) rfl)) rfl
theorem im_yX7_firstFault : Cond.instanceMethod yX7_firstFault ∈ bigW := bw_in (tb_6 (List.mem_of_getElem? (i := 25) rfl)) rfl
theorem se_yX7_firstFault : Cond.selects RX7 yX7_firstFault yX7_firstFault ∈ bigW := bw_in (tb_6 (List.mem_of_getElem? (i := 26) rfl)) rfl
theorem cd_yX7_firstFault : Cond.code yX7_firstFault cX7_firstFault 6 (some .int) ∈ bigW := bw_in (tb_6 (List.mem_of_getElem? (i := 27) rfl)) rfl
theorem ml_X7_45 : Cond.methodLink RX7 45 yX9_clear ∈ bigW := bw_in (tb_6 (List.mem_of_getElem? (i := 28) rfl)) rfl
theorem im_yX9_clear : Cond.instanceMethod yX9_clear ∈ bigW := bw_in (tb_6 (List.mem_of_getElem? (i := 29) rfl)) rfl
theorem se_yX9_clear : Cond.selects RX9 yX9_clear yX9_clear ∈ bigW := bw_in (tb_6 (List.mem_of_getElem? (i := 30) rfl)) rfl
theorem cd_yX9_clear : Cond.code yX9_clear cX9_clear 1 none ∈ bigW := bw_in (tb_6 (List.mem_of_getElem? (i := 31) rfl)) rfl
theorem ml_X7_48 : Cond.methodLink RX7 48 yX8_length ∈ bigW := bw_in (tb_6 (List.mem_of_getElem? (i := 32) rfl)) rfl
theorem im_yX8_length : Cond.instanceMethod yX8_length ∈ bigW := bw_in (tb_6 (List.mem_of_getElem? (i := 33) rfl)) rfl
theorem se_yX8_length : Cond.selects RX8 yX8_length yX8_length ∈ bigW := bw_in (tb_6 (List.mem_of_getElem? (i := 34) rfl)) rfl
theorem cd_yX8_length : Cond.code yX8_length cX8_length 1 (some .int) ∈ bigW := bw_in (tb_6 (List.mem_of_getElem? (i := 35) rfl)) rfl
theorem ml_X7_58 : Cond.methodLink RX7 58 yX7_toldAhead ∈ bigW := bw_in (tb_6 (List.mem_of_getElem? (i := 36) rfl)) rfl
theorem im_yX7_toldAhead : Cond.instanceMethod yX7_toldAhead ∈ bigW := bw_in (tb_6 (List.mem_of_getElem? (i := 38) rfl)) rfl
theorem cd_yX7_toldAhead : Cond.code yX7_toldAhead cX7_toldAhead 4 (some .int) ∈ bigW := bw_in (tb_6 (List.mem_of_getElem? (i := 39) rfl)) rfl
theorem ml_X7_118 : Cond.methodLink RX7 118 yX7_placeOf ∈ bigW := bw_in (tb_6 (List.mem_of_getElem? (i := 40) rfl)) rfl
theorem sm_yX7_placeOf : Cond.static yX7_placeOf ∈ bigW := bw_in (tb_6 (List.mem_of_getElem? (i := 41) rfl)) rfl
theorem cd_yX7_placeOf : Cond.code yX7_placeOf cX7_placeOf 5 (some .int) ∈ bigW := bw_in (tb_6 (List.mem_of_getElem? (i := 42) rfl)) rfl
theorem ml_X7_62 : Cond.methodLink RX7 62 yX7_errorOfName ∈ bigW := bw_in (tb_6 (List.mem_of_getElem? (i := 43) rfl)) rfl
theorem im_yX7_errorOfName : Cond.instanceMethod yX7_errorOfName ∈ bigW := bw_in (tb_6 (List.mem_of_getElem? (i := 45) rfl)) rfl
theorem cd_yX7_errorOfName : Cond.code yX7_errorOfName cX7_errorOfName 5 (some .int) ∈ bigW := bw_in (tb_6 (List.mem_of_getElem? (i := 46) rfl)) rfl
theorem ml_X7_125 : Cond.methodLink RX7 125 yX7_errorOfNewName ∈ bigW := bw_in (tb_6 (List.mem_of_getElem? (i := 47) rfl)) rfl
theorem sm_yX7_errorOfNewName : Cond.static yX7_errorOfNewName ∈ bigW := bw_in (tb_6 (List.mem_of_getElem? (i := 48) rfl)) rfl
theorem cd_yX7_errorOfNewName : Cond.code yX7_errorOfNewName cX7_errorOfNewName 5 (some .int) ∈ bigW := bw_in (tb_6 (List.mem_of_getElem? (i := 49) rfl)) rfl
theorem ml_X7_129 : Cond.methodLink RX7 129 yX7_errorOfNewCord ∈ bigW := bw_in (tb_6 (List.mem_of_getElem? (i := 50) rfl)) rfl
theorem im_yX7_errorOfNewCord : Cond.instanceMethod yX7_errorOfNewCord ∈ bigW := bw_in (tb_6 (List.mem_of_getElem? (i := 52) rfl)) rfl
theorem cd_yX7_errorOfNewCord : Cond.code yX7_errorOfNewCord cX7_errorOfNewCord 6 (some .int) ∈ bigW := bw_in (tb_6 (List.mem_of_getElem? (i := 53) rfl)) rfl
theorem ml_X7_135 : Cond.methodLink RX7 135 yX7_errorOfUse ∈ bigW := bw_in (tb_6 (List.mem_of_getElem? (i := 54) rfl)) rfl
theorem im_yX7_errorOfUse : Cond.instanceMethod yX7_errorOfUse ∈ bigW := bw_in (tb_6 (List.mem_of_getElem? (i := 56) rfl)) rfl
theorem cd_yX7_errorOfUse : Cond.code yX7_errorOfUse cX7_errorOfUse 5 (some .int) ∈ bigW := bw_in (tb_6 (List.mem_of_getElem? (i := 57) rfl)) rfl
theorem ml_X7_144 : Cond.methodLink RX7 144 yX7_errorOfHanging ∈ bigW := bw_in (tb_6 (List.mem_of_getElem? (i := 58) rfl)) rfl
theorem im_yX7_errorOfHanging : Cond.instanceMethod yX7_errorOfHanging ∈ bigW := bw_in (tb_6 (List.mem_of_getElem? (i := 60) rfl)) rfl
theorem cd_yX7_errorOfHanging : Cond.code yX7_errorOfHanging cX7_errorOfHanging 4 (some .int) ∈ bigW := bw_in (tb_6 (List.mem_of_getElem? (i := 61) rfl)) rfl
theorem ml_X7_156 : Cond.methodLink RX7 156 yX9_hasCord ∈ bigW := bw_in (tb_6 (List.mem_of_getElem? (i := 62) rfl)) rfl
theorem ml_X7_147 : Cond.methodLink RX7 147 yX7_errorOfTopCord ∈ bigW := bw_in (tb_6 (List.mem_of_getElem? (i := 63) rfl)) rfl
theorem sm_yX7_errorOfTopCord : Cond.static yX7_errorOfTopCord ∈ bigW := bw_in (tb_6 (List.mem_of_getElem? (i := 64) rfl)) rfl
theorem cd_yX7_errorOfTopCord : Cond.code yX7_errorOfTopCord cX7_errorOfTopCord 3 (some .int) ∈ bigW := bw_in (tb_6 (List.mem_of_getElem? (i := 65) rfl)) rfl
theorem ml_X7_160 : Cond.methodLink RX7 160 yX9_isOver ∈ bigW := bw_in (tb_6 (List.mem_of_getElem? (i := 66) rfl)) rfl
theorem ml_X7_66 : Cond.methodLink RX7 66 yX8_numberOf ∈ bigW := bw_in (tb_6 (List.mem_of_getElem? (i := 67) rfl)) rfl
theorem ml_X7_70 : Cond.methodLink RX7 70 yX7_errorOfNumber ∈ bigW := bw_in (tb_6 (List.mem_of_getElem? (i := 68) rfl)) rfl
theorem im_yX7_errorOfNumber : Cond.instanceMethod yX7_errorOfNumber ∈ bigW := bw_in (tb_6 (List.mem_of_getElem? (i := 70) rfl)) rfl
theorem cd_yX7_errorOfNumber : Cond.code yX7_errorOfNumber cX7_errorOfNumber 3 (some .int) ∈ bigW := bw_in (tb_6 (List.mem_of_getElem? (i := 71) rfl)) rfl
theorem ml_X7_74 : Cond.methodLink RX7 74 yX7_endLine ∈ bigW := bw_in (tb_6 (List.mem_of_getElem? (i := 72) rfl)) rfl
theorem im_yX7_endLine : Cond.instanceMethod yX7_endLine ∈ bigW := bw_in (tb_6 (List.mem_of_getElem? (i := 74) rfl)) rfl
theorem cd_yX7_endLine : Cond.code yX7_endLine cX7_endLine 3 none ∈ bigW := bw_in (tb_6 (List.mem_of_getElem? (i := 75) rfl)) rfl
theorem ml_X7_168 : Cond.methodLink RX7 168 yX7_endOrder ∈ bigW := bw_in (tb_6 (List.mem_of_getElem? (i := 76) rfl)) rfl
theorem sm_yX7_endOrder : Cond.static yX7_endOrder ∈ bigW := bw_in (tb_6 (List.mem_of_getElem? (i := 77) rfl)) rfl
theorem cd_yX7_endOrder : Cond.code yX7_endOrder cX7_endOrder 3 none ∈ bigW := bw_in (tb_6 (List.mem_of_getElem? (i := 78) rfl)) rfl
theorem ml_X7_78 : Cond.methodLink RX7 78 yX7_errorOfKeyword ∈ bigW := bw_in (tb_6 (List.mem_of_getElem? (i := 79) rfl)) rfl
theorem im_yX7_errorOfKeyword : Cond.instanceMethod yX7_errorOfKeyword ∈ bigW := bw_in (tb_6 (List.mem_of_getElem? (i := 81) rfl)) rfl
theorem cd_yX7_errorOfKeyword : Cond.code yX7_errorOfKeyword cX7_errorOfKeyword 6 (some .int) ∈ bigW := bw_in (tb_6 (List.mem_of_getElem? (i := 82) rfl)) rfl
theorem ml_X7_86 : Cond.methodLink RX7 86 yX7_tellCode ∈ bigW := bw_in (tb_6 (List.mem_of_getElem? (i := 83) rfl)) rfl
theorem im_yX7_tellCode : Cond.instanceMethod yX7_tellCode ∈ bigW := bw_in (tb_6 (List.mem_of_getElem? (i := 85) rfl)) rfl
theorem cd_yX7_tellCode : Cond.code yX7_tellCode cX7_tellCode 5 none ∈ bigW := bw_in (tb_6 (List.mem_of_getElem? (i := 86) rfl)) rfl
theorem ml_X7_174 : Cond.methodLink RX7 174 yX1_length ∈ bigW := bw_in (tb_6 (List.mem_of_getElem? (i := 87) rfl)) rfl
theorem ml_X10_117 : Cond.methodLink RX10 117 yX8_positionOf ∈ bigW := bw_in (tb_6 (List.mem_of_getElem? (i := 88) rfl)) rfl
theorem im_yX8_positionOf : Cond.instanceMethod yX8_positionOf ∈ bigW := bw_in (tb_6 (List.mem_of_getElem? (i := 89) rfl)) rfl
theorem se_yX8_positionOf : Cond.selects RX8 yX8_positionOf yX8_positionOf ∈ bigW := bw_in (tb_6 (List.mem_of_getElem? (i := 90) rfl)) rfl
theorem cd_yX8_positionOf : Cond.code yX8_positionOf cX8_positionOf 2 (some .int) ∈ bigW := bw_in (tb_6 (List.mem_of_getElem? (i := 91) rfl)) rfl
theorem ml_X10_121 : Cond.methodLink RX10 121 yX5_begin ∈ bigW := bw_in (tb_6 (List.mem_of_getElem? (i := 92) rfl)) rfl
theorem im_yX5_begin : Cond.instanceMethod yX5_begin ∈ bigW := bw_in (tb_6 (List.mem_of_getElem? (i := 93) rfl)) rfl
theorem se_yX5_begin : Cond.selects RX5 yX5_begin yX5_begin ∈ bigW := bw_in (tb_6 (List.mem_of_getElem? (i := 94) rfl)) rfl
theorem cd_yX5_begin : Cond.code yX5_begin cX5_begin 3 none ∈ bigW := bw_in (tb_6 (List.mem_of_getElem? (i := 95) rfl)) rfl
theorem ml_X5_47 : Cond.methodLink RX5 47 yJ7_fill_53178 ∈ bigW := bw_in (tb_6 (List.mem_of_getElem? (i := 96) rfl)) rfl
theorem sm_yJ7_fill_53178 : Cond.static yJ7_fill_53178 ∈ bigW := bw_in (tb_6 (List.mem_of_getElem? (i := 97) rfl)) rfl
theorem cd_yJ7_fill_53178 : Cond.code yJ7_fill_53178 cJ7_fill_53178 4 none ∈ bigW := bw_in (tb_6 (List.mem_of_getElem? (i := 98) rfl)) rfl
theorem ml_L_206 : Cond.methodLink RL 206 yL_canHang ∈ bigW := bw_in (tb_6 (List.mem_of_getElem? (i := 99) rfl)) rfl
theorem sm_yL_canHang : Cond.static yL_canHang ∈ bigW := bw_in (tb_6 (List.mem_of_getElem? (i := 100) rfl)) rfl
theorem cd_yL_canHang : Cond.code yL_canHang cL_canHang 6 (some .boolean) ∈ bigW := bw_in (tb_6 (List.mem_of_getElem? (i := 101) rfl)) rfl
theorem ml_L_223 : Cond.methodLink RL 223 yJ9_max_7cf53 ∈ bigW := bw_in (tb_6 (List.mem_of_getElem? (i := 102) rfl)) rfl
theorem ml_L_219 : Cond.methodLink RL 219 yL_isAll ∈ bigW := bw_in (tb_6 (List.mem_of_getElem? (i := 103) rfl)) rfl
theorem sm_yL_isAll : Cond.static yL_isAll ∈ bigW := bw_in (tb_6 (List.mem_of_getElem? (i := 104) rfl)) rfl
theorem cd_yL_isAll : Cond.code yL_isAll cL_isAll 9 (some .boolean) ∈ bigW := bw_in (tb_6 (List.mem_of_getElem? (i := 105) rfl)) rfl
theorem ml_L_228 : Cond.methodLink RL 228 yX10_order ∈ bigW := bw_in (tb_6 (List.mem_of_getElem? (i := 106) rfl)) rfl
theorem im_yX10_order : Cond.instanceMethod yX10_order ∈ bigW := bw_in (tb_6 (List.mem_of_getElem? (i := 107) rfl)) rfl
theorem se_yX10_order : Cond.selects RX10 yX10_order yX10_order ∈ bigW := bw_in (tb_6 (List.mem_of_getElem? (i := 108) rfl)) rfl
theorem cd_yX10_order : Cond.code yX10_order cX10_order 2 (some .int) ∈ bigW := bw_in (tb_6 (List.mem_of_getElem? (i := 109) rfl)) rfl
theorem ml_X10_183 : Cond.methodLink RX10 183 yX5_cordInPlace ∈ bigW := bw_in (tb_6 (List.mem_of_getElem? (i := 111) rfl)) rfl
theorem im_yX5_cordInPlace : Cond.instanceMethod yX5_cordInPlace ∈ bigW := bw_in (tb_6 (List.mem_of_getElem? (i := 112) rfl)) rfl
theorem se_yX5_cordInPlace : Cond.selects RX5 yX5_cordInPlace yX5_cordInPlace ∈ bigW := bw_in (tb_6 (List.mem_of_getElem? (i := 113) rfl)) rfl
theorem cd_yX5_cordInPlace : Cond.code yX5_cordInPlace cX5_cordInPlace 5 (some .int) ∈ bigW := bw_in (tb_6 (List.mem_of_getElem? (i := 114) rfl)) rfl
theorem ml_X5_93 : Cond.methodLink RX5 93 yX5_standsAhead ∈ bigW := bw_in (tb_6 (List.mem_of_getElem? (i := 115) rfl)) rfl
theorem im_yX5_standsAhead : Cond.instanceMethod yX5_standsAhead ∈ bigW := bw_in (tb_6 (List.mem_of_getElem? (i := 117) rfl)) rfl
theorem cd_yX5_standsAhead : Cond.code yX5_standsAhead cX5_standsAhead 5 (some .boolean) ∈ bigW := bw_in (tb_6 (List.mem_of_getElem? (i := 118) rfl)) rfl
theorem ml_L_231 : Cond.methodLink RL 231 yL_knots ∈ bigW := bw_in (tb_6 (List.mem_of_getElem? (i := 119) rfl)) rfl
theorem sm_yL_knots : Cond.static yL_knots ∈ bigW := bw_in (tb_6 (List.mem_of_getElem? (i := 120) rfl)) rfl
theorem cd_yL_knots : Cond.code yL_knots cL_knots 1 (some .int) ∈ bigW := bw_in (tb_6 (List.mem_of_getElem? (i := 121) rfl)) rfl
theorem ml_L_62 : Cond.methodLink RL 62 yL_places ∈ bigW := bw_in (tb_6 (List.mem_of_getElem? (i := 122) rfl)) rfl
theorem sm_yL_places : Cond.static yL_places ∈ bigW := bw_in (tb_6 (List.mem_of_getElem? (i := 123) rfl)) rfl
theorem cd_yL_places : Cond.code yL_places cL_places 3 (some .int) ∈ bigW := bw_in (tb_6 (List.mem_of_getElem? (i := 124) rfl)) rfl
theorem ml_L_234 : Cond.methodLink RL 234 yL_turns ∈ bigW := bw_in (tb_6 (List.mem_of_getElem? (i := 125) rfl)) rfl
theorem sm_yL_turns : Cond.static yL_turns ∈ bigW := bw_in (tb_6 (List.mem_of_getElem? (i := 126) rfl)) rfl
theorem cd_yL_turns : Cond.code yL_turns cL_turns 1 (some .int) ∈ bigW := bw_in (tb_6 (List.mem_of_getElem? (i := 127) rfl)) rfl
theorem ml_L_237 : Cond.methodLink RL 237 yX10_apart ∈ bigW := bw_in (tb_6 (List.mem_of_getElem? (i := 128) rfl)) rfl
theorem im_yX10_apart : Cond.instanceMethod yX10_apart ∈ bigW := bw_in (tb_6 (List.mem_of_getElem? (i := 129) rfl)) rfl
theorem se_yX10_apart : Cond.selects RX10 yX10_apart yX10_apart ∈ bigW := bw_in (tb_6 (List.mem_of_getElem? (i := 130) rfl)) rfl
theorem cd_yX10_apart : Cond.code yX10_apart cX10_apart 3 (some .int) ∈ bigW := bw_in (tb_6 (List.mem_of_getElem? (i := 131) rfl)) rfl
theorem ml_X10_178 : Cond.methodLink RX10 178 yX5_stepsBetween ∈ bigW := bw_in (tb_6 (List.mem_of_getElem? (i := 132) rfl)) rfl
theorem im_yX5_stepsBetween : Cond.instanceMethod yX5_stepsBetween ∈ bigW := bw_in (tb_6 (List.mem_of_getElem? (i := 133) rfl)) rfl
theorem se_yX5_stepsBetween : Cond.selects RX5 yX5_stepsBetween yX5_stepsBetween ∈ bigW := bw_in (tb_6 (List.mem_of_getElem? (i := 134) rfl)) rfl
theorem cd_yX5_stepsBetween : Cond.code yX5_stepsBetween cX5_stepsBetween 7 (some .int) ∈ bigW := bw_in (tb_6 (List.mem_of_getElem? (i := 135) rfl)) rfl
theorem ml_X5_90 : Cond.methodLink RX5 90 yX5_above ∈ bigW := bw_in (tb_6 (List.mem_of_getElem? (i := 136) rfl)) rfl
theorem im_yX5_above : Cond.instanceMethod yX5_above ∈ bigW := bw_in (tb_6 (List.mem_of_getElem? (i := 138) rfl)) rfl
theorem cd_yX5_above : Cond.code yX5_above cX5_above 2 (some .int) ∈ bigW := bw_in (tb_6 (List.mem_of_getElem? (i := 139) rfl)) rfl
theorem ml_L_240 : Cond.methodLink RL 240 yX10_digit ∈ bigW := bw_in (tb_6 (List.mem_of_getElem? (i := 140) rfl)) rfl
theorem im_yX10_digit : Cond.instanceMethod yX10_digit ∈ bigW := bw_in (tb_6 (List.mem_of_getElem? (i := 141) rfl)) rfl
theorem se_yX10_digit : Cond.selects RX10 yX10_digit yX10_digit ∈ bigW := bw_in (tb_6 (List.mem_of_getElem? (i := 142) rfl)) rfl
theorem cd_yX10_digit : Cond.code yX10_digit cX10_digit 3 (some .int) ∈ bigW := bw_in (tb_6 (List.mem_of_getElem? (i := 143) rfl)) rfl
theorem ml_X10_155 : Cond.methodLink RX10 155 yX3_digitOf ∈ bigW := bw_in (tb_6 (List.mem_of_getElem? (i := 145) rfl)) rfl
theorem sm_yX3_digitOf : Cond.static yX3_digitOf ∈ bigW := bw_in (tb_6 (List.mem_of_getElem? (i := 146) rfl)) rfl
theorem cd_yX3_digitOf : Cond.code yX3_digitOf cX3_digitOf 4 (some .int) ∈ bigW := bw_in (tb_6 (List.mem_of_getElem? (i := 147) rfl)) rfl
theorem ml_L_243 : Cond.methodLink RL 243 yX10_keeper ∈ bigW := bw_in (tb_6 (List.mem_of_getElem? (i := 148) rfl)) rfl
theorem im_yX10_keeper : Cond.instanceMethod yX10_keeper ∈ bigW := bw_in (tb_6 (List.mem_of_getElem? (i := 149) rfl)) rfl
theorem se_yX10_keeper : Cond.selects RX10 yX10_keeper yX10_keeper ∈ bigW := bw_in (tb_6 (List.mem_of_getElem? (i := 150) rfl)) rfl
theorem cd_yX10_keeper : Cond.code yX10_keeper cX10_keeper 3 (some .int) ∈ bigW := bw_in (tb_6 (List.mem_of_getElem? (i := 151) rfl)) rfl
theorem ml_L_246 : Cond.methodLink RL 246 yX10_find ∈ bigW := bw_in (tb_6 (List.mem_of_getElem? (i := 153) rfl)) rfl
theorem im_yX10_find : Cond.instanceMethod yX10_find ∈ bigW := bw_in (tb_6 (List.mem_of_getElem? (i := 154) rfl)) rfl
theorem se_yX10_find : Cond.selects RX10 yX10_find yX10_find ∈ bigW := bw_in (tb_6 (List.mem_of_getElem? (i := 155) rfl)) rfl
theorem cd_yX10_find : Cond.code yX10_find cX10_find 2 (some .int) ∈ bigW := bw_in (tb_6 (List.mem_of_getElem? (i := 156) rfl)) rfl
theorem ml_X10_186 : Cond.methodLink RX10 186 yX5_cordWithSum ∈ bigW := bw_in (tb_6 (List.mem_of_getElem? (i := 157) rfl)) rfl
theorem im_yX5_cordWithSum : Cond.instanceMethod yX5_cordWithSum ∈ bigW := bw_in (tb_6 (List.mem_of_getElem? (i := 158) rfl)) rfl
theorem se_yX5_cordWithSum : Cond.selects RX5 yX5_cordWithSum yX5_cordWithSum ∈ bigW := bw_in (tb_6 (List.mem_of_getElem? (i := 159) rfl)) rfl
theorem cd_yX5_cordWithSum : Cond.code yX5_cordWithSum cX5_cordWithSum 3 (some .int) ∈ bigW := bw_in (tb_6 (List.mem_of_getElem? (i := 160) rfl)) rfl
theorem ml_L_249 : Cond.methodLink RL 249 yX10_colour ∈ bigW := bw_in (tb_6 (List.mem_of_getElem? (i := 161) rfl)) rfl
theorem im_yX10_colour : Cond.instanceMethod yX10_colour ∈ bigW := bw_in (tb_6 (List.mem_of_getElem? (i := 162) rfl)) rfl
theorem se_yX10_colour : Cond.selects RX10 yX10_colour yX10_colour ∈ bigW := bw_in (tb_6 (List.mem_of_getElem? (i := 163) rfl)) rfl
theorem cd_yX10_colour : Cond.code yX10_colour cX10_colour 3 (some .int) ∈ bigW := bw_in (tb_6 (List.mem_of_getElem? (i := 164) rfl)) rfl
theorem se_yX5_knotsOfAll : Cond.selects RX5 yX5_knotsOfAll yX5_knotsOfAll ∈ bigW := bw_in (List.mem_append_left _ (List.mem_map.mpr ⟨((yX5_knotsOfAll, 11) : MethodName × Nat), List.mem_of_getElem? (i := 1) rfl, rfl⟩)) rfl
theorem se_yX5_turnsOfAll : Cond.selects RX5 yX5_turnsOfAll yX5_turnsOfAll ∈ bigW := bw_in (List.mem_append_left _ (List.mem_map.mpr ⟨((yX5_turnsOfAll, 11) : MethodName × Nat), List.mem_of_getElem? (i := 2) rfl, rfl⟩)) rfl
theorem se_yX5_topsOver : Cond.selects RX5 yX5_topsOver yX5_topsOver ∈ bigW := bw_in (List.mem_append_left _ (List.mem_map.mpr ⟨((yX5_topsOver, 11) : MethodName × Nat), List.mem_of_getElem? (i := 3) rfl, rfl⟩)) rfl
theorem se_yX5_addAbove : Cond.selects RX5 yX5_addAbove yX5_addAbove ∈ bigW := bw_in (List.mem_append_left _ (List.mem_map.mpr ⟨((yX5_addAbove, 11) : MethodName × Nat), List.mem_of_getElem? (i := 4) rfl, rfl⟩)) rfl
theorem se_yX0_letOrdersBeCarriedOut : Cond.selects RX0 yX0_letOrdersBeCarriedOut yX0_letOrdersBeCarriedOut ∈ bigW := bw_in (List.mem_append_left _ (List.mem_map.mpr ⟨((yX0_letOrdersBeCarriedOut, 2) : MethodName × Nat), List.mem_of_getElem? (i := 5) rfl, rfl⟩)) rfl
theorem se_yX0_reckoned : Cond.selects RX0 yX0_reckoned yX0_reckoned ∈ bigW := bw_in (List.mem_append_left _ (List.mem_map.mpr ⟨((yX0_reckoned, 2) : MethodName × Nat), List.mem_of_getElem? (i := 6) rfl, rfl⟩)) rfl
theorem se_yX0_push : Cond.selects RX0 yX0_push yX0_push ∈ bigW := bw_in (List.mem_append_left _ (List.mem_map.mpr ⟨((yX0_push, 2) : MethodName × Nat), List.mem_of_getElem? (i := 7) rfl, rfl⟩)) rfl
theorem se_yX0_pop : Cond.selects RX0 yX0_pop yX0_pop ∈ bigW := bw_in (List.mem_append_left _ (List.mem_map.mpr ⟨((yX0_pop, 2) : MethodName × Nat), List.mem_of_getElem? (i := 8) rfl, rfl⟩)) rfl
theorem se_yX5_isTooTired : Cond.selects RX5 yX5_isTooTired yX5_isTooTired ∈ bigW := bw_in (List.mem_append_left _ (List.mem_map.mpr ⟨((yX5_isTooTired, 11) : MethodName × Nat), List.mem_of_getElem? (i := 9) rfl, rfl⟩)) rfl
theorem se_yX5_letMothsEat : Cond.selects RX5 yX5_letMothsEat yX5_letMothsEat ∈ bigW := bw_in (List.mem_append_left _ (List.mem_map.mpr ⟨((yX5_letMothsEat, 11) : MethodName × Nat), List.mem_of_getElem? (i := 10) rfl, rfl⟩)) rfl
theorem se_yX10_wrongBehind : Cond.selects RX10 yX10_wrongBehind yX10_wrongBehind ∈ bigW := bw_in (List.mem_append_left _ (List.mem_map.mpr ⟨((yX10_wrongBehind, 10) : MethodName × Nat), List.mem_of_getElem? (i := 11) rfl, rfl⟩)) rfl
theorem se_yX5_neighbourAhead : Cond.selects RX5 yX5_neighbourAhead yX5_neighbourAhead ∈ bigW := bw_in (List.mem_append_left _ (List.mem_map.mpr ⟨((yX5_neighbourAhead, 11) : MethodName × Nat), List.mem_of_getElem? (i := 12) rfl, rfl⟩)) rfl
theorem se_yX5_rankOf : Cond.selects RX5 yX5_rankOf yX5_rankOf ∈ bigW := bw_in (List.mem_append_left _ (List.mem_map.mpr ⟨((yX5_rankOf, 11) : MethodName × Nat), List.mem_of_getElem? (i := 13) rfl, rfl⟩)) rfl
theorem se_yX8_kindOfNext : Cond.selects RX8 yX8_kindOfNext yX8_kindOfNext ∈ bigW := bw_in (List.mem_append_left _ (List.mem_map.mpr ⟨((yX8_kindOfNext, 7) : MethodName × Nat), List.mem_of_getElem? (i := 14) rfl, rfl⟩)) rfl
theorem se_yX8_kindOfWord : Cond.selects RX8 yX8_kindOfWord yX8_kindOfWord ∈ bigW := bw_in (List.mem_append_left _ (List.mem_map.mpr ⟨((yX8_kindOfWord, 7) : MethodName × Nat), List.mem_of_getElem? (i := 15) rfl, rfl⟩)) rfl
theorem se_yX8_kindOfNumber : Cond.selects RX8 yX8_kindOfNumber yX8_kindOfNumber ∈ bigW := bw_in (List.mem_append_left _ (List.mem_map.mpr ⟨((yX8_kindOfNumber, 7) : MethodName × Nat), List.mem_of_getElem? (i := 16) rfl, rfl⟩)) rfl
theorem se_yX8_kindOfSymbol : Cond.selects RX8 yX8_kindOfSymbol yX8_kindOfSymbol ∈ bigW := bw_in (List.mem_append_left _ (List.mem_map.mpr ⟨((yX8_kindOfSymbol, 7) : MethodName × Nat), List.mem_of_getElem? (i := 17) rfl, rfl⟩)) rfl
theorem se_yX4_line : Cond.selects RX4 yX4_line yX4_line ∈ bigW := bw_in (List.mem_append_left _ (List.mem_map.mpr ⟨((yX4_line, 5) : MethodName × Nat), List.mem_of_getElem? (i := 18) rfl, rfl⟩)) rfl
theorem se_yX4_take : Cond.selects RX4 yX4_take yX4_take ∈ bigW := bw_in (List.mem_append_left _ (List.mem_map.mpr ⟨((yX4_take, 5) : MethodName × Nat), List.mem_of_getElem? (i := 19) rfl, rfl⟩)) rfl
theorem se_yX4_otherNames : Cond.selects RX4 yX4_otherNames yX4_otherNames ∈ bigW := bw_in (List.mem_append_left _ (List.mem_map.mpr ⟨((yX4_otherNames, 5) : MethodName × Nat), List.mem_of_getElem? (i := 20) rfl, rfl⟩)) rfl
theorem se_yX4_sumAt : Cond.selects RX4 yX4_sumAt yX4_sumAt ∈ bigW := bw_in (List.mem_append_left _ (List.mem_map.mpr ⟨((yX4_sumAt, 5) : MethodName × Nat), List.mem_of_getElem? (i := 21) rfl, rfl⟩)) rfl
theorem se_yX4_valueAt : Cond.selects RX4 yX4_valueAt yX4_valueAt ∈ bigW := bw_in (List.mem_append_left _ (List.mem_map.mpr ⟨((yX4_valueAt, 5) : MethodName × Nat), List.mem_of_getElem? (i := 22) rfl, rfl⟩)) rfl
theorem se_yX4_testAt : Cond.selects RX4 yX4_testAt yX4_testAt ∈ bigW := bw_in (List.mem_append_left _ (List.mem_map.mpr ⟨((yX4_testAt, 5) : MethodName × Nat), List.mem_of_getElem? (i := 23) rfl, rfl⟩)) rfl
theorem se_yX4_singleAt : Cond.selects RX4 yX4_singleAt yX4_singleAt ∈ bigW := bw_in (List.mem_append_left _ (List.mem_map.mpr ⟨((yX4_singleAt, 5) : MethodName × Nat), List.mem_of_getElem? (i := 24) rfl, rfl⟩)) rfl
theorem se_yX7_toldAhead : Cond.selects RX7 yX7_toldAhead yX7_toldAhead ∈ bigW := bw_in (List.mem_append_left _ (List.mem_map.mpr ⟨((yX7_toldAhead, 9) : MethodName × Nat), List.mem_of_getElem? (i := 25) rfl, rfl⟩)) rfl
theorem se_yX7_errorOfName : Cond.selects RX7 yX7_errorOfName yX7_errorOfName ∈ bigW := bw_in (List.mem_append_left _ (List.mem_map.mpr ⟨((yX7_errorOfName, 9) : MethodName × Nat), List.mem_of_getElem? (i := 26) rfl, rfl⟩)) rfl
theorem se_yX7_errorOfNewCord : Cond.selects RX7 yX7_errorOfNewCord yX7_errorOfNewCord ∈ bigW := bw_in (List.mem_append_left _ (List.mem_map.mpr ⟨((yX7_errorOfNewCord, 9) : MethodName × Nat), List.mem_of_getElem? (i := 27) rfl, rfl⟩)) rfl
theorem se_yX7_errorOfUse : Cond.selects RX7 yX7_errorOfUse yX7_errorOfUse ∈ bigW := bw_in (List.mem_append_left _ (List.mem_map.mpr ⟨((yX7_errorOfUse, 9) : MethodName × Nat), List.mem_of_getElem? (i := 28) rfl, rfl⟩)) rfl
theorem se_yX7_errorOfHanging : Cond.selects RX7 yX7_errorOfHanging yX7_errorOfHanging ∈ bigW := bw_in (List.mem_append_left _ (List.mem_map.mpr ⟨((yX7_errorOfHanging, 9) : MethodName × Nat), List.mem_of_getElem? (i := 29) rfl, rfl⟩)) rfl
theorem se_yX7_errorOfNumber : Cond.selects RX7 yX7_errorOfNumber yX7_errorOfNumber ∈ bigW := bw_in (List.mem_append_left _ (List.mem_map.mpr ⟨((yX7_errorOfNumber, 9) : MethodName × Nat), List.mem_of_getElem? (i := 30) rfl, rfl⟩)) rfl
theorem se_yX7_endLine : Cond.selects RX7 yX7_endLine yX7_endLine ∈ bigW := bw_in (List.mem_append_left _ (List.mem_map.mpr ⟨((yX7_endLine, 9) : MethodName × Nat), List.mem_of_getElem? (i := 31) rfl, rfl⟩)) rfl
theorem se_yX7_errorOfKeyword : Cond.selects RX7 yX7_errorOfKeyword yX7_errorOfKeyword ∈ bigW := bw_in (List.mem_append_left _ (List.mem_map.mpr ⟨((yX7_errorOfKeyword, 9) : MethodName × Nat), List.mem_of_getElem? (i := 32) rfl, rfl⟩)) rfl
theorem se_yX7_tellCode : Cond.selects RX7 yX7_tellCode yX7_tellCode ∈ bigW := bw_in (List.mem_append_left _ (List.mem_map.mpr ⟨((yX7_tellCode, 9) : MethodName × Nat), List.mem_of_getElem? (i := 33) rfl, rfl⟩)) rfl
theorem se_yX5_standsAhead : Cond.selects RX5 yX5_standsAhead yX5_standsAhead ∈ bigW := bw_in (List.mem_append_left _ (List.mem_map.mpr ⟨((yX5_standsAhead, 11) : MethodName × Nat), List.mem_of_getElem? (i := 34) rfl, rfl⟩)) rfl
theorem se_yX5_above : Cond.selects RX5 yX5_above yX5_above ∈ bigW := bw_in (List.mem_append_left _ (List.mem_map.mpr ⟨((yX5_above, 11) : MethodName × Nat), List.mem_of_getElem? (i := 35) rfl, rfl⟩)) rfl
