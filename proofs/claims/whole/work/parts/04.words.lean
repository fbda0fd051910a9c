abbrev lw_all : List Cond := lw_tbl.filter goodWord
theorem lw_mem {w : Cond} {i : Nat} (h : lw_tbl[i]? = some w) (g : goodWord w = true) : w ∈ lw_all := List.mem_filter.mpr ⟨List.mem_of_getElem? h, g⟩
theorem qs0 : Cond.selects RX2 yX2_inWayOfCell yX2_inWayOfCell ∈ lw_all := lw_mem (i := 0) (by decide +kernel) rfl
theorem qs1 : Cond.selects RX2 yX2_isPart yX2_isPart ∈ lw_all := lw_mem (i := 1) (by decide +kernel) rfl
theorem qs2 : Cond.selects RX2 yX2_isForPart yX2_isForPart ∈ lw_all := lw_mem (i := 2) (by decide +kernel) rfl
theorem qs3 : Cond.selects RX2 yX2_partLookedAt yX2_partLookedAt ∈ lw_all := lw_mem (i := 3) (by decide +kernel) rfl
theorem qs4 : Cond.selects RX2 yX2_takeParts yX2_takeParts ∈ lw_all := lw_mem (i := 4) (by decide +kernel) rfl
theorem qs5 : Cond.selects RX2 yX2_moveByDigit yX2_moveByDigit ∈ lw_all := lw_mem (i := 5) (by decide +kernel) rfl
theorem qs6 : Cond.selects RX2 yX2_countColumns yX2_countColumns ∈ lw_all := lw_mem (i := 6) (by decide +kernel) rfl
theorem qs7 : Cond.selects RX2 yX2_countCells yX2_countCells ∈ lw_all := lw_mem (i := 7) (by decide +kernel) rfl
theorem qs8 : Cond.selects RX2 yX2_countHeld yX2_countHeld ∈ lw_all := lw_mem (i := 8) (by decide +kernel) rfl
theorem qs11 : Cond.selects RX3 yX3_isNone yX3_isNone ∈ lw_all := lw_mem (i := 11) (by decide +kernel) rfl
theorem qs12 : Cond.selects RX3 yX3_way yX3_way ∈ lw_all := lw_mem (i := 12) (by decide +kernel) rfl
theorem qs13 : Cond.selects RX3 yX3_has yX3_has ∈ lw_all := lw_mem (i := 13) (by decide +kernel) rfl
theorem qs14 : Cond.selects RX3 yX3_telling yX3_telling ∈ lw_all := lw_mem (i := 14) (by decide +kernel) rfl
theorem qs15 : Cond.selects RX3 yX3_canBe yX3_canBe ∈ lw_all := lw_mem (i := 15) (by decide +kernel) rfl
theorem qs16 : Cond.selects RX3 yX3_takes yX3_takes ∈ lw_all := lw_mem (i := 16) (by decide +kernel) rfl
theorem qs17 : Cond.selects RX3 yX3_wayTo yX3_wayTo ∈ lw_all := lw_mem (i := 17) (by decide +kernel) rfl
theorem qs18 : Cond.selects RX3 yX3_take yX3_take ∈ lw_all := lw_mem (i := 18) (by decide +kernel) rfl
theorem q0 : Cond.initialized RL ∈ lw_all := lw_mem (i := 19) (by decide +kernel) rfl
theorem q1 : Cond.initialized RX2 ∈ lw_all := lw_mem (i := 20) (by decide +kernel) rfl
theorem q2 : Cond.initialized RX0 ∈ lw_all := lw_mem (i := 21) (by decide +kernel) rfl
theorem q3 : Cond.initialized RX1 ∈ lw_all := lw_mem (i := 22) (by decide +kernel) rfl
theorem q4 : Cond.initialized RX3 ∈ lw_all := lw_mem (i := 23) (by decide +kernel) rfl
theorem q5 : Cond.initialized RJ7 ∈ lw_all := lw_mem (i := 24) (by decide +kernel) rfl
theorem q6 : Cond.initialized "java/lang/Throwable" ∈ lw_all := lw_mem (i := 25) (by decide +kernel) rfl
theorem q7 : Cond.initialized "java/lang/Exception" ∈ lw_all := lw_mem (i := 26) (by decide +kernel) rfl
theorem q8 : Cond.initialized "java/lang/RuntimeException" ∈ lw_all := lw_mem (i := 27) (by decide +kernel) rfl
theorem q9 : Cond.initialized RJx5d777 ∈ lw_all := lw_mem (i := 28) (by decide +kernel) rfl
theorem q10 : Cond.initialized "java/lang/IndexOutOfBoundsException" ∈ lw_all := lw_mem (i := 29) (by decide +kernel) rfl
theorem q11 : Cond.initialized RJx00060 ∈ lw_all := lw_mem (i := 30) (by decide +kernel) rfl
theorem q12 : Cond.initialized RJ0 ∈ lw_all := lw_mem (i := 31) (by decide +kernel) rfl
theorem q13 : Cond.initialized RJ10 ∈ lw_all := lw_mem (i := 32) (by decide +kernel) rfl
theorem q14 : Cond.classLink RL 8 RX2 ∈ lw_all := lw_mem (i := 33) (by decide +kernel) rfl
theorem q15 : Cond.instantiable RX2 5 ∈ lw_all := lw_mem (i := 34) (by decide +kernel) rfl
theorem q16 : Cond.methodLink RL 17 yX2_init ∈ lw_all := lw_mem (i := 35) (by decide +kernel) rfl
theorem q17 : Cond.instanceMethod yX2_init ∈ lw_all := lw_mem (i := 36) (by decide +kernel) rfl
theorem q18 : Cond.code yX2_init cX2_init 2 none ∈ lw_all := lw_mem (i := 37) (by decide +kernel) rfl
theorem q19 : Cond.methodLink RX2 3 objectInit ∈ lw_all := lw_mem (i := 38) (by decide +kernel) rfl
theorem q20 : Cond.instanceMethod objectInit ∈ lw_all := lw_mem (i := 39) (by decide +kernel) rfl
theorem q21 : Cond.code objectInit object_method_1_code 1 none ∈ lw_all := lw_mem (i := 40) (by decide +kernel) rfl
theorem q22 : Cond.classLink RX2 9 RX0 ∈ lw_all := lw_mem (i := 41) (by decide +kernel) rfl
theorem q24 : Cond.classLink RX2 18 RX1 ∈ lw_all := lw_mem (i := 43) (by decide +kernel) rfl
theorem q26 : Cond.instantiable RX0 4 ∈ lw_all := lw_mem (i := 45) (by decide +kernel) rfl
theorem q28 : Cond.instanceMethod yX0_init ∈ lw_all := lw_mem (i := 47) (by decide +kernel) rfl
theorem q29 : Cond.code yX0_init cX0_init 1 none ∈ lw_all := lw_mem (i := 48) (by decide +kernel) rfl
theorem q30 : Cond.methodLink RX0 3 objectInit ∈ lw_all := lw_mem (i := 49) (by decide +kernel) rfl
theorem q31 : Cond.fieldLink RX0 9 "MappingMoves$Column" "kind" "I" ∈ lw_all := lw_mem (i := 50) (by decide +kernel) rfl
theorem q33 : Cond.fieldLink RX0 15 "MappingMoves$Column" "cells" "I" ∈ lw_all := lw_mem (i := 52) (by decide +kernel) rfl
theorem q35 : Cond.fieldLink RX0 18 "MappingMoves$Column" "wholes" "[J" ∈ lw_all := lw_mem (i := 54) (by decide +kernel) rfl
theorem q36 : Cond.fieldLink RX0 22 "MappingMoves$Column" "reals" "[D" ∈ lw_all := lw_mem (i := 55) (by decide +kernel) rfl
theorem q37 : Cond.lays RX0 "MappingMoves$Column" "kind" "I" ∈ lw_all := lw_mem (i := 56) (by decide +kernel) rfl
theorem q39 : Cond.lays RX0 "MappingMoves$Column" "cells" "I" ∈ lw_all := lw_mem (i := 58) (by decide +kernel) rfl
theorem q41 : Cond.laysFinal RX0 "MappingMoves$Column" "wholes" "[J" ∈ lw_all := lw_mem (i := 60) (by decide +kernel) rfl
theorem q43 : Cond.laysFinal RX0 "MappingMoves$Column" "reals" "[D" ∈ lw_all := lw_mem (i := 62) (by decide +kernel) rfl
theorem q46 : Cond.arrayClass .long ∈ lw_all := lw_mem (i := 65) (by decide +kernel) rfl
theorem q47 : Cond.arrayClass .double ∈ lw_all := lw_mem (i := 66) (by decide +kernel) rfl
theorem q48 : Cond.instantiable RX1 4 ∈ lw_all := lw_mem (i := 67) (by decide +kernel) rfl
theorem q50 : Cond.instanceMethod yX1_init ∈ lw_all := lw_mem (i := 69) (by decide +kernel) rfl
theorem q51 : Cond.code yX1_init cX1_init 1 none ∈ lw_all := lw_mem (i := 70) (by decide +kernel) rfl
theorem q52 : Cond.methodLink RX1 3 objectInit ∈ lw_all := lw_mem (i := 71) (by decide +kernel) rfl
theorem q53 : Cond.fieldLink RX1 9 "MappingMoves$Part" "sort" "I" ∈ lw_all := lw_mem (i := 72) (by decide +kernel) rfl
theorem q55 : Cond.fieldLink RX1 15 "MappingMoves$Part" "weight" "I" ∈ lw_all := lw_mem (i := 74) (by decide +kernel) rfl
theorem q56 : Cond.fieldLink RX1 18 "MappingMoves$Part" "laid" "I" ∈ lw_all := lw_mem (i := 75) (by decide +kernel) rfl
theorem q58 : Cond.fieldLink RX1 21 "MappingMoves$Part" "code" "I" ∈ lw_all := lw_mem (i := 77) (by decide +kernel) rfl
theorem q60 : Cond.lays RX1 "MappingMoves$Part" "sort" "I" ∈ lw_all := lw_mem (i := 79) (by decide +kernel) rfl
theorem q62 : Cond.lays RX1 "MappingMoves$Part" "weight" "I" ∈ lw_all := lw_mem (i := 81) (by decide +kernel) rfl
theorem q64 : Cond.lays RX1 "MappingMoves$Part" "laid" "I" ∈ lw_all := lw_mem (i := 83) (by decide +kernel) rfl
theorem q66 : Cond.lays RX1 "MappingMoves$Part" "code" "I" ∈ lw_all := lw_mem (i := 85) (by decide +kernel) rfl
theorem q69 : Cond.fieldLink RX2 11 "MappingMoves" "columns" "[LMappingMoves$Column;" ∈ lw_all := lw_mem (i := 88) (by decide +kernel) rfl
theorem q70 : Cond.fieldLink RX2 15 "MappingMoves" "aside" "[LMappingMoves$Column;" ∈ lw_all := lw_mem (i := 89) (by decide +kernel) rfl
theorem q71 : Cond.fieldLink RX2 20 "MappingMoves" "parts" "[LMappingMoves$Part;" ∈ lw_all := lw_mem (i := 90) (by decide +kernel) rfl
theorem q72 : Cond.fieldLink RX2 24 "MappingMoves" "partCount" "I" ∈ lw_all := lw_mem (i := 91) (by decide +kernel) rfl
theorem q73 : Cond.fieldLink RX2 28 "MappingMoves" "latestCopied" "I" ∈ lw_all := lw_mem (i := 92) (by decide +kernel) rfl
theorem q74 : Cond.laysFinal RX2 "MappingMoves" "columns" "[LMappingMoves$Column;" ∈ lw_all := lw_mem (i := 93) (by decide +kernel) rfl
theorem q76 : Cond.laysFinal RX2 "MappingMoves" "aside" "[LMappingMoves$Column;" ∈ lw_all := lw_mem (i := 95) (by decide +kernel) rfl
theorem q78 : Cond.laysFinal RX2 "MappingMoves" "parts" "[LMappingMoves$Part;" ∈ lw_all := lw_mem (i := 97) (by decide +kernel) rfl
theorem q80 : Cond.lays RX2 "MappingMoves" "partCount" "I" ∈ lw_all := lw_mem (i := 99) (by decide +kernel) rfl
theorem q82 : Cond.lays RX2 "MappingMoves" "latestCopied" "I" ∈ lw_all := lw_mem (i := 101) (by decide +kernel) rfl
theorem q85 : Cond.methodLink RL 21 yX2_make ∈ lw_all := lw_mem (i := 104) (by decide +kernel) rfl
theorem q86 : Cond.instanceMethod yX2_make ∈ lw_all := lw_mem (i := 105) (by decide +kernel) rfl
theorem q87 : Cond.selects RX2 yX2_make yX2_make ∈ lw_all := lw_mem (i := 106) (by decide +kernel) rfl
theorem q88 : Cond.code yX2_make cX2_make 4 (some .int) ∈ lw_all := lw_mem (i := 107) (by decide +kernel) rfl
theorem q89 : Cond.methodLink RX2 33 yX2_isPlace ∈ lw_all := lw_mem (i := 108) (by decide +kernel) rfl
theorem q90 : Cond.static yX2_isPlace ∈ lw_all := lw_mem (i := 109) (by decide +kernel) rfl
theorem q91 : Cond.code yX2_isPlace cX2_isPlace 1 (some .boolean) ∈ lw_all := lw_mem (i := 110) (by decide +kernel) rfl
theorem q92 : Cond.methodLink RX2 37 yX0_begin ∈ lw_all := lw_mem (i := 111) (by decide +kernel) rfl
theorem q93 : Cond.instanceMethod yX0_begin ∈ lw_all := lw_mem (i := 112) (by decide +kernel) rfl
theorem q94 : Cond.selects RX0 yX0_begin yX0_begin ∈ lw_all := lw_mem (i := 113) (by decide +kernel) rfl
theorem q95 : Cond.code yX0_begin cX0_begin 3 none ∈ lw_all := lw_mem (i := 114) (by decide +kernel) rfl
theorem q96 : Cond.methodLink RX0 30 yX0_isShelf ∈ lw_all := lw_mem (i := 115) (by decide +kernel) rfl
theorem q97 : Cond.instanceMethod yX0_isShelf ∈ lw_all := lw_mem (i := 116) (by decide +kernel) rfl
theorem q98 : Cond.selects RX0 yX0_isShelf yX0_isShelf ∈ lw_all := lw_mem (i := 117) (by decide +kernel) rfl
theorem q99 : Cond.code yX0_isShelf cX0_isShelf 1 (some .boolean) ∈ lw_all := lw_mem (i := 118) (by decide +kernel) rfl
theorem q100 : Cond.constantLong RX0 34 (-1) ∈ lw_all := lw_mem (i := 119) (by decide +kernel) rfl
theorem q101 : Cond.methodLink RX0 36 yJ7_fill_d0a16 ∈ lw_all := lw_mem (i := 120) (by decide +kernel) rfl
theorem q102 : Cond.static yJ7_fill_d0a16 ∈ lw_all := lw_mem (i := 121) (by decide +kernel) rfl
theorem q103 : Cond.code yJ7_fill_d0a16 cJ7_fill_d0a16 5 none ∈ lw_all := lw_mem (i := 122) (by decide +kernel) rfl
theorem q104 : Cond.methodLink RX0 42 yJ7_fill_7f8df ∈ lw_all := lw_mem (i := 123) (by decide +kernel) rfl
theorem q105 : Cond.static yJ7_fill_7f8df ∈ lw_all := lw_mem (i := 124) (by decide +kernel) rfl
theorem q106 : Cond.code yJ7_fill_7f8df cJ7_fill_7f8df 5 none ∈ lw_all := lw_mem (i := 125) (by decide +kernel) rfl
theorem q107 : Cond.methodLink RL 26 yX2_let ∈ lw_all := lw_mem (i := 126) (by decide +kernel) rfl
theorem q108 : Cond.instanceMethod yX2_let ∈ lw_all := lw_mem (i := 127) (by decide +kernel) rfl
theorem q109 : Cond.selects RX2 yX2_let yX2_let ∈ lw_all := lw_mem (i := 128) (by decide +kernel) rfl
theorem q110 : Cond.code yX2_let cX2_let 4 (some .int) ∈ lw_all := lw_mem (i := 129) (by decide +kernel) rfl
theorem q111 : Cond.methodLink RX2 41 yX0_isGone ∈ lw_all := lw_mem (i := 130) (by decide +kernel) rfl
theorem q112 : Cond.instanceMethod yX0_isGone ∈ lw_all := lw_mem (i := 131) (by decide +kernel) rfl
theorem q113 : Cond.selects RX0 yX0_isGone yX0_isGone ∈ lw_all := lw_mem (i := 132) (by decide +kernel) rfl
theorem q114 : Cond.code yX0_isGone cX0_isGone 1 (some .boolean) ∈ lw_all := lw_mem (i := 133) (by decide +kernel) rfl
theorem q115 : Cond.methodLink RX2 48 yX0_letGo ∈ lw_all := lw_mem (i := 134) (by decide +kernel) rfl
theorem q116 : Cond.instanceMethod yX0_letGo ∈ lw_all := lw_mem (i := 135) (by decide +kernel) rfl
theorem q117 : Cond.selects RX0 yX0_letGo yX0_letGo ∈ lw_all := lw_mem (i := 136) (by decide +kernel) rfl
theorem q118 : Cond.code yX0_letGo cX0_letGo 1 none ∈ lw_all := lw_mem (i := 137) (by decide +kernel) rfl
theorem q119 : Cond.methodLink RL 31 yX2_drop ∈ lw_all := lw_mem (i := 138) (by decide +kernel) rfl
theorem q120 : Cond.instanceMethod yX2_drop ∈ lw_all := lw_mem (i := 139) (by decide +kernel) rfl
theorem q121 : Cond.selects RX2 yX2_drop yX2_drop ∈ lw_all := lw_mem (i := 140) (by decide +kernel) rfl
theorem q122 : Cond.code yX2_drop cX2_drop 3 (some .int) ∈ lw_all := lw_mem (i := 141) (by decide +kernel) rfl
theorem q123 : Cond.methodLink RX2 51 yX0_isNone ∈ lw_all := lw_mem (i := 142) (by decide +kernel) rfl
theorem q124 : Cond.instanceMethod yX0_isNone ∈ lw_all := lw_mem (i := 143) (by decide +kernel) rfl
theorem q125 : Cond.selects RX0 yX0_isNone yX0_isNone ∈ lw_all := lw_mem (i := 144) (by decide +kernel) rfl
theorem q126 : Cond.code yX0_isNone cX0_isNone 1 (some .boolean) ∈ lw_all := lw_mem (i := 145) (by decide +kernel) rfl
theorem q127 : Cond.methodLink RX2 54 yX0_end ∈ lw_all := lw_mem (i := 146) (by decide +kernel) rfl
theorem q128 : Cond.instanceMethod yX0_end ∈ lw_all := lw_mem (i := 147) (by decide +kernel) rfl
theorem q129 : Cond.selects RX0 yX0_end yX0_end ∈ lw_all := lw_mem (i := 148) (by decide +kernel) rfl
theorem q130 : Cond.code yX0_end cX0_end 1 none ∈ lw_all := lw_mem (i := 149) (by decide +kernel) rfl
theorem q131 : Cond.methodLink RL 35 yX2_kind ∈ lw_all := lw_mem (i := 150) (by decide +kernel) rfl
theorem q132 : Cond.instanceMethod yX2_kind ∈ lw_all := lw_mem (i := 151) (by decide +kernel) rfl
theorem q133 : Cond.selects RX2 yX2_kind yX2_kind ∈ lw_all := lw_mem (i := 152) (by decide +kernel) rfl
theorem q134 : Cond.code yX2_kind cX2_kind 3 (some .int) ∈ lw_all := lw_mem (i := 153) (by decide +kernel) rfl
theorem q135 : Cond.methodLink RL 39 yX2_length ∈ lw_all := lw_mem (i := 154) (by decide +kernel) rfl
theorem q136 : Cond.instanceMethod yX2_length ∈ lw_all := lw_mem (i := 155) (by decide +kernel) rfl
theorem q137 : Cond.selects RX2 yX2_length yX2_length ∈ lw_all := lw_mem (i := 156) (by decide +kernel) rfl
theorem q138 : Cond.code yX2_length cX2_length 3 (some .int) ∈ lw_all := lw_mem (i := 157) (by decide +kernel) rfl
theorem q139 : Cond.methodLink RL 45 yX2_put ∈ lw_all := lw_mem (i := 158) (by decide +kernel) rfl
theorem q140 : Cond.instanceMethod yX2_put ∈ lw_all := lw_mem (i := 159) (by decide +kernel) rfl
theorem q141 : Cond.selects RX2 yX2_put yX2_put ∈ lw_all := lw_mem (i := 160) (by decide +kernel) rfl
theorem q142 : Cond.code yX2_put cX2_put 6 (some .int) ∈ lw_all := lw_mem (i := 161) (by decide +kernel) rfl
theorem q143 : Cond.methodLink RX2 60 yX2_inWayOfCell ∈ lw_all := lw_mem (i := 162) (by decide +kernel) rfl
theorem q145 : Cond.instanceMethod yX2_inWayOfCell ∈ lw_all := lw_mem (i := 164) (by decide +kernel) rfl
theorem q146 : Cond.code yX2_inWayOfCell cX2_inWayOfCell 5 (some .int) ∈ lw_all := lw_mem (i := 165) (by decide +kernel) rfl
theorem q147 : Cond.methodLink RX2 77 yX0_isShelf ∈ lw_all := lw_mem (i := 166) (by decide +kernel) rfl
theorem q148 : Cond.methodLink RX2 74 yX0_hasCell ∈ lw_all := lw_mem (i := 167) (by decide +kernel) rfl
theorem q149 : Cond.instanceMethod yX0_hasCell ∈ lw_all := lw_mem (i := 168) (by decide +kernel) rfl
theorem q150 : Cond.selects RX0 yX0_hasCell yX0_hasCell ∈ lw_all := lw_mem (i := 169) (by decide +kernel) rfl
theorem q151 : Cond.code yX0_hasCell cX0_hasCell 2 (some .boolean) ∈ lw_all := lw_mem (i := 170) (by decide +kernel) rfl
theorem q152 : Cond.methodLink RX2 64 yX0_setNumber ∈ lw_all := lw_mem (i := 171) (by decide +kernel) rfl
theorem q153 : Cond.instanceMethod yX0_setNumber ∈ lw_all := lw_mem (i := 172) (by decide +kernel) rfl
theorem q154 : Cond.selects RX0 yX0_setNumber yX0_setNumber ∈ lw_all := lw_mem (i := 173) (by decide +kernel) rfl
theorem q155 : Cond.code yX0_setNumber cX0_setNumber 4 none ∈ lw_all := lw_mem (i := 174) (by decide +kernel) rfl
theorem q156 : Cond.constantFloat RX0 45 (1090519040) ∈ lw_all := lw_mem (i := 175) (by decide +kernel) rfl
theorem q157 : Cond.constantDouble RX0 46 (4620693217682128896) ∈ lw_all := lw_mem (i := 176) (by decide +kernel) rfl
theorem q158 : Cond.methodLink RX0 48 yX0_lowestBits ∈ lw_all := lw_mem (i := 177) (by decide +kernel) rfl
theorem q159 : Cond.static yX0_lowestBits ∈ lw_all := lw_mem (i := 178) (by decide +kernel) rfl
theorem q160 : Cond.code yX0_lowestBits cX0_lowestBits 3 (some .long) ∈ lw_all := lw_mem (i := 179) (by decide +kernel) rfl
theorem q161 : Cond.methodLink RL 60 yX2_sum ∈ lw_all := lw_mem (i := 180) (by decide +kernel) rfl
theorem q162 : Cond.instanceMethod yX2_sum ∈ lw_all := lw_mem (i := 181) (by decide +kernel) rfl
theorem q163 : Cond.selects RX2 yX2_sum yX2_sum ∈ lw_all := lw_mem (i := 182) (by decide +kernel) rfl
theorem q164 : Cond.code yX2_sum cX2_sum 4 (some .int) ∈ lw_all := lw_mem (i := 183) (by decide +kernel) rfl
theorem q165 : Cond.methodLink RX2 88 yX2_isKindOfNumbers ∈ lw_all := lw_mem (i := 184) (by decide +kernel) rfl
theorem q166 : Cond.static yX2_isKindOfNumbers ∈ lw_all := lw_mem (i := 185) (by decide +kernel) rfl
theorem q167 : Cond.code yX2_isKindOfNumbers cX2_isKindOfNumbers 1 (some .boolean) ∈ lw_all := lw_mem (i := 186) (by decide +kernel) rfl
theorem q168 : Cond.methodLink RX2 91 yX0_total ∈ lw_all := lw_mem (i := 187) (by decide +kernel) rfl
theorem q169 : Cond.instanceMethod yX0_total ∈ lw_all := lw_mem (i := 188) (by decide +kernel) rfl
theorem q170 : Cond.selects RX0 yX0_total yX0_total ∈ lw_all := lw_mem (i := 189) (by decide +kernel) rfl
theorem q171 : Cond.code yX0_total cX0_total 3 (some .int) ∈ lw_all := lw_mem (i := 190) (by decide +kernel) rfl
theorem q172 : Cond.methodLink RX0 55 yX0_tells ∈ lw_all := lw_mem (i := 191) (by decide +kernel) rfl
theorem q173 : Cond.instanceMethod yX0_tells ∈ lw_all := lw_mem (i := 192) (by decide +kernel) rfl
theorem q174 : Cond.selects RX0 yX0_tells yX0_tells ∈ lw_all := lw_mem (i := 193) (by decide +kernel) rfl
theorem q175 : Cond.code yX0_tells cX0_tells 2 (some .long) ∈ lw_all := lw_mem (i := 194) (by decide +kernel) rfl
theorem q176 : Cond.methodLink RX0 52 yX0_isOfReals ∈ lw_all := lw_mem (i := 195) (by decide +kernel) rfl
theorem q177 : Cond.instanceMethod yX0_isOfReals ∈ lw_all := lw_mem (i := 196) (by decide +kernel) rfl
theorem q178 : Cond.selects RX0 yX0_isOfReals yX0_isOfReals ∈ lw_all := lw_mem (i := 197) (by decide +kernel) rfl
theorem q179 : Cond.code yX0_isOfReals cX0_isOfReals 1 (some .boolean) ∈ lw_all := lw_mem (i := 198) (by decide +kernel) rfl
theorem q180 : Cond.methodLink RX0 26 yX0_areReals ∈ lw_all := lw_mem (i := 199) (by decide +kernel) rfl
theorem q181 : Cond.static yX0_areReals ∈ lw_all := lw_mem (i := 200) (by decide +kernel) rfl
theorem q182 : Cond.code yX0_areReals cX0_areReals 1 (some .boolean) ∈ lw_all := lw_mem (i := 201) (by decide +kernel) rfl
theorem q183 : Cond.methodLink RL 65 yX2_turn ∈ lw_all := lw_mem (i := 202) (by decide +kernel) rfl
theorem q184 : Cond.instanceMethod yX2_turn ∈ lw_all := lw_mem (i := 203) (by decide +kernel) rfl
theorem q185 : Cond.selects RX2 yX2_turn yX2_turn ∈ lw_all := lw_mem (i := 204) (by decide +kernel) rfl
theorem q186 : Cond.code yX2_turn cX2_turn 5 (some .int) ∈ lw_all := lw_mem (i := 205) (by decide +kernel) rfl
theorem q187 : Cond.methodLink RX2 95 yX0_firstNotIn ∈ lw_all := lw_mem (i := 206) (by decide +kernel) rfl
theorem q188 : Cond.instanceMethod yX0_firstNotIn ∈ lw_all := lw_mem (i := 207) (by decide +kernel) rfl
theorem q189 : Cond.selects RX0 yX0_firstNotIn yX0_firstNotIn ∈ lw_all := lw_mem (i := 208) (by decide +kernel) rfl
theorem q190 : Cond.code yX0_firstNotIn cX0_firstNotIn 3 (some .int) ∈ lw_all := lw_mem (i := 209) (by decide +kernel) rfl
theorem q191 : Cond.methodLink RX0 59 yX0_realFits ∈ lw_all := lw_mem (i := 210) (by decide +kernel) rfl
theorem q192 : Cond.static yX0_realFits ∈ lw_all := lw_mem (i := 211) (by decide +kernel) rfl
theorem q193 : Cond.code yX0_realFits cX0_realFits 3 (some .boolean) ∈ lw_all := lw_mem (i := 212) (by decide +kernel) rfl
theorem q194 : Cond.methodLink RX0 81 yX0_isJust ∈ lw_all := lw_mem (i := 213) (by decide +kernel) rfl
theorem q195 : Cond.static yX0_isJust ∈ lw_all := lw_mem (i := 214) (by decide +kernel) rfl
theorem q196 : Cond.code yX0_isJust cX0_isJust 4 (some .boolean) ∈ lw_all := lw_mem (i := 215) (by decide +kernel) rfl
theorem q197 : Cond.constantDouble RX0 85 (4890909195324358656) ∈ lw_all := lw_mem (i := 216) (by decide +kernel) rfl
theorem q198 : Cond.methodLink RX0 63 yX0_wholeFits ∈ lw_all := lw_mem (i := 217) (by decide +kernel) rfl
theorem q199 : Cond.static yX0_wholeFits ∈ lw_all := lw_mem (i := 218) (by decide +kernel) rfl
theorem q200 : Cond.code yX0_wholeFits cX0_wholeFits 3 (some .boolean) ∈ lw_all := lw_mem (i := 219) (by decide +kernel) rfl
theorem q201 : Cond.methodLink RX2 98 yX0_becomeKind ∈ lw_all := lw_mem (i := 220) (by decide +kernel) rfl
theorem q202 : Cond.instanceMethod yX0_becomeKind ∈ lw_all := lw_mem (i := 221) (by decide +kernel) rfl
theorem q203 : Cond.selects RX0 yX0_becomeKind yX0_becomeKind ∈ lw_all := lw_mem (i := 222) (by decide +kernel) rfl
theorem q204 : Cond.code yX0_becomeKind cX0_becomeKind 4 none ∈ lw_all := lw_mem (i := 223) (by decide +kernel) rfl
theorem q205 : Cond.methodLink RL 69 yX2_part ∈ lw_all := lw_mem (i := 224) (by decide +kernel) rfl
theorem q206 : Cond.instanceMethod yX2_part ∈ lw_all := lw_mem (i := 225) (by decide +kernel) rfl
theorem q207 : Cond.selects RX2 yX2_part yX2_part ∈ lw_all := lw_mem (i := 226) (by decide +kernel) rfl
theorem q208 : Cond.code yX2_part cX2_part 4 (some .int) ∈ lw_all := lw_mem (i := 227) (by decide +kernel) rfl
theorem q209 : Cond.methodLink RX2 102 yX1_begin ∈ lw_all := lw_mem (i := 228) (by decide +kernel) rfl
theorem q210 : Cond.instanceMethod yX1_begin ∈ lw_all := lw_mem (i := 229) (by decide +kernel) rfl
theorem q211 : Cond.selects RX1 yX1_begin yX1_begin ∈ lw_all := lw_mem (i := 230) (by decide +kernel) rfl
theorem q212 : Cond.code yX1_begin cX1_begin 3 none ∈ lw_all := lw_mem (i := 231) (by decide +kernel) rfl
theorem q213 : Cond.methodLink RL 73 yX2_lay ∈ lw_all := lw_mem (i := 232) (by decide +kernel) rfl
theorem q214 : Cond.instanceMethod yX2_lay ∈ lw_all := lw_mem (i := 233) (by decide +kernel) rfl
theorem q215 : Cond.selects RX2 yX2_lay yX2_lay ∈ lw_all := lw_mem (i := 234) (by decide +kernel) rfl
theorem q216 : Cond.code yX2_lay cX2_lay 6 (some .int) ∈ lw_all := lw_mem (i := 235) (by decide +kernel) rfl
theorem q217 : Cond.methodLink RX2 103 yX2_isPart ∈ lw_all := lw_mem (i := 236) (by decide +kernel) rfl
theorem q219 : Cond.instanceMethod yX2_isPart ∈ lw_all := lw_mem (i := 238) (by decide +kernel) rfl
theorem q220 : Cond.code yX2_isPart cX2_isPart 2 (some .boolean) ∈ lw_all := lw_mem (i := 239) (by decide +kernel) rfl
theorem q221 : Cond.methodLink RX2 106 yX2_isForPart ∈ lw_all := lw_mem (i := 240) (by decide +kernel) rfl
theorem q223 : Cond.instanceMethod yX2_isForPart ∈ lw_all := lw_mem (i := 242) (by decide +kernel) rfl
theorem q224 : Cond.code yX2_isForPart cX2_isForPart 3 (some .boolean) ∈ lw_all := lw_mem (i := 243) (by decide +kernel) rfl
theorem q225 : Cond.methodLink RX2 166 yX0_isForSort ∈ lw_all := lw_mem (i := 244) (by decide +kernel) rfl
theorem q226 : Cond.instanceMethod yX0_isForSort ∈ lw_all := lw_mem (i := 245) (by decide +kernel) rfl
theorem q227 : Cond.selects RX0 yX0_isForSort yX0_isForSort ∈ lw_all := lw_mem (i := 246) (by decide +kernel) rfl
theorem q228 : Cond.code yX0_isForSort cX0_isForSort 2 (some .boolean) ∈ lw_all := lw_mem (i := 247) (by decide +kernel) rfl
theorem q229 : Cond.methodLink RX2 110 yX0_holdPart ∈ lw_all := lw_mem (i := 248) (by decide +kernel) rfl
theorem q230 : Cond.instanceMethod yX0_holdPart ∈ lw_all := lw_mem (i := 249) (by decide +kernel) rfl
theorem q231 : Cond.selects RX0 yX0_holdPart yX0_holdPart ∈ lw_all := lw_mem (i := 250) (by decide +kernel) rfl
theorem q232 : Cond.code yX0_holdPart cX0_holdPart 3 none ∈ lw_all := lw_mem (i := 251) (by decide +kernel) rfl
theorem q233 : Cond.methodLink RL 77 yX2_weigh ∈ lw_all := lw_mem (i := 252) (by decide +kernel) rfl
theorem q234 : Cond.instanceMethod yX2_weigh ∈ lw_all := lw_mem (i := 253) (by decide +kernel) rfl
theorem q235 : Cond.selects RX2 yX2_weigh yX2_weigh ∈ lw_all := lw_mem (i := 254) (by decide +kernel) rfl
theorem q236 : Cond.code yX2_weigh cX2_weigh 4 (some .int) ∈ lw_all := lw_mem (i := 255) (by decide +kernel) rfl
theorem q237 : Cond.methodLink RX2 116 yX2_partLookedAt ∈ lw_all := lw_mem (i := 256) (by decide +kernel) rfl
theorem q239 : Cond.instanceMethod yX2_partLookedAt ∈ lw_all := lw_mem (i := 258) (by decide +kernel) rfl
theorem q240 : Cond.code yX2_partLookedAt cX2_partLookedAt 5 (some .int) ∈ lw_all := lw_mem (i := 259) (by decide +kernel) rfl
theorem q241 : Cond.methodLink RX2 80 yX0_heldPart ∈ lw_all := lw_mem (i := 260) (by decide +kernel) rfl
theorem q242 : Cond.instanceMethod yX0_heldPart ∈ lw_all := lw_mem (i := 261) (by decide +kernel) rfl
theorem q243 : Cond.selects RX0 yX0_heldPart yX0_heldPart ∈ lw_all := lw_mem (i := 262) (by decide +kernel) rfl
theorem q244 : Cond.code yX0_heldPart cX0_heldPart 2 (some .int) ∈ lw_all := lw_mem (i := 263) (by decide +kernel) rfl
theorem q245 : Cond.methodLink RX2 120 yX1_weighed ∈ lw_all := lw_mem (i := 264) (by decide +kernel) rfl
theorem q246 : Cond.instanceMethod yX1_weighed ∈ lw_all := lw_mem (i := 265) (by decide +kernel) rfl
theorem q247 : Cond.selects RX1 yX1_weighed yX1_weighed ∈ lw_all := lw_mem (i := 266) (by decide +kernel) rfl
theorem q248 : Cond.code yX1_weighed cX1_weighed 1 (some .int) ∈ lw_all := lw_mem (i := 267) (by decide +kernel) rfl
theorem q249 : Cond.methodLink RL 81 yX2_rigid ∈ lw_all := lw_mem (i := 268) (by decide +kernel) rfl
theorem q250 : Cond.instanceMethod yX2_rigid ∈ lw_all := lw_mem (i := 269) (by decide +kernel) rfl
theorem q251 : Cond.selects RX2 yX2_rigid yX2_rigid ∈ lw_all := lw_mem (i := 270) (by decide +kernel) rfl
theorem q252 : Cond.code yX2_rigid cX2_rigid 5 (some .int) ∈ lw_all := lw_mem (i := 271) (by decide +kernel) rfl
theorem q253 : Cond.methodLink RL 85 yX2_fault ∈ lw_all := lw_mem (i := 272) (by decide +kernel) rfl
theorem q254 : Cond.instanceMethod yX2_fault ∈ lw_all := lw_mem (i := 273) (by decide +kernel) rfl
theorem q255 : Cond.selects RX2 yX2_fault yX2_fault ∈ lw_all := lw_mem (i := 274) (by decide +kernel) rfl
theorem q256 : Cond.code yX2_fault cX2_fault 3 (some .int) ∈ lw_all := lw_mem (i := 275) (by decide +kernel) rfl
theorem q257 : Cond.methodLink RL 89 yX2_raise ∈ lw_all := lw_mem (i := 276) (by decide +kernel) rfl
theorem q258 : Cond.instanceMethod yX2_raise ∈ lw_all := lw_mem (i := 277) (by decide +kernel) rfl
theorem q259 : Cond.selects RX2 yX2_raise yX2_raise ∈ lw_all := lw_mem (i := 278) (by decide +kernel) rfl
theorem q260 : Cond.code yX2_raise cX2_raise 5 (some .int) ∈ lw_all := lw_mem (i := 279) (by decide +kernel) rfl
theorem q261 : Cond.methodLink RL 93 yX2_copy ∈ lw_all := lw_mem (i := 280) (by decide +kernel) rfl
theorem q262 : Cond.instanceMethod yX2_copy ∈ lw_all := lw_mem (i := 281) (by decide +kernel) rfl
theorem q263 : Cond.selects RX2 yX2_copy yX2_copy ∈ lw_all := lw_mem (i := 282) (by decide +kernel) rfl
theorem q264 : Cond.code yX2_copy cX2_copy 8 (some .int) ∈ lw_all := lw_mem (i := 283) (by decide +kernel) rfl
theorem q265 : Cond.methodLink RX2 129 yX0_hasCells ∈ lw_all := lw_mem (i := 284) (by decide +kernel) rfl
theorem q266 : Cond.instanceMethod yX0_hasCells ∈ lw_all := lw_mem (i := 285) (by decide +kernel) rfl
theorem q267 : Cond.selects RX0 yX0_hasCells yX0_hasCells ∈ lw_all := lw_mem (i := 286) (by decide +kernel) rfl
theorem q268 : Cond.code yX0_hasCells cX0_hasCells 3 (some .boolean) ∈ lw_all := lw_mem (i := 287) (by decide +kernel) rfl
theorem q269 : Cond.methodLink RX2 133 yX0_takeCells ∈ lw_all := lw_mem (i := 288) (by decide +kernel) rfl
theorem q270 : Cond.instanceMethod yX0_takeCells ∈ lw_all := lw_mem (i := 289) (by decide +kernel) rfl
theorem q271 : Cond.selects RX0 yX0_takeCells yX0_takeCells ∈ lw_all := lw_mem (i := 290) (by decide +kernel) rfl
theorem q272 : Cond.code yX0_takeCells cX0_takeCells 5 none ∈ lw_all := lw_mem (i := 291) (by decide +kernel) rfl
theorem q273 : Cond.methodLink RX0 67 arraycopyName ∈ lw_all := lw_mem (i := 292) (by decide +kernel) rfl
theorem q274 : Cond.static arraycopyName ∈ lw_all := lw_mem (i := 293) (by decide +kernel) rfl
theorem q275 : Cond.native arraycopyName ∈ lw_all := lw_mem (i := 294) (by decide +kernel) rfl
theorem q276 : Cond.methodLink RX2 137 yX2_takeParts ∈ lw_all := lw_mem (i := 295) (by decide +kernel) rfl
theorem q278 : Cond.instanceMethod yX2_takeParts ∈ lw_all := lw_mem (i := 297) (by decide +kernel) rfl
theorem q279 : Cond.code yX2_takeParts cX2_takeParts 8 (some .int) ∈ lw_all := lw_mem (i := 298) (by decide +kernel) rfl
theorem q280 : Cond.methodLink RL 98 yX2_copied ∈ lw_all := lw_mem (i := 299) (by decide +kernel) rfl
theorem q281 : Cond.instanceMethod yX2_copied ∈ lw_all := lw_mem (i := 300) (by decide +kernel) rfl
theorem q282 : Cond.selects RX2 yX2_copied yX2_copied ∈ lw_all := lw_mem (i := 301) (by decide +kernel) rfl
theorem q283 : Cond.code yX2_copied cX2_copied 1 (some .int) ∈ lw_all := lw_mem (i := 302) (by decide +kernel) rfl
theorem q284 : Cond.methodLink RL 102 yX2_move ∈ lw_all := lw_mem (i := 303) (by decide +kernel) rfl
theorem q285 : Cond.instanceMethod yX2_move ∈ lw_all := lw_mem (i := 304) (by decide +kernel) rfl
theorem q286 : Cond.selects RX2 yX2_move yX2_move ∈ lw_all := lw_mem (i := 305) (by decide +kernel) rfl
theorem q287 : Cond.code yX2_move cX2_move 7 (some .int) ∈ lw_all := lw_mem (i := 306) (by decide +kernel) rfl
theorem q288 : Cond.methodLink RX2 141 yX2_isMapping ∈ lw_all := lw_mem (i := 307) (by decide +kernel) rfl
theorem q289 : Cond.static yX2_isMapping ∈ lw_all := lw_mem (i := 308) (by decide +kernel) rfl
theorem q290 : Cond.code yX2_isMapping cX2_isMapping 1 (some .boolean) ∈ lw_all := lw_mem (i := 309) (by decide +kernel) rfl
theorem q291 : Cond.constant RX2 144 (262143) ∈ lw_all := lw_mem (i := 310) (by decide +kernel) rfl
theorem q292 : Cond.methodLink RX2 145 yX0_becomeLike ∈ lw_all := lw_mem (i := 311) (by decide +kernel) rfl
theorem q293 : Cond.instanceMethod yX0_becomeLike ∈ lw_all := lw_mem (i := 312) (by decide +kernel) rfl
theorem q294 : Cond.selects RX0 yX0_becomeLike yX0_becomeLike ∈ lw_all := lw_mem (i := 313) (by decide +kernel) rfl
theorem q295 : Cond.code yX0_becomeLike cX0_becomeLike 2 none ∈ lw_all := lw_mem (i := 314) (by decide +kernel) rfl
theorem q296 : Cond.methodLink RX0 73 yX0_takeCells ∈ lw_all := lw_mem (i := 315) (by decide +kernel) rfl
theorem q297 : Cond.methodLink RX2 149 yX2_moveByDigit ∈ lw_all := lw_mem (i := 316) (by decide +kernel) rfl
theorem q299 : Cond.instanceMethod yX2_moveByDigit ∈ lw_all := lw_mem (i := 318) (by decide +kernel) rfl
theorem q300 : Cond.code yX2_moveByDigit cX2_moveByDigit 3 none ∈ lw_all := lw_mem (i := 319) (by decide +kernel) rfl
theorem q301 : Cond.methodLink RL 106 yX2_like ∈ lw_all := lw_mem (i := 320) (by decide +kernel) rfl
theorem q302 : Cond.instanceMethod yX2_like ∈ lw_all := lw_mem (i := 321) (by decide +kernel) rfl
theorem q303 : Cond.selects RX2 yX2_like yX2_like ∈ lw_all := lw_mem (i := 322) (by decide +kernel) rfl
theorem q304 : Cond.code yX2_like cX2_like 5 (some .int) ∈ lw_all := lw_mem (i := 323) (by decide +kernel) rfl
theorem q305 : Cond.methodLink RX2 153 yX0_isSameAs ∈ lw_all := lw_mem (i := 324) (by decide +kernel) rfl
theorem q306 : Cond.instanceMethod yX0_isSameAs ∈ lw_all := lw_mem (i := 325) (by decide +kernel) rfl
theorem q307 : Cond.selects RX0 yX0_isSameAs yX0_isSameAs ∈ lw_all := lw_mem (i := 326) (by decide +kernel) rfl
theorem q308 : Cond.code yX0_isSameAs cX0_isSameAs 3 (some .boolean) ∈ lw_all := lw_mem (i := 327) (by decide +kernel) rfl
theorem q309 : Cond.methodLink RL 110 yX2_told ∈ lw_all := lw_mem (i := 328) (by decide +kernel) rfl
theorem q310 : Cond.instanceMethod yX2_told ∈ lw_all := lw_mem (i := 329) (by decide +kernel) rfl
theorem q311 : Cond.selects RX2 yX2_told yX2_told ∈ lw_all := lw_mem (i := 330) (by decide +kernel) rfl
theorem q312 : Cond.code yX2_told cX2_told 2 (some .int) ∈ lw_all := lw_mem (i := 331) (by decide +kernel) rfl
theorem q313 : Cond.methodLink RX2 157 yX2_countColumns ∈ lw_all := lw_mem (i := 332) (by decide +kernel) rfl
theorem q315 : Cond.instanceMethod yX2_countColumns ∈ lw_all := lw_mem (i := 334) (by decide +kernel) rfl
theorem q316 : Cond.code yX2_countColumns cX2_countColumns 3 (some .int) ∈ lw_all := lw_mem (i := 335) (by decide +kernel) rfl
theorem q317 : Cond.methodLink RX2 160 yX2_countCells ∈ lw_all := lw_mem (i := 336) (by decide +kernel) rfl
theorem q319 : Cond.instanceMethod yX2_countCells ∈ lw_all := lw_mem (i := 338) (by decide +kernel) rfl
theorem q320 : Cond.code yX2_countCells cX2_countCells 3 (some .int) ∈ lw_all := lw_mem (i := 339) (by decide +kernel) rfl
theorem q321 : Cond.methodLink RX2 163 yX2_countHeld ∈ lw_all := lw_mem (i := 340) (by decide +kernel) rfl
theorem q323 : Cond.instanceMethod yX2_countHeld ∈ lw_all := lw_mem (i := 342) (by decide +kernel) rfl
theorem q324 : Cond.code yX2_countHeld cX2_countHeld 3 (some .int) ∈ lw_all := lw_mem (i := 343) (by decide +kernel) rfl
theorem q325 : Cond.methodLink RX2 169 yX0_countHeldHere ∈ lw_all := lw_mem (i := 344) (by decide +kernel) rfl
theorem q326 : Cond.instanceMethod yX0_countHeldHere ∈ lw_all := lw_mem (i := 345) (by decide +kernel) rfl
theorem q327 : Cond.selects RX0 yX0_countHeldHere yX0_countHeldHere ∈ lw_all := lw_mem (i := 346) (by decide +kernel) rfl
theorem q328 : Cond.code yX0_countHeldHere cX0_countHeldHere 3 (some .int) ∈ lw_all := lw_mem (i := 347) (by decide +kernel) rfl
theorem q329 : Cond.methodLink RX0 77 yX0_heldPart ∈ lw_all := lw_mem (i := 348) (by decide +kernel) rfl
theorem q330 : Cond.methodLink RL 50 yL_get ∈ lw_all := lw_mem (i := 349) (by decide +kernel) rfl
theorem q331 : Cond.static yL_get ∈ lw_all := lw_mem (i := 350) (by decide +kernel) rfl
theorem q333 : Cond.classLink RL 13 RJx5d777 ∈ lw_all := lw_mem (i := 352) (by decide +kernel) rfl
theorem q334 : Cond.instantiable RJx5d777 8 ∈ lw_all := lw_mem (i := 353) (by decide +kernel) rfl
theorem q335 : Cond.instanceMethod yJx5d777_init_da8c8 ∈ lw_all := lw_mem (i := 354) (by decide +kernel) rfl
theorem q336 : Cond.code yJx5d777_init_da8c8 cJx5d777_init_da8c8 1 none ∈ lw_all := lw_mem (i := 355) (by decide +kernel) rfl
theorem q346 : Cond.methodLink "java/lang/Throwable" 1 objectInit ∈ lw_all := lw_mem (i := 365) (by decide +kernel) rfl
theorem q347 : Cond.fieldLink "java/lang/Throwable" 13 "java/lang/Throwable" "UNASSIGNED_STACK" "[Ljava/lang/StackTraceElement;" ∈ lw_all := lw_mem (i := 366) (by decide +kernel) rfl
theorem q349 : Cond.fieldLink "java/lang/Throwable" 20 "java/lang/Throwable" "SUPPRESSED_SENTINEL" "Ljava/util/List;" ∈ lw_all := lw_mem (i := 368) (by decide +kernel) rfl
theorem q356 : Cond.instanceMethod yJx5d777_fillInStackTrace_cddbd ∈ lw_all := lw_mem (i := 375) (by decide +kernel) rfl
theorem q372 : Cond.instantiable "java/lang/Throwable" 6 ∈ lw_all := lw_mem (i := 391) (by decide +kernel) rfl
theorem q374 : Cond.fieldLink RJx5d777 10 "java/lang/NullPointerException" "extendedMessageState" "I" ∈ lw_all := lw_mem (i := 393) (by decide +kernel) rfl
theorem q375 : Cond.fieldLink RJx5d777 20 "java/lang/NullPointerException" "extendedMessage" "Ljava/lang/String;" ∈ lw_all := lw_mem (i := 394) (by decide +kernel) rfl
theorem q376 : Cond.fieldLink "java/lang/Throwable" 198 "java/lang/Throwable" "backtrace" "Ljava/lang/Object;" ∈ lw_all := lw_mem (i := 395) (by decide +kernel) rfl
theorem q377 : Cond.fieldLink "java/lang/Throwable" 31 "java/lang/Throwable" "detailMessage" "Ljava/lang/String;" ∈ lw_all := lw_mem (i := 396) (by decide +kernel) rfl
theorem q378 : Cond.fieldLink "java/lang/Throwable" 7 "java/lang/Throwable" "cause" "Ljava/lang/Throwable;" ∈ lw_all := lw_mem (i := 397) (by decide +kernel) rfl
theorem q379 : Cond.fieldLink "java/lang/Throwable" 17 "java/lang/Throwable" "stackTrace" "[Ljava/lang/StackTraceElement;" ∈ lw_all := lw_mem (i := 398) (by decide +kernel) rfl
theorem q380 : Cond.fieldLink "java/lang/Throwable" 24 "java/lang/Throwable" "suppressedExceptions" "Ljava/util/List;" ∈ lw_all := lw_mem (i := 399) (by decide +kernel) rfl
theorem q381 : Cond.lays RJx5d777 "java/lang/NullPointerException" "extendedMessageState" "I" ∈ lw_all := lw_mem (i := 400) (by decide +kernel) rfl
theorem q383 : Cond.lays RJx5d777 "java/lang/NullPointerException" "extendedMessage" "Ljava/lang/String;" ∈ lw_all := lw_mem (i := 402) (by decide +kernel) rfl
theorem q385 : Cond.lays RJx5d777 "java/lang/Throwable" "backtrace" "Ljava/lang/Object;" ∈ lw_all := lw_mem (i := 404) (by decide +kernel) rfl
theorem q387 : Cond.lays RJx5d777 "java/lang/Throwable" "detailMessage" "Ljava/lang/String;" ∈ lw_all := lw_mem (i := 406) (by decide +kernel) rfl
theorem q389 : Cond.lays RJx5d777 "java/lang/Throwable" "cause" "Ljava/lang/Throwable;" ∈ lw_all := lw_mem (i := 408) (by decide +kernel) rfl
theorem q391 : Cond.lays RJx5d777 "java/lang/Throwable" "stackTrace" "[Ljava/lang/StackTraceElement;" ∈ lw_all := lw_mem (i := 410) (by decide +kernel) rfl
theorem q393 : Cond.lays RJx5d777 "java/lang/Throwable" "depth" "I" ∈ lw_all := lw_mem (i := 412) (by decide +kernel) rfl
theorem q395 : Cond.lays RJx5d777 "java/lang/Throwable" "suppressedExceptions" "Ljava/util/List;" ∈ lw_all := lw_mem (i := 414) (by decide +kernel) rfl
theorem q405 : Cond.lays "java/lang/Throwable" "java/lang/Throwable" "cause" "Ljava/lang/Throwable;" ∈ lw_all := lw_mem (i := 424) (by decide +kernel) rfl
theorem q406 : Cond.lays "java/lang/Throwable" "java/lang/Throwable" "stackTrace" "[Ljava/lang/StackTraceElement;" ∈ lw_all := lw_mem (i := 425) (by decide +kernel) rfl
theorem q407 : Cond.lays "java/lang/Throwable" "java/lang/Throwable" "suppressedExceptions" "Ljava/util/List;" ∈ lw_all := lw_mem (i := 426) (by decide +kernel) rfl
theorem q408 : Cond.lays "java/lang/Throwable" "java/lang/Throwable" "detailMessage" "Ljava/lang/String;" ∈ lw_all := lw_mem (i := 427) (by decide +kernel) rfl
theorem q409 : Cond.lays "java/lang/Throwable" "java/lang/Throwable" "backtrace" "Ljava/lang/Object;" ∈ lw_all := lw_mem (i := 428) (by decide +kernel) rfl
theorem q410 : Cond.fieldLink "java/lang/Throwable" 198 "java/lang/Throwable" "backtrace" "Ljava/lang/Object;" ∈ lw_all := lw_mem (i := 429) (by decide +kernel) rfl
theorem q413 : Cond.classLink RL 15 RJx00060 ∈ lw_all := lw_mem (i := 432) (by decide +kernel) rfl
theorem q414 : Cond.instantiable RJx00060 6 ∈ lw_all := lw_mem (i := 433) (by decide +kernel) rfl
theorem q415 : Cond.instanceMethod yJx00060_init_a7421 ∈ lw_all := lw_mem (i := 434) (by decide +kernel) rfl
theorem q416 : Cond.code yJx00060_init_a7421 cJx00060_init_a7421 2 none ∈ lw_all := lw_mem (i := 435) (by decide +kernel) rfl
theorem q429 : Cond.lays RJx00060 "java/lang/Throwable" "backtrace" "Ljava/lang/Object;" ∈ lw_all := lw_mem (i := 448) (by decide +kernel) rfl
theorem q430 : Cond.lays RJx00060 "java/lang/Throwable" "detailMessage" "Ljava/lang/String;" ∈ lw_all := lw_mem (i := 449) (by decide +kernel) rfl
theorem q431 : Cond.lays RJx00060 "java/lang/Throwable" "cause" "Ljava/lang/Throwable;" ∈ lw_all := lw_mem (i := 450) (by decide +kernel) rfl
theorem q432 : Cond.lays RJx00060 "java/lang/Throwable" "stackTrace" "[Ljava/lang/StackTraceElement;" ∈ lw_all := lw_mem (i := 451) (by decide +kernel) rfl
theorem q433 : Cond.lays RJx00060 "java/lang/Throwable" "depth" "I" ∈ lw_all := lw_mem (i := 452) (by decide +kernel) rfl
theorem q434 : Cond.lays RJx00060 "java/lang/Throwable" "suppressedExceptions" "Ljava/util/List;" ∈ lw_all := lw_mem (i := 453) (by decide +kernel) rfl
theorem q440 : Cond.instantiable RJ0 4 ∈ lw_all := lw_mem (i := 459) (by decide +kernel) rfl
theorem q441 : Cond.arrayClass .byte ∈ lw_all := lw_mem (i := 460) (by decide +kernel) rfl
theorem q442 : Cond.laysFinal RJ0 "java/lang/String" "value" "[B" ∈ lw_all := lw_mem (i := 461) (by decide +kernel) rfl
theorem q444 : Cond.laysFinal RJ0 "java/lang/String" "coder" "B" ∈ lw_all := lw_mem (i := 463) (by decide +kernel) rfl
theorem q446 : Cond.methodLink RL 7 yX2_get ∈ lw_all := lw_mem (i := 465) (by decide +kernel) rfl
theorem q447 : Cond.instanceMethod yX2_get ∈ lw_all := lw_mem (i := 466) (by decide +kernel) rfl
theorem q448 : Cond.selects RX2 yX2_get yX2_get ∈ lw_all := lw_mem (i := 467) (by decide +kernel) rfl
theorem q449 : Cond.code yX2_get cX2_get 4 (some .long) ∈ lw_all := lw_mem (i := 468) (by decide +kernel) rfl
theorem q450 : Cond.classLink RX2 68 RJx00060 ∈ lw_all := lw_mem (i := 469) (by decide +kernel) rfl
theorem q451 : Cond.methodLink RX2 70 yJx00060_init_da8c8 ∈ lw_all := lw_mem (i := 470) (by decide +kernel) rfl
theorem q452 : Cond.instanceMethod yJx00060_init_da8c8 ∈ lw_all := lw_mem (i := 471) (by decide +kernel) rfl
theorem q453 : Cond.code yJx00060_init_da8c8 cJx00060_init_da8c8 1 none ∈ lw_all := lw_mem (i := 472) (by decide +kernel) rfl
theorem q458 : Cond.classLink RX2 71 RJx5d777 ∈ lw_all := lw_mem (i := 477) (by decide +kernel) rfl
theorem q459 : Cond.methodLink RX2 73 yJx5d777_init_da8c8 ∈ lw_all := lw_mem (i := 478) (by decide +kernel) rfl
theorem q460 : Cond.methodLink RX2 84 yX0_tells ∈ lw_all := lw_mem (i := 479) (by decide +kernel) rfl
theorem q461 : Cond.classLink RL 18 RX3 ∈ lw_all := lw_mem (i := 480) (by decide +kernel) rfl
theorem q462 : Cond.instantiable RX3 17 ∈ lw_all := lw_mem (i := 481) (by decide +kernel) rfl
theorem q463 : Cond.methodLink RL 20 yX3_init ∈ lw_all := lw_mem (i := 482) (by decide +kernel) rfl
theorem q464 : Cond.instanceMethod yX3_init ∈ lw_all := lw_mem (i := 483) (by decide +kernel) rfl
theorem q465 : Cond.code yX3_init cX3_init 2 none ∈ lw_all := lw_mem (i := 484) (by decide +kernel) rfl
theorem q466 : Cond.methodLink RX3 1 objectInit ∈ lw_all := lw_mem (i := 485) (by decide +kernel) rfl
theorem q467 : Cond.fieldLink RX3 55 "MappingMovesModel" "code" "I" ∈ lw_all := lw_mem (i := 486) (by decide +kernel) rfl
theorem q468 : Cond.fieldLink RX3 7 "MappingMovesModel" "kinds" "[I" ∈ lw_all := lw_mem (i := 487) (by decide +kernel) rfl
theorem q469 : Cond.fieldLink RX3 13 "MappingMovesModel" "counts" "[I" ∈ lw_all := lw_mem (i := 488) (by decide +kernel) rfl
theorem q470 : Cond.fieldLink RX3 16 "MappingMovesModel" "gone" "[Z" ∈ lw_all := lw_mem (i := 489) (by decide +kernel) rfl
theorem q471 : Cond.fieldLink RX3 20 "MappingMovesModel" "cells" "[J" ∈ lw_all := lw_mem (i := 490) (by decide +kernel) rfl
theorem q472 : Cond.fieldLink RX3 24 "MappingMovesModel" "reals" "[D" ∈ lw_all := lw_mem (i := 491) (by decide +kernel) rfl
theorem q473 : Cond.fieldLink RX3 28 "MappingMovesModel" "hadKinds" "[I" ∈ lw_all := lw_mem (i := 492) (by decide +kernel) rfl
theorem q474 : Cond.fieldLink RX3 31 "MappingMovesModel" "hadCounts" "[I" ∈ lw_all := lw_mem (i := 493) (by decide +kernel) rfl
theorem q475 : Cond.fieldLink RX3 34 "MappingMovesModel" "hadGone" "[Z" ∈ lw_all := lw_mem (i := 494) (by decide +kernel) rfl
theorem q476 : Cond.fieldLink RX3 37 "MappingMovesModel" "hadCells" "[J" ∈ lw_all := lw_mem (i := 495) (by decide +kernel) rfl
theorem q477 : Cond.fieldLink RX3 40 "MappingMovesModel" "hadReals" "[D" ∈ lw_all := lw_mem (i := 496) (by decide +kernel) rfl
theorem q478 : Cond.fieldLink RX3 111 "MappingMovesModel" "parts" "I" ∈ lw_all := lw_mem (i := 497) (by decide +kernel) rfl
theorem q479 : Cond.fieldLink RX3 43 "MappingMovesModel" "sorts" "[I" ∈ lw_all := lw_mem (i := 498) (by decide +kernel) rfl
theorem q480 : Cond.fieldLink RX3 46 "MappingMovesModel" "weights" "[I" ∈ lw_all := lw_mem (i := 499) (by decide +kernel) rfl
theorem q481 : Cond.fieldLink RX3 49 "MappingMovesModel" "laid" "[I" ∈ lw_all := lw_mem (i := 500) (by decide +kernel) rfl
theorem q482 : Cond.fieldLink RX3 52 "MappingMovesModel" "faults" "[I" ∈ lw_all := lw_mem (i := 501) (by decide +kernel) rfl
theorem q483 : Cond.fieldLink RX3 121 "MappingMovesModel" "copies" "I" ∈ lw_all := lw_mem (i := 502) (by decide +kernel) rfl
theorem q484 : Cond.lays RX3 "MappingMovesModel" "code" "I" ∈ lw_all := lw_mem (i := 503) (by decide +kernel) rfl
theorem q486 : Cond.laysFinal RX3 "MappingMovesModel" "kinds" "[I" ∈ lw_all := lw_mem (i := 505) (by decide +kernel) rfl
theorem q488 : Cond.laysFinal RX3 "MappingMovesModel" "counts" "[I" ∈ lw_all := lw_mem (i := 507) (by decide +kernel) rfl
theorem q490 : Cond.laysFinal RX3 "MappingMovesModel" "gone" "[Z" ∈ lw_all := lw_mem (i := 509) (by decide +kernel) rfl
theorem q492 : Cond.laysFinal RX3 "MappingMovesModel" "cells" "[J" ∈ lw_all := lw_mem (i := 511) (by decide +kernel) rfl
theorem q494 : Cond.laysFinal RX3 "MappingMovesModel" "reals" "[D" ∈ lw_all := lw_mem (i := 513) (by decide +kernel) rfl
theorem q496 : Cond.laysFinal RX3 "MappingMovesModel" "hadKinds" "[I" ∈ lw_all := lw_mem (i := 515) (by decide +kernel) rfl
theorem q498 : Cond.laysFinal RX3 "MappingMovesModel" "hadCounts" "[I" ∈ lw_all := lw_mem (i := 517) (by decide +kernel) rfl
theorem q500 : Cond.laysFinal RX3 "MappingMovesModel" "hadGone" "[Z" ∈ lw_all := lw_mem (i := 519) (by decide +kernel) rfl
theorem q502 : Cond.laysFinal RX3 "MappingMovesModel" "hadCells" "[J" ∈ lw_all := lw_mem (i := 521) (by decide +kernel) rfl
theorem q504 : Cond.laysFinal RX3 "MappingMovesModel" "hadReals" "[D" ∈ lw_all := lw_mem (i := 523) (by decide +kernel) rfl
theorem q506 : Cond.lays RX3 "MappingMovesModel" "parts" "I" ∈ lw_all := lw_mem (i := 525) (by decide +kernel) rfl
theorem q508 : Cond.laysFinal RX3 "MappingMovesModel" "sorts" "[I" ∈ lw_all := lw_mem (i := 527) (by decide +kernel) rfl
theorem q510 : Cond.laysFinal RX3 "MappingMovesModel" "weights" "[I" ∈ lw_all := lw_mem (i := 529) (by decide +kernel) rfl
theorem q512 : Cond.laysFinal RX3 "MappingMovesModel" "laid" "[I" ∈ lw_all := lw_mem (i := 531) (by decide +kernel) rfl
theorem q514 : Cond.laysFinal RX3 "MappingMovesModel" "faults" "[I" ∈ lw_all := lw_mem (i := 533) (by decide +kernel) rfl
theorem q516 : Cond.lays RX3 "MappingMovesModel" "copies" "I" ∈ lw_all := lw_mem (i := 535) (by decide +kernel) rfl
theorem q519 : Cond.arrayClass .int ∈ lw_all := lw_mem (i := 538) (by decide +kernel) rfl
theorem q520 : Cond.arrayClass .boolean ∈ lw_all := lw_mem (i := 539) (by decide +kernel) rfl
theorem q521 : Cond.methodLink RL 56 yX3_thrown ∈ lw_all := lw_mem (i := 540) (by decide +kernel) rfl
theorem q522 : Cond.instanceMethod yX3_thrown ∈ lw_all := lw_mem (i := 541) (by decide +kernel) rfl
theorem q523 : Cond.selects RX3 yX3_thrown yX3_thrown ∈ lw_all := lw_mem (i := 542) (by decide +kernel) rfl
theorem q524 : Cond.code yX3_thrown cX3_thrown 1 (some .int) ∈ lw_all := lw_mem (i := 543) (by decide +kernel) rfl
theorem q525 : Cond.methodLink RL 25 yX3_make ∈ lw_all := lw_mem (i := 544) (by decide +kernel) rfl
theorem q526 : Cond.instanceMethod yX3_make ∈ lw_all := lw_mem (i := 545) (by decide +kernel) rfl
theorem q527 : Cond.selects RX3 yX3_make yX3_make ∈ lw_all := lw_mem (i := 546) (by decide +kernel) rfl
theorem q528 : Cond.code yX3_make cX3_make 5 (some .int) ∈ lw_all := lw_mem (i := 547) (by decide +kernel) rfl
theorem q529 : Cond.methodLink RX3 63 yX3_isPlace ∈ lw_all := lw_mem (i := 548) (by decide +kernel) rfl
theorem q530 : Cond.static yX3_isPlace ∈ lw_all := lw_mem (i := 549) (by decide +kernel) rfl
theorem q531 : Cond.code yX3_isPlace cX3_isPlace 1 (some .boolean) ∈ lw_all := lw_mem (i := 550) (by decide +kernel) rfl
theorem q532 : Cond.methodLink RX3 59 yX3_in ∈ lw_all := lw_mem (i := 551) (by decide +kernel) rfl
theorem q533 : Cond.static yX3_in ∈ lw_all := lw_mem (i := 552) (by decide +kernel) rfl
theorem q534 : Cond.code yX3_in cX3_in 3 (some .boolean) ∈ lw_all := lw_mem (i := 553) (by decide +kernel) rfl
theorem q535 : Cond.constantLong RX3 67 (-1) ∈ lw_all := lw_mem (i := 554) (by decide +kernel) rfl
theorem q536 : Cond.methodLink RL 30 yX3_let ∈ lw_all := lw_mem (i := 555) (by decide +kernel) rfl
theorem q537 : Cond.instanceMethod yX3_let ∈ lw_all := lw_mem (i := 556) (by decide +kernel) rfl
theorem q538 : Cond.selects RX3 yX3_let yX3_let ∈ lw_all := lw_mem (i := 557) (by decide +kernel) rfl
theorem q539 : Cond.code yX3_let cX3_let 3 (some .int) ∈ lw_all := lw_mem (i := 558) (by decide +kernel) rfl
theorem q540 : Cond.methodLink RX3 69 yX3_isNone ∈ lw_all := lw_mem (i := 559) (by decide +kernel) rfl
theorem q542 : Cond.instanceMethod yX3_isNone ∈ lw_all := lw_mem (i := 561) (by decide +kernel) rfl
theorem q543 : Cond.code yX3_isNone cX3_isNone 2 (some .boolean) ∈ lw_all := lw_mem (i := 562) (by decide +kernel) rfl
theorem q544 : Cond.methodLink RL 34 yX3_drop ∈ lw_all := lw_mem (i := 563) (by decide +kernel) rfl
theorem q545 : Cond.instanceMethod yX3_drop ∈ lw_all := lw_mem (i := 564) (by decide +kernel) rfl
theorem q546 : Cond.selects RX3 yX3_drop yX3_drop ∈ lw_all := lw_mem (i := 565) (by decide +kernel) rfl
theorem q547 : Cond.code yX3_drop cX3_drop 3 (some .int) ∈ lw_all := lw_mem (i := 566) (by decide +kernel) rfl
theorem q548 : Cond.methodLink RL 38 yX3_kind ∈ lw_all := lw_mem (i := 567) (by decide +kernel) rfl
theorem q549 : Cond.instanceMethod yX3_kind ∈ lw_all := lw_mem (i := 568) (by decide +kernel) rfl
theorem q550 : Cond.selects RX3 yX3_kind yX3_kind ∈ lw_all := lw_mem (i := 569) (by decide +kernel) rfl
theorem q551 : Cond.code yX3_kind cX3_kind 2 (some .int) ∈ lw_all := lw_mem (i := 570) (by decide +kernel) rfl
theorem q552 : Cond.methodLink RL 42 yX3_length ∈ lw_all := lw_mem (i := 571) (by decide +kernel) rfl
theorem q553 : Cond.instanceMethod yX3_length ∈ lw_all := lw_mem (i := 572) (by decide +kernel) rfl
theorem q554 : Cond.selects RX3 yX3_length yX3_length ∈ lw_all := lw_mem (i := 573) (by decide +kernel) rfl
theorem q555 : Cond.code yX3_length cX3_length 2 (some .int) ∈ lw_all := lw_mem (i := 574) (by decide +kernel) rfl
theorem q556 : Cond.methodLink RL 49 yX3_put ∈ lw_all := lw_mem (i := 575) (by decide +kernel) rfl
theorem q557 : Cond.instanceMethod yX3_put ∈ lw_all := lw_mem (i := 576) (by decide +kernel) rfl
theorem q558 : Cond.selects RX3 yX3_put yX3_put ∈ lw_all := lw_mem (i := 577) (by decide +kernel) rfl
theorem q559 : Cond.code yX3_put cX3_put 7 (some .int) ∈ lw_all := lw_mem (i := 578) (by decide +kernel) rfl
theorem q560 : Cond.methodLink RX3 74 yX3_way ∈ lw_all := lw_mem (i := 579) (by decide +kernel) rfl
theorem q562 : Cond.instanceMethod yX3_way ∈ lw_all := lw_mem (i := 581) (by decide +kernel) rfl
theorem q563 : Cond.code yX3_way cX3_way 3 (some .int) ∈ lw_all := lw_mem (i := 582) (by decide +kernel) rfl
theorem q564 : Cond.methodLink RX3 78 yX3_has ∈ lw_all := lw_mem (i := 583) (by decide +kernel) rfl
theorem q566 : Cond.instanceMethod yX3_has ∈ lw_all := lw_mem (i := 585) (by decide +kernel) rfl
theorem q567 : Cond.code yX3_has cX3_has 3 (some .boolean) ∈ lw_all := lw_mem (i := 586) (by decide +kernel) rfl
theorem q568 : Cond.constantFloat RX3 82 (1090519040) ∈ lw_all := lw_mem (i := 587) (by decide +kernel) rfl
theorem q569 : Cond.constantDouble RX3 83 (4620693217682128896) ∈ lw_all := lw_mem (i := 588) (by decide +kernel) rfl
theorem q570 : Cond.methodLink RX3 85 yX3_low ∈ lw_all := lw_mem (i := 589) (by decide +kernel) rfl
theorem q571 : Cond.static yX3_low ∈ lw_all := lw_mem (i := 590) (by decide +kernel) rfl
theorem q572 : Cond.code yX3_low cX3_low 3 (some .long) ∈ lw_all := lw_mem (i := 591) (by decide +kernel) rfl
theorem q573 : Cond.constantLong RX3 72 (65535) ∈ lw_all := lw_mem (i := 592) (by decide +kernel) rfl
theorem q574 : Cond.methodLink RL 55 yX3_get ∈ lw_all := lw_mem (i := 593) (by decide +kernel) rfl
theorem q575 : Cond.instanceMethod yX3_get ∈ lw_all := lw_mem (i := 594) (by decide +kernel) rfl
theorem q576 : Cond.selects RX3 yX3_get yX3_get ∈ lw_all := lw_mem (i := 595) (by decide +kernel) rfl
theorem q577 : Cond.code yX3_get cX3_get 3 (some .long) ∈ lw_all := lw_mem (i := 596) (by decide +kernel) rfl
theorem q578 : Cond.methodLink RX3 89 yX3_telling ∈ lw_all := lw_mem (i := 597) (by decide +kernel) rfl
theorem q580 : Cond.instanceMethod yX3_telling ∈ lw_all := lw_mem (i := 599) (by decide +kernel) rfl
theorem q581 : Cond.code yX3_telling cX3_telling 4 (some .long) ∈ lw_all := lw_mem (i := 600) (by decide +kernel) rfl
theorem q582 : Cond.methodLink RL 64 yX3_sum ∈ lw_all := lw_mem (i := 601) (by decide +kernel) rfl
theorem q583 : Cond.instanceMethod yX3_sum ∈ lw_all := lw_mem (i := 602) (by decide +kernel) rfl
theorem q584 : Cond.selects RX3 yX3_sum yX3_sum ∈ lw_all := lw_mem (i := 603) (by decide +kernel) rfl
theorem q585 : Cond.code yX3_sum cX3_sum 5 (some .int) ∈ lw_all := lw_mem (i := 604) (by decide +kernel) rfl
theorem q586 : Cond.methodLink RL 68 yX3_turn ∈ lw_all := lw_mem (i := 605) (by decide +kernel) rfl
theorem q587 : Cond.instanceMethod yX3_turn ∈ lw_all := lw_mem (i := 606) (by decide +kernel) rfl
theorem q588 : Cond.selects RX3 yX3_turn yX3_turn ∈ lw_all := lw_mem (i := 607) (by decide +kernel) rfl
theorem q589 : Cond.code yX3_turn cX3_turn 7 (some .int) ∈ lw_all := lw_mem (i := 608) (by decide +kernel) rfl
theorem q590 : Cond.methodLink RX3 108 yX3_canBe ∈ lw_all := lw_mem (i := 609) (by decide +kernel) rfl
theorem q592 : Cond.instanceMethod yX3_canBe ∈ lw_all := lw_mem (i := 611) (by decide +kernel) rfl
theorem q593 : Cond.code yX3_canBe cX3_canBe 8 (some .boolean) ∈ lw_all := lw_mem (i := 612) (by decide +kernel) rfl
theorem q594 : Cond.methodLink RX3 97 yX3_isWhole ∈ lw_all := lw_mem (i := 613) (by decide +kernel) rfl
theorem q595 : Cond.static yX3_isWhole ∈ lw_all := lw_mem (i := 614) (by decide +kernel) rfl
theorem q596 : Cond.code yX3_isWhole cX3_isWhole 1 (some .boolean) ∈ lw_all := lw_mem (i := 615) (by decide +kernel) rfl
theorem q597 : Cond.methodLink RX3 100 yX3_fits ∈ lw_all := lw_mem (i := 616) (by decide +kernel) rfl
theorem q598 : Cond.static yX3_fits ∈ lw_all := lw_mem (i := 617) (by decide +kernel) rfl
theorem q599 : Cond.code yX3_fits cX3_fits 3 (some .boolean) ∈ lw_all := lw_mem (i := 618) (by decide +kernel) rfl
theorem q600 : Cond.methodLink RX3 104 yX3_isInLongs ∈ lw_all := lw_mem (i := 619) (by decide +kernel) rfl
theorem q601 : Cond.static yX3_isInLongs ∈ lw_all := lw_mem (i := 620) (by decide +kernel) rfl
theorem q602 : Cond.code yX3_isInLongs cX3_isInLongs 2 (some .boolean) ∈ lw_all := lw_mem (i := 621) (by decide +kernel) rfl
theorem q603 : Cond.constantDouble RX3 93 (14114281232179134464) ∈ lw_all := lw_mem (i := 622) (by decide +kernel) rfl
theorem q604 : Cond.constantDouble RX3 95 (4890909195324358656) ∈ lw_all := lw_mem (i := 623) (by decide +kernel) rfl
theorem q605 : Cond.methodLink RL 72 yX3_part ∈ lw_all := lw_mem (i := 624) (by decide +kernel) rfl
theorem q606 : Cond.instanceMethod yX3_part ∈ lw_all := lw_mem (i := 625) (by decide +kernel) rfl
theorem q607 : Cond.selects RX3 yX3_part yX3_part ∈ lw_all := lw_mem (i := 626) (by decide +kernel) rfl
theorem q608 : Cond.code yX3_part cX3_part 3 (some .int) ∈ lw_all := lw_mem (i := 627) (by decide +kernel) rfl
theorem q609 : Cond.methodLink RL 76 yX3_lay ∈ lw_all := lw_mem (i := 628) (by decide +kernel) rfl
theorem q610 : Cond.instanceMethod yX3_lay ∈ lw_all := lw_mem (i := 629) (by decide +kernel) rfl
theorem q611 : Cond.selects RX3 yX3_lay yX3_lay ∈ lw_all := lw_mem (i := 630) (by decide +kernel) rfl
theorem q612 : Cond.code yX3_lay cX3_lay 5 (some .int) ∈ lw_all := lw_mem (i := 631) (by decide +kernel) rfl
theorem q613 : Cond.methodLink RX3 114 yX3_takes ∈ lw_all := lw_mem (i := 632) (by decide +kernel) rfl
theorem q615 : Cond.instanceMethod yX3_takes ∈ lw_all := lw_mem (i := 634) (by decide +kernel) rfl
theorem q616 : Cond.code yX3_takes cX3_takes 4 (some .boolean) ∈ lw_all := lw_mem (i := 635) (by decide +kernel) rfl
theorem q617 : Cond.methodLink RL 80 yX3_weigh ∈ lw_all := lw_mem (i := 636) (by decide +kernel) rfl
theorem q618 : Cond.instanceMethod yX3_weigh ∈ lw_all := lw_mem (i := 637) (by decide +kernel) rfl
theorem q619 : Cond.selects RX3 yX3_weigh yX3_weigh ∈ lw_all := lw_mem (i := 638) (by decide +kernel) rfl
theorem q620 : Cond.code yX3_weigh cX3_weigh 5 (some .int) ∈ lw_all := lw_mem (i := 639) (by decide +kernel) rfl
theorem q621 : Cond.methodLink RX3 117 yX3_wayTo ∈ lw_all := lw_mem (i := 640) (by decide +kernel) rfl
theorem q623 : Cond.instanceMethod yX3_wayTo ∈ lw_all := lw_mem (i := 642) (by decide +kernel) rfl
theorem q624 : Cond.code yX3_wayTo cX3_wayTo 4 (some .int) ∈ lw_all := lw_mem (i := 643) (by decide +kernel) rfl
theorem q625 : Cond.methodLink RL 84 yX3_rigid ∈ lw_all := lw_mem (i := 644) (by decide +kernel) rfl
theorem q626 : Cond.instanceMethod yX3_rigid ∈ lw_all := lw_mem (i := 645) (by decide +kernel) rfl
theorem q627 : Cond.selects RX3 yX3_rigid yX3_rigid ∈ lw_all := lw_mem (i := 646) (by decide +kernel) rfl
theorem q628 : Cond.code yX3_rigid cX3_rigid 5 (some .int) ∈ lw_all := lw_mem (i := 647) (by decide +kernel) rfl
theorem q629 : Cond.methodLink RL 88 yX3_fault ∈ lw_all := lw_mem (i := 648) (by decide +kernel) rfl
theorem q630 : Cond.instanceMethod yX3_fault ∈ lw_all := lw_mem (i := 649) (by decide +kernel) rfl
theorem q631 : Cond.selects RX3 yX3_fault yX3_fault ∈ lw_all := lw_mem (i := 650) (by decide +kernel) rfl
theorem q632 : Cond.code yX3_fault cX3_fault 3 (some .int) ∈ lw_all := lw_mem (i := 651) (by decide +kernel) rfl
theorem q633 : Cond.methodLink RL 92 yX3_raise ∈ lw_all := lw_mem (i := 652) (by decide +kernel) rfl
theorem q634 : Cond.instanceMethod yX3_raise ∈ lw_all := lw_mem (i := 653) (by decide +kernel) rfl
theorem q635 : Cond.selects RX3 yX3_raise yX3_raise ∈ lw_all := lw_mem (i := 654) (by decide +kernel) rfl
theorem q636 : Cond.code yX3_raise cX3_raise 5 (some .int) ∈ lw_all := lw_mem (i := 655) (by decide +kernel) rfl
theorem q637 : Cond.methodLink RL 97 yX3_copy ∈ lw_all := lw_mem (i := 656) (by decide +kernel) rfl
theorem q638 : Cond.instanceMethod yX3_copy ∈ lw_all := lw_mem (i := 657) (by decide +kernel) rfl
theorem q639 : Cond.selects RX3 yX3_copy yX3_copy ∈ lw_all := lw_mem (i := 658) (by decide +kernel) rfl
theorem q640 : Cond.code yX3_copy cX3_copy 12 (some .int) ∈ lw_all := lw_mem (i := 659) (by decide +kernel) rfl
theorem q641 : Cond.methodLink RX3 124 yX3_reaches ∈ lw_all := lw_mem (i := 660) (by decide +kernel) rfl
theorem q642 : Cond.static yX3_reaches ∈ lw_all := lw_mem (i := 661) (by decide +kernel) rfl
theorem q643 : Cond.code yX3_reaches cX3_reaches 3 (some .boolean) ∈ lw_all := lw_mem (i := 662) (by decide +kernel) rfl
theorem q644 : Cond.methodLink RL 101 yX3_copied ∈ lw_all := lw_mem (i := 663) (by decide +kernel) rfl
theorem q645 : Cond.instanceMethod yX3_copied ∈ lw_all := lw_mem (i := 664) (by decide +kernel) rfl
theorem q646 : Cond.selects RX3 yX3_copied yX3_copied ∈ lw_all := lw_mem (i := 665) (by decide +kernel) rfl
theorem q647 : Cond.code yX3_copied cX3_copied 1 (some .int) ∈ lw_all := lw_mem (i := 666) (by decide +kernel) rfl
theorem q648 : Cond.methodLink RL 105 yX3_move ∈ lw_all := lw_mem (i := 667) (by decide +kernel) rfl
theorem q649 : Cond.instanceMethod yX3_move ∈ lw_all := lw_mem (i := 668) (by decide +kernel) rfl
theorem q650 : Cond.selects RX3 yX3_move yX3_move ∈ lw_all := lw_mem (i := 669) (by decide +kernel) rfl
theorem q651 : Cond.code yX3_move cX3_move 8 (some .int) ∈ lw_all := lw_mem (i := 670) (by decide +kernel) rfl
theorem q652 : Cond.constant RX3 127 (262143) ∈ lw_all := lw_mem (i := 671) (by decide +kernel) rfl
theorem q653 : Cond.methodLink RX3 128 yX3_take ∈ lw_all := lw_mem (i := 672) (by decide +kernel) rfl
theorem q655 : Cond.instanceMethod yX3_take ∈ lw_all := lw_mem (i := 674) (by decide +kernel) rfl
theorem q656 : Cond.code yX3_take cX3_take 4 none ∈ lw_all := lw_mem (i := 675) (by decide +kernel) rfl
theorem q657 : Cond.methodLink RL 109 yX3_like ∈ lw_all := lw_mem (i := 676) (by decide +kernel) rfl
theorem q658 : Cond.instanceMethod yX3_like ∈ lw_all := lw_mem (i := 677) (by decide +kernel) rfl
theorem q659 : Cond.selects RX3 yX3_like yX3_like ∈ lw_all := lw_mem (i := 678) (by decide +kernel) rfl
theorem q660 : Cond.code yX3_like cX3_like 6 (some .int) ∈ lw_all := lw_mem (i := 679) (by decide +kernel) rfl
theorem q661 : Cond.methodLink RL 113 yX3_told ∈ lw_all := lw_mem (i := 680) (by decide +kernel) rfl
theorem q662 : Cond.instanceMethod yX3_told ∈ lw_all := lw_mem (i := 681) (by decide +kernel) rfl
theorem q663 : Cond.selects RX3 yX3_told yX3_told ∈ lw_all := lw_mem (i := 682) (by decide +kernel) rfl
theorem q664 : Cond.code yX3_told cX3_told 7 (some .int) ∈ lw_all := lw_mem (i := 683) (by decide +kernel) rfl
theorem q665 : Cond.constantLong RL 43 (4294967295) ∈ lw_all := lw_mem (i := 684) (by decide +kernel) rfl
