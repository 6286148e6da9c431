/-! the links of the calls -/
set_option maxRecDepth 100000 in
theorem cw_X7_clear : Cond.code mX7_clear.1 mX7_clear.2.1 mX7_clear.2.2.1 mX7_clear.2.2.2 ∈ px_tbl := px_mem1 57 (by rfl) (by rfl)
set_option maxRecDepth 100000 in
theorem kl_X7_50 : px_kV RX7 50 mX7_clear 0 7 := ⟨px_mem1 54 (by decide +kernel) (by decide +kernel), px_mem1 55 (by decide +kernel) (by decide +kernel), px_mem1 56 (by decide +kernel) (by decide +kernel), px_mem1 2 (by decide +kernel) (by decide +kernel), cw_X7_clear, by decide, ⟨_, _, rfl⟩, by decide, by decide, by decide +kernel⟩
set_option maxRecDepth 100000 in
theorem cw_X0_clear : Cond.code mX0_clear.1 mX0_clear.2.1 mX0_clear.2.2.1 mX0_clear.2.2.2 ∈ px_tbl := px_mem1 61 (by rfl) (by rfl)
set_option maxRecDepth 100000 in
theorem kl_X7_75 : px_kV RX7 75 mX0_clear 0 0 := ⟨px_mem1 58 (by decide +kernel) (by decide +kernel), px_mem1 59 (by decide +kernel) (by decide +kernel), px_mem1 60 (by decide +kernel) (by decide +kernel), px_mem1 3 (by decide +kernel) (by decide +kernel), cw_X0_clear, by decide, ⟨_, _, rfl⟩, by decide, by decide, by decide +kernel⟩
set_option maxRecDepth 100000 in
theorem cw_X0_begin : Cond.code mX0_begin.1 mX0_begin.2.1 mX0_begin.2.2.1 mX0_begin.2.2.2 ∈ px_tbl := px_mem1 65 (by rfl) (by rfl)
set_option maxRecDepth 100000 in
theorem kl_X0_27 : px_kV RX0 27 mX0_begin 1 0 := ⟨px_mem1 62 (by decide +kernel) (by decide +kernel), px_mem1 63 (by decide +kernel) (by decide +kernel), px_mem1 64 (by decide +kernel) (by decide +kernel), px_mem1 3 (by decide +kernel) (by decide +kernel), cw_X0_begin, by decide, ⟨_, _, rfl⟩, by decide, by decide, by decide +kernel⟩
set_option maxRecDepth 100000 in
theorem cw_X0_add : Cond.code mX0_add.1 mX0_add.2.1 mX0_add.2.2.1 mX0_add.2.2.2 ∈ px_tbl := px_mem1 69 (by rfl) (by rfl)
set_option maxRecDepth 100000 in
theorem kl_X0_31 : px_kV RX0 31 mX0_add 2 0 := ⟨px_mem1 66 (by decide +kernel) (by decide +kernel), px_mem1 67 (by decide +kernel) (by decide +kernel), px_mem1 68 (by decide +kernel) (by decide +kernel), px_mem1 3 (by decide +kernel) (by decide +kernel), cw_X0_add, by decide, ⟨_, _, rfl⟩, by decide, by decide, by decide +kernel⟩
set_option maxRecDepth 100000 in
theorem cw_X3_withLetter : Cond.code mX3_withLetter.1 mX3_withLetter.2.1 mX3_withLetter.2.2.1 mX3_withLetter.2.2.2 ∈ px_tbl := px_mem1 231 (by rfl) (by rfl)
set_option maxRecDepth 100000 in
theorem kl_X3_45 : px_kS RX3 45 mX3_withLetter 2 := ⟨px_mem1 229 (by decide +kernel) (by decide +kernel), px_mem1 230 (by decide +kernel) (by decide +kernel), px_mem1 4 (by decide +kernel) (by decide +kernel), cw_X3_withLetter, by decide, by decide, by decide, by decide +kernel⟩
set_option maxRecDepth 100000 in
theorem cw_J9_max_7cf53 : Cond.code mJ9_max_7cf53.1 mJ9_max_7cf53.2.1 mJ9_max_7cf53.2.2.1 mJ9_max_7cf53.2.2.2 ∈ px_tbl := px_mem2 132 (by rfl) (by rfl)
set_option maxRecDepth 100000 in
theorem kl_X6_9 : px_kS RX6 9 mJ9_max_7cf53 2 := ⟨px_mem2 130 (by decide +kernel) (by decide +kernel), px_mem2 131 (by decide +kernel) (by decide +kernel), px_mem1 13 (by decide +kernel) (by decide +kernel), cw_J9_max_7cf53, by decide, by decide, by decide, by decide +kernel⟩
set_option maxRecDepth 100000 in
theorem cw_X8_beginText : Cond.code mX8_beginText.1 mX8_beginText.2.1 mX8_beginText.2.2.1 mX8_beginText.2.2.2 ∈ px_tbl := px_mem2 231 (by rfl) (by rfl)
set_option maxRecDepth 100000 in
theorem kl_X8_73 : px_kV RX8 73 mX8_beginText 0 8 := ⟨px_mem2 228 (by decide +kernel) (by decide +kernel), px_mem2 230 (by decide +kernel) (by decide +kernel), px_memS 0 (by decide +kernel) (by decide +kernel), px_mem1 1 (by decide +kernel) (by decide +kernel), cw_X8_beginText, by decide, ⟨_, _, rfl⟩, by decide, by decide, by decide +kernel⟩
set_option maxRecDepth 100000 in
theorem cw_X1_beginFirst : Cond.code mX1_beginFirst.1 mX1_beginFirst.2.1 mX1_beginFirst.2.2.1 mX1_beginFirst.2.2.2 ∈ px_tbl := px_mem2 235 (by rfl) (by rfl)
set_option maxRecDepth 100000 in
theorem kl_X8_316 : px_kV RX8 316 mX1_beginFirst 1 1 := ⟨px_mem2 232 (by decide +kernel) (by decide +kernel), px_mem2 233 (by decide +kernel) (by decide +kernel), px_mem2 234 (by decide +kernel) (by decide +kernel), px_mem1 11 (by decide +kernel) (by decide +kernel), cw_X1_beginFirst, by decide, ⟨_, _, rfl⟩, by decide, by decide, by decide +kernel⟩
set_option maxRecDepth 100000 in
theorem cw_X1_putToSleep : Cond.code mX1_putToSleep.1 mX1_putToSleep.2.1 mX1_putToSleep.2.2.1 mX1_putToSleep.2.2.2 ∈ px_tbl := px_mem2 239 (by rfl) (by rfl)
set_option maxRecDepth 100000 in
theorem kl_X1_34 : px_kV RX1 34 mX1_putToSleep 1 1 := ⟨px_mem2 236 (by decide +kernel) (by decide +kernel), px_mem2 238 (by decide +kernel) (by decide +kernel), px_memS 1 (by decide +kernel) (by decide +kernel), px_mem1 11 (by decide +kernel) (by decide +kernel), cw_X1_putToSleep, by decide, ⟨_, _, rfl⟩, by decide, by decide, by decide +kernel⟩
set_option maxRecDepth 100000 in
theorem cw_X7_asleepAt : Cond.code mX7_asleepAt.1 mX7_asleepAt.2.1 mX7_asleepAt.2.2.1 mX7_asleepAt.2.2.2 ∈ px_tbl := px_mem3 3 (by rfl) (by rfl)
set_option maxRecDepth 100000 in
theorem kl_X1_44 : px_kV RX1 44 mX7_asleepAt 2 7 := ⟨px_mem3 0 (by decide +kernel) (by decide +kernel), px_mem3 1 (by decide +kernel) (by decide +kernel), px_mem3 2 (by decide +kernel) (by decide +kernel), px_mem1 2 (by decide +kernel) (by decide +kernel), cw_X7_asleepAt, by decide, ⟨_, _, rfl⟩, by decide, by decide, by decide +kernel⟩
set_option maxRecDepth 100000 in
theorem cw_X8_feed : Cond.code mX8_feed.1 mX8_feed.2.1 mX8_feed.2.2.1 mX8_feed.2.2.2 ∈ px_tbl := px_mem3 47 (by rfl) (by rfl)
set_option maxRecDepth 100000 in
theorem kl_L_13 : px_kV RL 13 mX8_feed 5 8 := ⟨px_mem3 44 (by decide +kernel) (by decide +kernel), px_mem3 45 (by decide +kernel) (by decide +kernel), px_mem3 46 (by decide +kernel) (by decide +kernel), px_mem1 1 (by decide +kernel) (by decide +kernel), cw_X8_feed, by decide, ⟨_, _, rfl⟩, by decide, by decide, by decide +kernel⟩
set_option maxRecDepth 100000 in
theorem cw_X3_hasRoom : Cond.code mX3_hasRoom.1 mX3_hasRoom.2.1 mX3_hasRoom.2.2.1 mX3_hasRoom.2.2.2 ∈ px_tbl := px_mem3 51 (by rfl) (by rfl)
set_option maxRecDepth 100000 in
theorem kl_X8_76 : px_kV RX8 76 mX3_hasRoom 0 3 := ⟨px_mem3 48 (by decide +kernel) (by decide +kernel), px_mem3 49 (by decide +kernel) (by decide +kernel), px_mem3 50 (by decide +kernel) (by decide +kernel), px_mem1 4 (by decide +kernel) (by decide +kernel), cw_X3_hasRoom, by decide, ⟨_, _, rfl⟩, by decide, by decide, by decide +kernel⟩
set_option maxRecDepth 100000 in
theorem cw_X3_addFour : Cond.code mX3_addFour.1 mX3_addFour.2.1 mX3_addFour.2.2.1 mX3_addFour.2.2.2 ∈ px_tbl := px_mem3 55 (by rfl) (by rfl)
set_option maxRecDepth 100000 in
theorem kl_X8_80 : px_kV RX8 80 mX3_addFour 1 3 := ⟨px_mem3 52 (by decide +kernel) (by decide +kernel), px_mem3 53 (by decide +kernel) (by decide +kernel), px_mem3 54 (by decide +kernel) (by decide +kernel), px_mem1 4 (by decide +kernel) (by decide +kernel), cw_X3_addFour, by decide, ⟨_, _, rfl⟩, by decide, by decide, by decide +kernel⟩
set_option maxRecDepth 100000 in
theorem cw_X8_back : Cond.code mX8_back.1 mX8_back.2.1 mX8_back.2.2.1 mX8_back.2.2.2 ∈ px_tbl := px_mem3 59 (by rfl) (by rfl)
set_option maxRecDepth 100000 in
theorem kl_L_18 : px_kV RL 18 mX8_back 1 8 := ⟨px_mem3 56 (by decide +kernel) (by decide +kernel), px_mem3 57 (by decide +kernel) (by decide +kernel), px_mem3 58 (by decide +kernel) (by decide +kernel), px_mem1 1 (by decide +kernel) (by decide +kernel), cw_X8_back, by decide, ⟨_, _, rfl⟩, by decide, by decide, by decide +kernel⟩
set_option maxRecDepth 100000 in
theorem cw_X8_read : Cond.code mX8_read.1 mX8_read.2.1 mX8_read.2.2.1 mX8_read.2.2.2 ∈ px_tbl := px_mem3 63 (by rfl) (by rfl)
set_option maxRecDepth 100000 in
theorem kl_L_23 : px_kV RL 23 mX8_read 0 8 := ⟨px_mem3 60 (by decide +kernel) (by decide +kernel), px_mem3 61 (by decide +kernel) (by decide +kernel), px_mem3 62 (by decide +kernel) (by decide +kernel), px_mem1 1 (by decide +kernel) (by decide +kernel), cw_X8_read, by decide, ⟨_, _, rfl⟩, by decide, by decide, by decide +kernel⟩
set_option maxRecDepth 100000 in
theorem cw_X3_parse : Cond.code mX3_parse.1 mX3_parse.2.1 mX3_parse.2.2.1 mX3_parse.2.2.2 ∈ px_tbl := px_mem3 67 (by rfl) (by rfl)
set_option maxRecDepth 100000 in
theorem kl_X8_87 : px_kV RX8 87 mX3_parse 1 3 := ⟨px_mem3 64 (by decide +kernel) (by decide +kernel), px_mem3 65 (by decide +kernel) (by decide +kernel), px_mem3 66 (by decide +kernel) (by decide +kernel), px_mem1 4 (by decide +kernel) (by decide +kernel), cw_X3_parse, by decide, ⟨_, _, rfl⟩, by decide, by decide, by decide +kernel⟩
set_option maxRecDepth 100000 in
theorem kl_X3_55 : px_kV RX3 55 mX7_clear 0 7 := ⟨px_mem3 68 (by decide +kernel) (by decide +kernel), px_mem1 55 (by decide +kernel) (by decide +kernel), px_mem1 56 (by decide +kernel) (by decide +kernel), px_mem1 2 (by decide +kernel) (by decide +kernel), cw_X7_clear, by decide, ⟨_, _, rfl⟩, by decide, by decide, by decide +kernel⟩
set_option maxRecDepth 100000 in
theorem cw_X3_scanTape : Cond.code mX3_scanTape.1 mX3_scanTape.2.1 mX3_scanTape.2.2.1 mX3_scanTape.2.2.2 ∈ px_tbl := px_mem3 72 (by rfl) (by rfl)
set_option maxRecDepth 100000 in
theorem kl_X3_69 : px_kV RX3 69 mX3_scanTape 0 3 := ⟨px_mem3 69 (by decide +kernel) (by decide +kernel), px_mem3 71 (by decide +kernel) (by decide +kernel), px_memS 2 (by decide +kernel) (by decide +kernel), px_mem1 4 (by decide +kernel) (by decide +kernel), cw_X3_scanTape, by decide, ⟨_, _, rfl⟩, by decide, by decide, by decide +kernel⟩
set_option maxRecDepth 100000 in
theorem cw_X3_behindBlanks : Cond.code mX3_behindBlanks.1 mX3_behindBlanks.2.1 mX3_behindBlanks.2.2.1 mX3_behindBlanks.2.2.2 ∈ px_tbl := px_mem3 76 (by rfl) (by rfl)
set_option maxRecDepth 100000 in
theorem kl_X3_89 : px_kV RX3 89 mX3_behindBlanks 1 3 := ⟨px_mem3 73 (by decide +kernel) (by decide +kernel), px_mem3 75 (by decide +kernel) (by decide +kernel), px_memS 3 (by decide +kernel) (by decide +kernel), px_mem1 4 (by decide +kernel) (by decide +kernel), cw_X3_behindBlanks, by decide, ⟨_, _, rfl⟩, by decide, by decide, by decide +kernel⟩
set_option maxRecDepth 100000 in
theorem cw_X3_scanToken : Cond.code mX3_scanToken.1 mX3_scanToken.2.1 mX3_scanToken.2.2.1 mX3_scanToken.2.2.2 ∈ px_tbl := px_mem3 80 (by rfl) (by rfl)
set_option maxRecDepth 100000 in
theorem kl_X3_93 : px_kV RX3 93 mX3_scanToken 1 3 := ⟨px_mem3 77 (by decide +kernel) (by decide +kernel), px_mem3 79 (by decide +kernel) (by decide +kernel), px_memS 4 (by decide +kernel) (by decide +kernel), px_mem1 4 (by decide +kernel) (by decide +kernel), cw_X3_scanToken, by decide, ⟨_, _, rfl⟩, by decide, by decide, by decide +kernel⟩
set_option maxRecDepth 100000 in
theorem cw_X3_isLetter : Cond.code mX3_isLetter.1 mX3_isLetter.2.1 mX3_isLetter.2.2.1 mX3_isLetter.2.2.2 ∈ px_tbl := px_mem3 84 (by rfl) (by rfl)
set_option maxRecDepth 100000 in
theorem kl_X3_96 : px_kV RX3 96 mX3_isLetter 1 3 := ⟨px_mem3 81 (by decide +kernel) (by decide +kernel), px_mem3 83 (by decide +kernel) (by decide +kernel), px_memS 5 (by decide +kernel) (by decide +kernel), px_mem1 4 (by decide +kernel) (by decide +kernel), cw_X3_isLetter, by decide, ⟨_, _, rfl⟩, by decide, by decide, by decide +kernel⟩
set_option maxRecDepth 100000 in
theorem cw_X3_scanWord : Cond.code mX3_scanWord.1 mX3_scanWord.2.1 mX3_scanWord.2.2.1 mX3_scanWord.2.2.2 ∈ px_tbl := px_mem3 88 (by rfl) (by rfl)
set_option maxRecDepth 100000 in
theorem kl_X3_100 : px_kV RX3 100 mX3_scanWord 1 3 := ⟨px_mem3 85 (by decide +kernel) (by decide +kernel), px_mem3 87 (by decide +kernel) (by decide +kernel), px_memS 6 (by decide +kernel) (by decide +kernel), px_mem1 4 (by decide +kernel) (by decide +kernel), cw_X3_scanWord, by decide, ⟨_, _, rfl⟩, by decide, by decide, by decide +kernel⟩
set_option maxRecDepth 100000 in
theorem cw_X3_isDigit : Cond.code mX3_isDigit.1 mX3_isDigit.2.1 mX3_isDigit.2.2.1 mX3_isDigit.2.2.2 ∈ px_tbl := px_mem3 92 (by rfl) (by rfl)
set_option maxRecDepth 100000 in
theorem kl_X3_103 : px_kV RX3 103 mX3_isDigit 1 3 := ⟨px_mem3 89 (by decide +kernel) (by decide +kernel), px_mem3 91 (by decide +kernel) (by decide +kernel), px_memS 7 (by decide +kernel) (by decide +kernel), px_mem1 4 (by decide +kernel) (by decide +kernel), cw_X3_isDigit, by decide, ⟨_, _, rfl⟩, by decide, by decide, by decide +kernel⟩
set_option maxRecDepth 100000 in
theorem cw_X3_scanInt : Cond.code mX3_scanInt.1 mX3_scanInt.2.1 mX3_scanInt.2.2.1 mX3_scanInt.2.2.2 ∈ px_tbl := px_mem3 96 (by rfl) (by rfl)
set_option maxRecDepth 100000 in
theorem kl_X3_106 : px_kV RX3 106 mX3_scanInt 1 3 := ⟨px_mem3 93 (by decide +kernel) (by decide +kernel), px_mem3 95 (by decide +kernel) (by decide +kernel), px_memS 8 (by decide +kernel) (by decide +kernel), px_mem1 4 (by decide +kernel) (by decide +kernel), cw_X3_scanInt, by decide, ⟨_, _, rfl⟩, by decide, by decide, by decide +kernel⟩
set_option maxRecDepth 100000 in
theorem cw_X3_parseTell : Cond.code mX3_parseTell.1 mX3_parseTell.2.1 mX3_parseTell.2.2.1 mX3_parseTell.2.2.2 ∈ px_tbl := px_mem3 158 (by rfl) (by rfl)
set_option maxRecDepth 100000 in
theorem kl_X3_72 : px_kV RX3 72 mX3_parseTell 0 3 := ⟨px_mem3 155 (by decide +kernel) (by decide +kernel), px_mem3 157 (by decide +kernel) (by decide +kernel), px_memS 9 (by decide +kernel) (by decide +kernel), px_mem1 4 (by decide +kernel) (by decide +kernel), cw_X3_parseTell, by decide, ⟨_, _, rfl⟩, by decide, by decide, by decide +kernel⟩
set_option maxRecDepth 100000 in
theorem cw_X3_parseSleeper : Cond.code mX3_parseSleeper.1 mX3_parseSleeper.2.1 mX3_parseSleeper.2.2.1 mX3_parseSleeper.2.2.2 ∈ px_tbl := px_mem3 162 (by rfl) (by rfl)
set_option maxRecDepth 100000 in
theorem kl_X3_114 : px_kV RX3 114 mX3_parseSleeper 0 3 := ⟨px_mem3 159 (by decide +kernel) (by decide +kernel), px_mem3 161 (by decide +kernel) (by decide +kernel), px_memS 10 (by decide +kernel) (by decide +kernel), px_mem1 4 (by decide +kernel) (by decide +kernel), cw_X3_parseSleeper, by decide, ⟨_, _, rfl⟩, by decide, by decide, by decide +kernel⟩
set_option maxRecDepth 100000 in
theorem cw_X3_fail : Cond.code mX3_fail.1 mX3_fail.2.1 mX3_fail.2.2.1 mX3_fail.2.2.2 ∈ px_tbl := px_mem3 166 (by rfl) (by rfl)
set_option maxRecDepth 100000 in
theorem kl_X3_149 : px_kV RX3 149 mX3_fail 1 3 := ⟨px_mem3 163 (by decide +kernel) (by decide +kernel), px_mem3 165 (by decide +kernel) (by decide +kernel), px_memS 11 (by decide +kernel) (by decide +kernel), px_mem1 4 (by decide +kernel) (by decide +kernel), cw_X3_fail, by decide, ⟨_, _, rfl⟩, by decide, by decide, by decide +kernel⟩
set_option maxRecDepth 100000 in
theorem cw_X3_take : Cond.code mX3_take.1 mX3_take.2.1 mX3_take.2.2.1 mX3_take.2.2.2 ∈ px_tbl := px_mem3 170 (by rfl) (by rfl)
set_option maxRecDepth 100000 in
theorem kl_X3_130 : px_kV RX3 130 mX3_take 1 3 := ⟨px_mem3 167 (by decide +kernel) (by decide +kernel), px_mem3 169 (by decide +kernel) (by decide +kernel), px_memS 12 (by decide +kernel) (by decide +kernel), px_mem1 4 (by decide +kernel) (by decide +kernel), cw_X3_take, by decide, ⟨_, _, rfl⟩, by decide, by decide, by decide +kernel⟩
set_option maxRecDepth 100000 in
theorem cw_X3_takeNewName : Cond.code mX3_takeNewName.1 mX3_takeNewName.2.1 mX3_takeNewName.2.2.1 mX3_takeNewName.2.2.2 ∈ px_tbl := px_mem3 174 (by rfl) (by rfl)
set_option maxRecDepth 100000 in
theorem kl_X3_158 : px_kV RX3 158 mX3_takeNewName 0 3 := ⟨px_mem3 171 (by decide +kernel) (by decide +kernel), px_mem3 173 (by decide +kernel) (by decide +kernel), px_memS 13 (by decide +kernel) (by decide +kernel), px_mem1 4 (by decide +kernel) (by decide +kernel), cw_X3_takeNewName, by decide, ⟨_, _, rfl⟩, by decide, by decide, by decide +kernel⟩
set_option maxRecDepth 100000 in
theorem cw_X7_isTaken : Cond.code mX7_isTaken.1 mX7_isTaken.2.1 mX7_isTaken.2.2.1 mX7_isTaken.2.2.2 ∈ px_tbl := px_mem3 178 (by rfl) (by rfl)
set_option maxRecDepth 100000 in
theorem kl_X3_201 : px_kV RX3 201 mX7_isTaken 1 7 := ⟨px_mem3 175 (by decide +kernel) (by decide +kernel), px_mem3 176 (by decide +kernel) (by decide +kernel), px_mem3 177 (by decide +kernel) (by decide +kernel), px_mem1 2 (by decide +kernel) (by decide +kernel), cw_X7_isTaken, by decide, ⟨_, _, rfl⟩, by decide, by decide, by decide +kernel⟩
set_option maxRecDepth 100000 in
theorem cw_X7_sleeperNamed : Cond.code mX7_sleeperNamed.1 mX7_sleeperNamed.2.1 mX7_sleeperNamed.2.2.1 mX7_sleeperNamed.2.2.2 ∈ px_tbl := px_mem3 182 (by rfl) (by rfl)
set_option maxRecDepth 100000 in
theorem kl_X7_76 : px_kV RX7 76 mX7_sleeperNamed 1 7 := ⟨px_mem3 179 (by decide +kernel) (by decide +kernel), px_mem3 180 (by decide +kernel) (by decide +kernel), px_mem3 181 (by decide +kernel) (by decide +kernel), px_mem1 2 (by decide +kernel) (by decide +kernel), cw_X7_sleeperNamed, by decide, ⟨_, _, rfl⟩, by decide, by decide, by decide +kernel⟩
set_option maxRecDepth 100000 in
theorem cw_X3_noteLater : Cond.code mX3_noteLater.1 mX3_noteLater.2.1 mX3_noteLater.2.2.1 mX3_noteLater.2.2.2 ∈ px_tbl := px_mem3 186 (by rfl) (by rfl)
set_option maxRecDepth 100000 in
theorem kl_X3_79 : px_kV RX3 79 mX3_noteLater 2 3 := ⟨px_mem3 183 (by decide +kernel) (by decide +kernel), px_mem3 185 (by decide +kernel) (by decide +kernel), px_memS 14 (by decide +kernel) (by decide +kernel), px_mem1 4 (by decide +kernel) (by decide +kernel), cw_X3_noteLater, by decide, ⟨_, _, rfl⟩, by decide, by decide, by decide +kernel⟩
set_option maxRecDepth 100000 in
theorem cw_X3_takeInt : Cond.code mX3_takeInt.1 mX3_takeInt.2.1 mX3_takeInt.2.2.1 mX3_takeInt.2.2.2 ∈ px_tbl := px_mem3 190 (by rfl) (by rfl)
set_option maxRecDepth 100000 in
theorem kl_X3_133 : px_kV RX3 133 mX3_takeInt 2 3 := ⟨px_mem3 187 (by decide +kernel) (by decide +kernel), px_mem3 189 (by decide +kernel) (by decide +kernel), px_memS 15 (by decide +kernel) (by decide +kernel), px_mem1 4 (by decide +kernel) (by decide +kernel), cw_X3_takeInt, by decide, ⟨_, _, rfl⟩, by decide, by decide, by decide +kernel⟩
set_option maxRecDepth 100000 in
theorem cw_X3_parsePair : Cond.code mX3_parsePair.1 mX3_parsePair.2.1 mX3_parsePair.2.2.1 mX3_parsePair.2.2.2 ∈ px_tbl := px_mem3 194 (by rfl) (by rfl)
set_option maxRecDepth 100000 in
theorem kl_X3_117 : px_kV RX3 117 mX3_parsePair 0 3 := ⟨px_mem3 191 (by decide +kernel) (by decide +kernel), px_mem3 193 (by decide +kernel) (by decide +kernel), px_memS 16 (by decide +kernel) (by decide +kernel), px_mem1 4 (by decide +kernel) (by decide +kernel), cw_X3_parsePair, by decide, ⟨_, _, rfl⟩, by decide, by decide, by decide +kernel⟩
set_option maxRecDepth 100000 in
theorem cw_X3_takeSleeper : Cond.code mX3_takeSleeper.1 mX3_takeSleeper.2.1 mX3_takeSleeper.2.2.1 mX3_takeSleeper.2.2.2 ∈ px_tbl := px_mem3 198 (by rfl) (by rfl)
set_option maxRecDepth 100000 in
theorem kl_X3_192 : px_kV RX3 192 mX3_takeSleeper 0 3 := ⟨px_mem3 195 (by decide +kernel) (by decide +kernel), px_mem3 197 (by decide +kernel) (by decide +kernel), px_memS 17 (by decide +kernel) (by decide +kernel), px_mem1 4 (by decide +kernel) (by decide +kernel), cw_X3_takeSleeper, by decide, ⟨_, _, rfl⟩, by decide, by decide, by decide +kernel⟩
set_option maxRecDepth 100000 in
theorem kl_X3_205 : px_kV RX3 205 mX7_sleeperNamed 1 7 := ⟨px_mem3 199 (by decide +kernel) (by decide +kernel), px_mem3 180 (by decide +kernel) (by decide +kernel), px_mem3 181 (by decide +kernel) (by decide +kernel), px_mem1 2 (by decide +kernel) (by decide +kernel), cw_X7_sleeperNamed, by decide, ⟨_, _, rfl⟩, by decide, by decide, by decide +kernel⟩
set_option maxRecDepth 100000 in
theorem cw_X7_hasPair : Cond.code mX7_hasPair.1 mX7_hasPair.2.1 mX7_hasPair.2.2.1 mX7_hasPair.2.2.2 ∈ px_tbl := px_mem3 203 (by rfl) (by rfl)
set_option maxRecDepth 100000 in
theorem kl_X3_195 : px_kV RX3 195 mX7_hasPair 1 7 := ⟨px_mem3 200 (by decide +kernel) (by decide +kernel), px_mem3 201 (by decide +kernel) (by decide +kernel), px_mem3 202 (by decide +kernel) (by decide +kernel), px_mem1 2 (by decide +kernel) (by decide +kernel), cw_X7_hasPair, by decide, ⟨_, _, rfl⟩, by decide, by decide, by decide +kernel⟩
set_option maxRecDepth 100000 in
theorem cw_X3_parseCrosser : Cond.code mX3_parseCrosser.1 mX3_parseCrosser.2.1 mX3_parseCrosser.2.2.1 mX3_parseCrosser.2.2.2 ∈ px_tbl := px_mem3 207 (by rfl) (by rfl)
set_option maxRecDepth 100000 in
theorem kl_X3_120 : px_kV RX3 120 mX3_parseCrosser 0 3 := ⟨px_mem3 204 (by decide +kernel) (by decide +kernel), px_mem3 206 (by decide +kernel) (by decide +kernel), px_memS 18 (by decide +kernel) (by decide +kernel), px_mem1 4 (by decide +kernel) (by decide +kernel), cw_X3_parseCrosser, by decide, ⟨_, _, rfl⟩, by decide, by decide, by decide +kernel⟩
set_option maxRecDepth 100000 in
theorem cw_X3_parseLaw : Cond.code mX3_parseLaw.1 mX3_parseLaw.2.1 mX3_parseLaw.2.2.1 mX3_parseLaw.2.2.2 ∈ px_tbl := px_mem3 211 (by rfl) (by rfl)
set_option maxRecDepth 100000 in
theorem kl_X3_123 : px_kV RX3 123 mX3_parseLaw 1 3 := ⟨px_mem3 208 (by decide +kernel) (by decide +kernel), px_mem3 210 (by decide +kernel) (by decide +kernel), px_memS 19 (by decide +kernel) (by decide +kernel), px_mem1 4 (by decide +kernel) (by decide +kernel), cw_X3_parseLaw, by decide, ⟨_, _, rfl⟩, by decide, by decide, by decide +kernel⟩
set_option maxRecDepth 100000 in
theorem kl_X3_213 : px_kV RX3 213 mX0_begin 1 0 := ⟨px_mem3 212 (by decide +kernel) (by decide +kernel), px_mem1 63 (by decide +kernel) (by decide +kernel), px_mem1 64 (by decide +kernel) (by decide +kernel), px_mem1 3 (by decide +kernel) (by decide +kernel), cw_X0_begin, by decide, ⟨_, _, rfl⟩, by decide, by decide, by decide +kernel⟩
set_option maxRecDepth 100000 in
theorem cw_X3_sees : Cond.code mX3_sees.1 mX3_sees.2.1 mX3_sees.2.2.1 mX3_sees.2.2.2 ∈ px_tbl := px_mem3 216 (by rfl) (by rfl)
set_option maxRecDepth 100000 in
theorem kl_X3_218 : px_kV RX3 218 mX3_sees 1 3 := ⟨px_mem3 213 (by decide +kernel) (by decide +kernel), px_mem3 215 (by decide +kernel) (by decide +kernel), px_memS 20 (by decide +kernel) (by decide +kernel), px_mem1 4 (by decide +kernel) (by decide +kernel), cw_X3_sees, by decide, ⟨_, _, rfl⟩, by decide, by decide, by decide +kernel⟩
set_option maxRecDepth 100000 in
theorem cw_X3_parseSum : Cond.code mX3_parseSum.1 mX3_parseSum.2.1 mX3_parseSum.2.2.1 mX3_parseSum.2.2.2 ∈ px_tbl := px_mem3 220 (by rfl) (by rfl)
set_option maxRecDepth 100000 in
theorem kl_X3_221 : px_kV RX3 221 mX3_parseSum 1 3 := ⟨px_mem3 217 (by decide +kernel) (by decide +kernel), px_mem3 219 (by decide +kernel) (by decide +kernel), px_memS 21 (by decide +kernel) (by decide +kernel), px_mem1 4 (by decide +kernel) (by decide +kernel), cw_X3_parseSum, by decide, ⟨_, _, rfl⟩, by decide, by decide, by decide +kernel⟩
set_option maxRecDepth 100000 in
theorem cw_X3_parseProduct : Cond.code mX3_parseProduct.1 mX3_parseProduct.2.1 mX3_parseProduct.2.2.1 mX3_parseProduct.2.2.2 ∈ px_tbl := px_mem3 224 (by rfl) (by rfl)
set_option maxRecDepth 100000 in
theorem kl_X3_233 : px_kV RX3 233 mX3_parseProduct 1 3 := ⟨px_mem3 221 (by decide +kernel) (by decide +kernel), px_mem3 223 (by decide +kernel) (by decide +kernel), px_memS 22 (by decide +kernel) (by decide +kernel), px_mem1 4 (by decide +kernel) (by decide +kernel), cw_X3_parseProduct, by decide, ⟨_, _, rfl⟩, by decide, by decide, by decide +kernel⟩
set_option maxRecDepth 100000 in
theorem cw_X3_parseUnit : Cond.code mX3_parseUnit.1 mX3_parseUnit.2.1 mX3_parseUnit.2.2.1 mX3_parseUnit.2.2.2 ∈ px_tbl := px_mem3 228 (by rfl) (by rfl)
set_option maxRecDepth 100000 in
theorem kl_X3_236 : px_kV RX3 236 mX3_parseUnit 1 3 := ⟨px_mem3 225 (by decide +kernel) (by decide +kernel), px_mem3 227 (by decide +kernel) (by decide +kernel), px_memS 23 (by decide +kernel) (by decide +kernel), px_mem1 4 (by decide +kernel) (by decide +kernel), cw_X3_parseUnit, by decide, ⟨_, _, rfl⟩, by decide, by decide, by decide +kernel⟩
set_option maxRecDepth 100000 in
theorem kl_X3_227 : px_kV RX3 227 mX0_add 2 0 := ⟨px_mem3 229 (by decide +kernel) (by decide +kernel), px_mem1 67 (by decide +kernel) (by decide +kernel), px_mem1 68 (by decide +kernel) (by decide +kernel), px_mem1 3 (by decide +kernel) (by decide +kernel), cw_X0_add, by decide, ⟨_, _, rfl⟩, by decide, by decide, by decide +kernel⟩
set_option maxRecDepth 100000 in
theorem cw_X0_addTest : Cond.code mX0_addTest.1 mX0_addTest.2.1 mX0_addTest.2.2.1 mX0_addTest.2.2.2 ∈ px_tbl := px_mem3 233 (by rfl) (by rfl)
set_option maxRecDepth 100000 in
theorem kl_X3_224 : px_kV RX3 224 mX0_addTest 0 0 := ⟨px_mem3 230 (by decide +kernel) (by decide +kernel), px_mem3 231 (by decide +kernel) (by decide +kernel), px_mem3 232 (by decide +kernel) (by decide +kernel), px_mem1 3 (by decide +kernel) (by decide +kernel), cw_X0_addTest, by decide, ⟨_, _, rfl⟩, by decide, by decide, by decide +kernel⟩
set_option maxRecDepth 100000 in
theorem cw_X0_aim : Cond.code mX0_aim.1 mX0_aim.2.1 mX0_aim.2.2.1 mX0_aim.2.2.2 ∈ px_tbl := px_mem3 237 (by rfl) (by rfl)
set_option maxRecDepth 100000 in
theorem kl_X3_230 : px_kV RX3 230 mX0_aim 1 0 := ⟨px_mem3 234 (by decide +kernel) (by decide +kernel), px_mem3 235 (by decide +kernel) (by decide +kernel), px_mem3 236 (by decide +kernel) (by decide +kernel), px_mem1 3 (by decide +kernel) (by decide +kernel), cw_X0_aim, by decide, ⟨_, _, rfl⟩, by decide, by decide, by decide +kernel⟩
set_option maxRecDepth 100000 in
theorem cw_X3_parseNumber : Cond.code mX3_parseNumber.1 mX3_parseNumber.2.1 mX3_parseNumber.2.2.1 mX3_parseNumber.2.2.2 ∈ px_tbl := px_mem4 1 (by rfl) (by rfl)
set_option maxRecDepth 100000 in
theorem kl_X3_127 : px_kV RX3 127 mX3_parseNumber 1 3 := ⟨px_mem3 238 (by decide +kernel) (by decide +kernel), px_mem4 0 (by decide +kernel) (by decide +kernel), px_memS 24 (by decide +kernel) (by decide +kernel), px_mem1 4 (by decide +kernel) (by decide +kernel), cw_X3_parseNumber, by decide, ⟨_, _, rfl⟩, by decide, by decide, by decide +kernel⟩
set_option maxRecDepth 100000 in
theorem cw_X7_someLieOutside : Cond.code mX7_someLieOutside.1 mX7_someLieOutside.2.1 mX7_someLieOutside.2.2.1 mX7_someLieOutside.2.2.2 ∈ px_tbl := px_mem4 5 (by rfl) (by rfl)
set_option maxRecDepth 100000 in
theorem kl_X3_75 : px_kV RX3 75 mX7_someLieOutside 0 7 := ⟨px_mem4 2 (by decide +kernel) (by decide +kernel), px_mem4 3 (by decide +kernel) (by decide +kernel), px_mem4 4 (by decide +kernel) (by decide +kernel), px_mem1 2 (by decide +kernel) (by decide +kernel), cw_X7_someLieOutside, by decide, ⟨_, _, rfl⟩, by decide, by decide, by decide +kernel⟩
set_option maxRecDepth 100000 in
theorem cw_X8_place : Cond.code mX8_place.1 mX8_place.2.1 mX8_place.2.2.1 mX8_place.2.2.2 ∈ px_tbl := px_mem4 9 (by rfl) (by rfl)
set_option maxRecDepth 100000 in
theorem kl_L_28 : px_kV RL 28 mX8_place 0 8 := ⟨px_mem4 6 (by decide +kernel) (by decide +kernel), px_mem4 7 (by decide +kernel) (by decide +kernel), px_mem4 8 (by decide +kernel) (by decide +kernel), px_mem1 1 (by decide +kernel) (by decide +kernel), cw_X8_place, by decide, ⟨_, _, rfl⟩, by decide, by decide, by decide +kernel⟩
set_option maxRecDepth 100000 in
theorem cw_X8_sleeper : Cond.code mX8_sleeper.1 mX8_sleeper.2.1 mX8_sleeper.2.2.1 mX8_sleeper.2.2.2 ∈ px_tbl := px_mem4 13 (by rfl) (by rfl)
set_option maxRecDepth 100000 in
theorem kl_L_32 : px_kV RL 32 mX8_sleeper 2 8 := ⟨px_mem4 10 (by decide +kernel) (by decide +kernel), px_mem4 11 (by decide +kernel) (by decide +kernel), px_mem4 12 (by decide +kernel) (by decide +kernel), px_mem1 1 (by decide +kernel) (by decide +kernel), cw_X8_sleeper, by decide, ⟨_, _, rfl⟩, by decide, by decide, by decide +kernel⟩
set_option maxRecDepth 100000 in
theorem cw_X8_isSleeper : Cond.code mX8_isSleeper.1 mX8_isSleeper.2.1 mX8_isSleeper.2.2.1 mX8_isSleeper.2.2.2 ∈ px_tbl := px_mem4 17 (by rfl) (by rfl)
set_option maxRecDepth 100000 in
theorem kl_X8_94 : px_kV RX8 94 mX8_isSleeper 1 8 := ⟨px_mem4 14 (by decide +kernel) (by decide +kernel), px_mem4 16 (by decide +kernel) (by decide +kernel), px_memS 25 (by decide +kernel) (by decide +kernel), px_mem1 1 (by decide +kernel) (by decide +kernel), cw_X8_isSleeper, by decide, ⟨_, _, rfl⟩, by decide, by decide, by decide +kernel⟩
set_option maxRecDepth 100000 in
theorem cw_X4_held : Cond.code mX4_held.1 mX4_held.2.1 mX4_held.2.2.1 mX4_held.2.2.2 ∈ px_tbl := px_mem4 21 (by rfl) (by rfl)
set_option maxRecDepth 100000 in
theorem kl_X8_114 : px_kV RX8 114 mX4_held 2 4 := ⟨px_mem4 18 (by decide +kernel) (by decide +kernel), px_mem4 19 (by decide +kernel) (by decide +kernel), px_mem4 20 (by decide +kernel) (by decide +kernel), px_mem1 9 (by decide +kernel) (by decide +kernel), cw_X4_held, by decide, ⟨_, _, rfl⟩, by decide, by decide, by decide +kernel⟩
set_option maxRecDepth 100000 in
theorem cw_X4_lookAsItLies : Cond.code mX4_lookAsItLies.1 mX4_lookAsItLies.2.1 mX4_lookAsItLies.2.2.1 mX4_lookAsItLies.2.2.2 ∈ px_tbl := px_mem4 25 (by rfl) (by rfl)
set_option maxRecDepth 100000 in
theorem kl_X4_105 : px_kV RX4 105 mX4_lookAsItLies 2 4 := ⟨px_mem4 22 (by decide +kernel) (by decide +kernel), px_mem4 24 (by decide +kernel) (by decide +kernel), px_memS 26 (by decide +kernel) (by decide +kernel), px_mem1 9 (by decide +kernel) (by decide +kernel), cw_X4_lookAsItLies, by decide, ⟨_, _, rfl⟩, by decide, by decide, by decide +kernel⟩
set_option maxRecDepth 100000 in
theorem cw_X1_asleepOn : Cond.code mX1_asleepOn.1 mX1_asleepOn.2.1 mX1_asleepOn.2.2.1 mX1_asleepOn.2.2.2 ∈ px_tbl := px_mem4 29 (by rfl) (by rfl)
set_option maxRecDepth 100000 in
theorem kl_X4_51 : px_kV RX4 51 mX1_asleepOn 1 1 := ⟨px_mem4 26 (by decide +kernel) (by decide +kernel), px_mem4 27 (by decide +kernel) (by decide +kernel), px_mem4 28 (by decide +kernel) (by decide +kernel), px_mem1 11 (by decide +kernel) (by decide +kernel), cw_X1_asleepOn, by decide, ⟨_, _, rfl⟩, by decide, by decide, by decide +kernel⟩
set_option maxRecDepth 100000 in
theorem cw_J6_bitCount_0f7a4 : Cond.code mJ6_bitCount_0f7a4.1 mJ6_bitCount_0f7a4.2.1 mJ6_bitCount_0f7a4.2.2.1 mJ6_bitCount_0f7a4.2.2.2 ∈ px_tbl := px_mem4 32 (by rfl) (by rfl)
set_option maxRecDepth 100000 in
theorem kl_X4_72 : px_kS RX4 72 mJ6_bitCount_0f7a4 1 := ⟨px_mem4 30 (by decide +kernel) (by decide +kernel), px_mem4 31 (by decide +kernel) (by decide +kernel), px_mem1 17 (by decide +kernel) (by decide +kernel), cw_J6_bitCount_0f7a4, by decide, by decide, by decide, by decide +kernel⟩
set_option maxRecDepth 100000 in
theorem cw_X4_lookAtSpan : Cond.code mX4_lookAtSpan.1 mX4_lookAtSpan.2.1 mX4_lookAtSpan.2.2.1 mX4_lookAtSpan.2.2.2 ∈ px_tbl := px_mem4 39 (by rfl) (by rfl)
set_option maxRecDepth 100000 in
theorem kl_X4_77 : px_kV RX4 77 mX4_lookAtSpan 3 4 := ⟨px_mem4 36 (by decide +kernel) (by decide +kernel), px_mem4 38 (by decide +kernel) (by decide +kernel), px_memS 27 (by decide +kernel) (by decide +kernel), px_mem1 9 (by decide +kernel) (by decide +kernel), cw_X4_lookAtSpan, by decide, ⟨_, _, rfl⟩, by decide, by decide, by decide +kernel⟩
set_option maxRecDepth 100000 in
theorem cw_X4_lookAtSleeper : Cond.code mX4_lookAtSleeper.1 mX4_lookAtSleeper.2.1 mX4_lookAtSleeper.2.2.1 mX4_lookAtSleeper.2.2.2 ∈ px_tbl := px_mem4 43 (by rfl) (by rfl)
set_option maxRecDepth 100000 in
theorem kl_X4_84 : px_kV RX4 84 mX4_lookAtSleeper 2 4 := ⟨px_mem4 40 (by decide +kernel) (by decide +kernel), px_mem4 42 (by decide +kernel) (by decide +kernel), px_memS 28 (by decide +kernel) (by decide +kernel), px_mem1 9 (by decide +kernel) (by decide +kernel), cw_X4_lookAtSleeper, by decide, ⟨_, _, rfl⟩, by decide, by decide, by decide +kernel⟩
set_option maxRecDepth 100000 in
theorem cw_X0_value : Cond.code mX0_value.1 mX0_value.2.1 mX0_value.2.2.1 mX0_value.2.2.2 ∈ px_tbl := px_mem4 47 (by rfl) (by rfl)
set_option maxRecDepth 100000 in
theorem kl_X4_92 : px_kV RX4 92 mX0_value 2 0 := ⟨px_mem4 44 (by decide +kernel) (by decide +kernel), px_mem4 45 (by decide +kernel) (by decide +kernel), px_mem4 46 (by decide +kernel) (by decide +kernel), px_mem1 3 (by decide +kernel) (by decide +kernel), cw_X0_value, by decide, ⟨_, _, rfl⟩, by decide, by decide, by decide +kernel⟩
set_option maxRecDepth 100000 in
theorem cw_X8_within : Cond.code mX8_within.1 mX8_within.2.1 mX8_within.2.2.1 mX8_within.2.2.2 ∈ px_tbl := px_mem4 50 (by rfl) (by rfl)
set_option maxRecDepth 100000 in
theorem kl_X4_98 : px_kN RX4 "SleepBridge" 98 mX8_within 3 := ⟨by decide +kernel, px_mem4 49 (by decide +kernel) (by decide +kernel), px_mem1 1 (by decide +kernel) (by decide +kernel), cw_X8_within, by decide, by decide, by decide, by decide +kernel⟩
set_option maxRecDepth 100000 in
theorem cw_X8_crosser : Cond.code mX8_crosser.1 mX8_crosser.2.1 mX8_crosser.2.2.1 mX8_crosser.2.2.2 ∈ px_tbl := px_mem4 54 (by rfl) (by rfl)
set_option maxRecDepth 100000 in
theorem kl_L_37 : px_kV RL 37 mX8_crosser 2 8 := ⟨px_mem4 51 (by decide +kernel) (by decide +kernel), px_mem4 52 (by decide +kernel) (by decide +kernel), px_mem4 53 (by decide +kernel) (by decide +kernel), px_mem1 1 (by decide +kernel) (by decide +kernel), cw_X8_crosser, by decide, ⟨_, _, rfl⟩, by decide, by decide, by decide +kernel⟩
set_option maxRecDepth 100000 in
theorem cw_X8_isCrosser : Cond.code mX8_isCrosser.1 mX8_isCrosser.2.1 mX8_isCrosser.2.2.1 mX8_isCrosser.2.2.2 ∈ px_tbl := px_mem4 58 (by rfl) (by rfl)
set_option maxRecDepth 100000 in
theorem kl_X8_118 : px_kV RX8 118 mX8_isCrosser 1 8 := ⟨px_mem4 55 (by decide +kernel) (by decide +kernel), px_mem4 57 (by decide +kernel) (by decide +kernel), px_memS 29 (by decide +kernel) (by decide +kernel), px_mem1 1 (by decide +kernel) (by decide +kernel), cw_X8_isCrosser, by decide, ⟨_, _, rfl⟩, by decide, by decide, by decide +kernel⟩
set_option maxRecDepth 100000 in
theorem cw_X8_span : Cond.code mX8_span.1 mX8_span.2.1 mX8_span.2.2.1 mX8_span.2.2.2 ∈ px_tbl := px_mem4 62 (by rfl) (by rfl)
set_option maxRecDepth 100000 in
theorem kl_L_41 : px_kV RL 41 mX8_span 2 8 := ⟨px_mem4 59 (by decide +kernel) (by decide +kernel), px_mem4 60 (by decide +kernel) (by decide +kernel), px_mem4 61 (by decide +kernel) (by decide +kernel), px_mem1 1 (by decide +kernel) (by decide +kernel), cw_X8_span, by decide, ⟨_, _, rfl⟩, by decide, by decide, by decide +kernel⟩
set_option maxRecDepth 100000 in
theorem cw_X8_isSpan : Cond.code mX8_isSpan.1 mX8_isSpan.2.1 mX8_isSpan.2.2.1 mX8_isSpan.2.2.2 ∈ px_tbl := px_mem4 66 (by rfl) (by rfl)
set_option maxRecDepth 100000 in
theorem kl_X8_136 : px_kV RX8 136 mX8_isSpan 1 8 := ⟨px_mem4 63 (by decide +kernel) (by decide +kernel), px_mem4 65 (by decide +kernel) (by decide +kernel), px_memS 30 (by decide +kernel) (by decide +kernel), px_mem1 1 (by decide +kernel) (by decide +kernel), cw_X8_isSpan, by decide, ⟨_, _, rfl⟩, by decide, by decide, by decide +kernel⟩
set_option maxRecDepth 100000 in
theorem cw_X4_borne : Cond.code mX4_borne.1 mX4_borne.2.1 mX4_borne.2.2.1 mX4_borne.2.2.2 ∈ px_tbl := px_mem4 70 (by rfl) (by rfl)
set_option maxRecDepth 100000 in
theorem kl_X8_139 : px_kV RX8 139 mX4_borne 2 4 := ⟨px_mem4 67 (by decide +kernel) (by decide +kernel), px_mem4 68 (by decide +kernel) (by decide +kernel), px_mem4 69 (by decide +kernel) (by decide +kernel), px_mem1 9 (by decide +kernel) (by decide +kernel), cw_X4_borne, by decide, ⟨_, _, rfl⟩, by decide, by decide, by decide +kernel⟩
set_option maxRecDepth 100000 in
theorem cw_X4_borneBy : Cond.code mX4_borneBy.1 mX4_borneBy.2.1 mX4_borneBy.2.2.1 mX4_borneBy.2.2.2 ∈ px_tbl := px_mem4 74 (by rfl) (by rfl)
set_option maxRecDepth 100000 in
theorem kl_X4_58 : px_kV RX4 58 mX4_borneBy 3 4 := ⟨px_mem4 71 (by decide +kernel) (by decide +kernel), px_mem4 72 (by decide +kernel) (by decide +kernel), px_mem4 73 (by decide +kernel) (by decide +kernel), px_mem1 9 (by decide +kernel) (by decide +kernel), cw_X4_borneBy, by decide, ⟨_, _, rfl⟩, by decide, by decide, by decide +kernel⟩
set_option maxRecDepth 100000 in
theorem cw_X4_pairsIn : Cond.code mX4_pairsIn.1 mX4_pairsIn.2.1 mX4_pairsIn.2.2.1 mX4_pairsIn.2.2.2 ∈ px_tbl := px_mem4 78 (by rfl) (by rfl)
set_option maxRecDepth 100000 in
theorem kl_X4_55 : px_kV RX4 55 mX4_pairsIn 1 4 := ⟨px_mem4 75 (by decide +kernel) (by decide +kernel), px_mem4 76 (by decide +kernel) (by decide +kernel), px_mem4 77 (by decide +kernel) (by decide +kernel), px_mem1 9 (by decide +kernel) (by decide +kernel), cw_X4_pairsIn, by decide, ⟨_, _, rfl⟩, by decide, by decide, by decide +kernel⟩
set_option maxRecDepth 100000 in
theorem cw_X4_loadOn : Cond.code mX4_loadOn.1 mX4_loadOn.2.1 mX4_loadOn.2.2.1 mX4_loadOn.2.2.2 ∈ px_tbl := px_mem4 82 (by rfl) (by rfl)
set_option maxRecDepth 100000 in
theorem kl_X8_142 : px_kV RX8 142 mX4_loadOn 2 4 := ⟨px_mem4 79 (by decide +kernel) (by decide +kernel), px_mem4 80 (by decide +kernel) (by decide +kernel), px_mem4 81 (by decide +kernel) (by decide +kernel), px_mem1 9 (by decide +kernel) (by decide +kernel), cw_X4_loadOn, by decide, ⟨_, _, rfl⟩, by decide, by decide, by decide +kernel⟩
set_option maxRecDepth 100000 in
theorem cw_X4_lyingOn : Cond.code mX4_lyingOn.1 mX4_lyingOn.2.1 mX4_lyingOn.2.2.1 mX4_lyingOn.2.2.2 ∈ px_tbl := px_mem4 86 (by rfl) (by rfl)
set_option maxRecDepth 100000 in
theorem kl_X8_145 : px_kV RX8 145 mX4_lyingOn 2 4 := ⟨px_mem4 83 (by decide +kernel) (by decide +kernel), px_mem4 84 (by decide +kernel) (by decide +kernel), px_mem4 85 (by decide +kernel) (by decide +kernel), px_mem1 9 (by decide +kernel) (by decide +kernel), cw_X4_lyingOn, by decide, ⟨_, _, rfl⟩, by decide, by decide, by decide +kernel⟩
set_option maxRecDepth 100000 in
theorem cw_X4_crossersAt : Cond.code mX4_crossersAt.1 mX4_crossersAt.2.1 mX4_crossersAt.2.2.1 mX4_crossersAt.2.2.2 ∈ px_tbl := px_mem4 90 (by rfl) (by rfl)
set_option maxRecDepth 100000 in
theorem kl_X8_148 : px_kV RX8 148 mX4_crossersAt 2 4 := ⟨px_mem4 87 (by decide +kernel) (by decide +kernel), px_mem4 88 (by decide +kernel) (by decide +kernel), px_mem4 89 (by decide +kernel) (by decide +kernel), px_mem1 9 (by decide +kernel) (by decide +kernel), cw_X4_crossersAt, by decide, ⟨_, _, rfl⟩, by decide, by decide, by decide +kernel⟩
set_option maxRecDepth 100000 in
theorem cw_X8_tells : Cond.code mX8_tells.1 mX8_tells.2.1 mX8_tells.2.2.1 mX8_tells.2.2.2 ∈ px_tbl := px_mem4 94 (by rfl) (by rfl)
set_option maxRecDepth 100000 in
theorem kl_L_45 : px_kV RL 45 mX8_tells 2 8 := ⟨px_mem4 91 (by decide +kernel) (by decide +kernel), px_mem4 92 (by decide +kernel) (by decide +kernel), px_mem4 93 (by decide +kernel) (by decide +kernel), px_mem1 1 (by decide +kernel) (by decide +kernel), cw_X8_tells, by decide, ⟨_, _, rfl⟩, by decide, by decide, by decide +kernel⟩
set_option maxRecDepth 100000 in
theorem cw_X4_wakingOf : Cond.code mX4_wakingOf.1 mX4_wakingOf.2.1 mX4_wakingOf.2.2.1 mX4_wakingOf.2.2.2 ∈ px_tbl := px_mem4 98 (by rfl) (by rfl)
set_option maxRecDepth 100000 in
theorem kl_X8_151 : px_kV RX8 151 mX4_wakingOf 2 4 := ⟨px_mem4 95 (by decide +kernel) (by decide +kernel), px_mem4 96 (by decide +kernel) (by decide +kernel), px_mem4 97 (by decide +kernel) (by decide +kernel), px_mem1 9 (by decide +kernel) (by decide +kernel), cw_X4_wakingOf, by decide, ⟨_, _, rfl⟩, by decide, by decide, by decide +kernel⟩
set_option maxRecDepth 100000 in
theorem cw_X4_waking : Cond.code mX4_waking.1 mX4_waking.2.1 mX4_waking.2.2.1 mX4_waking.2.2.2 ∈ px_tbl := px_mem4 102 (by rfl) (by rfl)
set_option maxRecDepth 100000 in
theorem kl_X4_108 : px_kV RX4 108 mX4_waking 0 4 := ⟨px_mem4 99 (by decide +kernel) (by decide +kernel), px_mem4 101 (by decide +kernel) (by decide +kernel), px_memS 31 (by decide +kernel) (by decide +kernel), px_mem1 9 (by decide +kernel) (by decide +kernel), cw_X4_waking, by decide, ⟨_, _, rfl⟩, by decide, by decide, by decide +kernel⟩
set_option maxRecDepth 100000 in
theorem cw_X4_deepeningOf : Cond.code mX4_deepeningOf.1 mX4_deepeningOf.2.1 mX4_deepeningOf.2.2.1 mX4_deepeningOf.2.2.2 ∈ px_tbl := px_mem4 106 (by rfl) (by rfl)
set_option maxRecDepth 100000 in
theorem kl_X8_154 : px_kV RX8 154 mX4_deepeningOf 2 4 := ⟨px_mem4 103 (by decide +kernel) (by decide +kernel), px_mem4 104 (by decide +kernel) (by decide +kernel), px_mem4 105 (by decide +kernel) (by decide +kernel), px_mem1 9 (by decide +kernel) (by decide +kernel), cw_X4_deepeningOf, by decide, ⟨_, _, rfl⟩, by decide, by decide, by decide +kernel⟩
set_option maxRecDepth 100000 in
theorem cw_X4_deepening : Cond.code mX4_deepening.1 mX4_deepening.2.1 mX4_deepening.2.2.1 mX4_deepening.2.2.2 ∈ px_tbl := px_mem4 110 (by rfl) (by rfl)
set_option maxRecDepth 100000 in
theorem kl_X4_112 : px_kV RX4 112 mX4_deepening 0 4 := ⟨px_mem4 107 (by decide +kernel) (by decide +kernel), px_mem4 109 (by decide +kernel) (by decide +kernel), px_memS 32 (by decide +kernel) (by decide +kernel), px_mem1 9 (by decide +kernel) (by decide +kernel), cw_X4_deepening, by decide, ⟨_, _, rfl⟩, by decide, by decide, by decide +kernel⟩
set_option maxRecDepth 100000 in
theorem cw_X8_dreams : Cond.code mX8_dreams.1 mX8_dreams.2.1 mX8_dreams.2.2.1 mX8_dreams.2.2.2 ∈ px_tbl := px_mem4 114 (by rfl) (by rfl)
set_option maxRecDepth 100000 in
theorem kl_L_49 : px_kV RL 49 mX8_dreams 1 8 := ⟨px_mem4 111 (by decide +kernel) (by decide +kernel), px_mem4 112 (by decide +kernel) (by decide +kernel), px_mem4 113 (by decide +kernel) (by decide +kernel), px_mem1 1 (by decide +kernel) (by decide +kernel), cw_X8_dreams, by decide, ⟨_, _, rfl⟩, by decide, by decide, by decide +kernel⟩
set_option maxRecDepth 100000 in
theorem kl_X8_157 : px_kV RX8 157 mX1_asleepOn 1 1 := ⟨px_mem4 115 (by decide +kernel) (by decide +kernel), px_mem4 27 (by decide +kernel) (by decide +kernel), px_mem4 28 (by decide +kernel) (by decide +kernel), px_mem1 11 (by decide +kernel) (by decide +kernel), cw_X1_asleepOn, by decide, ⟨_, _, rfl⟩, by decide, by decide, by decide +kernel⟩
set_option maxRecDepth 100000 in
theorem kl_X8_161 : px_kV RX8 161 mX4_pairsIn 1 4 := ⟨px_mem4 116 (by decide +kernel) (by decide +kernel), px_mem4 76 (by decide +kernel) (by decide +kernel), px_mem4 77 (by decide +kernel) (by decide +kernel), px_mem1 9 (by decide +kernel) (by decide +kernel), cw_X4_pairsIn, by decide, ⟨_, _, rfl⟩, by decide, by decide, by decide +kernel⟩
set_option maxRecDepth 100000 in
theorem cw_X8_send : Cond.code mX8_send.1 mX8_send.2.1 mX8_send.2.2.1 mX8_send.2.2.2 ∈ px_tbl := px_mem4 120 (by rfl) (by rfl)
set_option maxRecDepth 100000 in
theorem kl_L_53 : px_kV RL 53 mX8_send 1 8 := ⟨px_mem4 117 (by decide +kernel) (by decide +kernel), px_mem4 118 (by decide +kernel) (by decide +kernel), px_mem4 119 (by decide +kernel) (by decide +kernel), px_mem1 1 (by decide +kernel) (by decide +kernel), cw_X8_send, by decide, ⟨_, _, rfl⟩, by decide, by decide, by decide +kernel⟩
set_option maxRecDepth 100000 in
theorem cw_X8_remember : Cond.code mX8_remember.1 mX8_remember.2.1 mX8_remember.2.2.1 mX8_remember.2.2.2 ∈ px_tbl := px_mem4 124 (by rfl) (by rfl)
set_option maxRecDepth 100000 in
theorem kl_X8_164 : px_kV RX8 164 mX8_remember 0 8 := ⟨px_mem4 121 (by decide +kernel) (by decide +kernel), px_mem4 123 (by decide +kernel) (by decide +kernel), px_memS 33 (by decide +kernel) (by decide +kernel), px_mem1 1 (by decide +kernel) (by decide +kernel), cw_X8_remember, by decide, ⟨_, _, rfl⟩, by decide, by decide, by decide +kernel⟩
set_option maxRecDepth 100000 in
theorem cw_X6_store : Cond.code mX6_store.1 mX6_store.2.1 mX6_store.2.2.1 mX6_store.2.2.2 ∈ px_tbl := px_mem4 128 (by rfl) (by rfl)
set_option maxRecDepth 100000 in
theorem kl_X8_279 : px_kV RX8 279 mX6_store 2 6 := ⟨px_mem4 125 (by decide +kernel) (by decide +kernel), px_mem4 126 (by decide +kernel) (by decide +kernel), px_mem4 127 (by decide +kernel) (by decide +kernel), px_mem1 12 (by decide +kernel) (by decide +kernel), cw_X6_store, by decide, ⟨_, _, rfl⟩, by decide, by decide, by decide +kernel⟩
set_option maxRecDepth 100000 in
theorem cw_X6_has : Cond.code mX6_has.1 mX6_has.2.1 mX6_has.2.2.1 mX6_has.2.2.2 ∈ px_tbl := px_mem4 132 (by rfl) (by rfl)
set_option maxRecDepth 100000 in
theorem kl_X6_23 : px_kV RX6 23 mX6_has 1 6 := ⟨px_mem4 129 (by decide +kernel) (by decide +kernel), px_mem4 131 (by decide +kernel) (by decide +kernel), px_memS 34 (by decide +kernel) (by decide +kernel), px_mem1 12 (by decide +kernel) (by decide +kernel), cw_X6_has, by decide, ⟨_, _, rfl⟩, by decide, by decide, by decide +kernel⟩
set_option maxRecDepth 100000 in
theorem cw_J9_min_7cf53 : Cond.code mJ9_min_7cf53.1 mJ9_min_7cf53.2.1 mJ9_min_7cf53.2.2.1 mJ9_min_7cf53.2.2.2 ∈ px_tbl := px_mem3 116 (by rfl) (by rfl)
set_option maxRecDepth 100000 in
theorem kl_X8_319 : px_kS RX8 319 mJ9_min_7cf53 2 := ⟨px_mem4 136 (by decide +kernel) (by decide +kernel), px_mem3 115 (by decide +kernel) (by decide +kernel), px_mem1 13 (by decide +kernel) (by decide +kernel), cw_J9_min_7cf53, by decide, by decide, by decide, by decide +kernel⟩
set_option maxRecDepth 100000 in
theorem cw_X8_lay : Cond.code mX8_lay.1 mX8_lay.2.1 mX8_lay.2.2.1 mX8_lay.2.2.2 ∈ px_tbl := px_mem4 140 (by rfl) (by rfl)
set_option maxRecDepth 100000 in
theorem kl_L_58 : px_kV RL 58 mX8_lay 2 8 := ⟨px_mem4 137 (by decide +kernel) (by decide +kernel), px_mem4 138 (by decide +kernel) (by decide +kernel), px_mem4 139 (by decide +kernel) (by decide +kernel), px_mem1 1 (by decide +kernel) (by decide +kernel), cw_X8_lay, by decide, ⟨_, _, rfl⟩, by decide, by decide, by decide +kernel⟩
set_option maxRecDepth 100000 in
theorem cw_X8_lull : Cond.code mX8_lull.1 mX8_lull.2.1 mX8_lull.2.2.1 mX8_lull.2.2.2 ∈ px_tbl := px_mem4 144 (by rfl) (by rfl)
set_option maxRecDepth 100000 in
theorem kl_L_63 : px_kV RL 63 mX8_lull 1 8 := ⟨px_mem4 141 (by decide +kernel) (by decide +kernel), px_mem4 142 (by decide +kernel) (by decide +kernel), px_mem4 143 (by decide +kernel) (by decide +kernel), px_mem1 1 (by decide +kernel) (by decide +kernel), cw_X8_lull, by decide, ⟨_, _, rfl⟩, by decide, by decide, by decide +kernel⟩
set_option maxRecDepth 100000 in
theorem kl_X8_173 : px_kS RX8 173 mJ9_max_7cf53 2 := ⟨px_mem4 145 (by decide +kernel) (by decide +kernel), px_mem2 131 (by decide +kernel) (by decide +kernel), px_mem1 13 (by decide +kernel) (by decide +kernel), cw_J9_max_7cf53, by decide, by decide, by decide, by decide +kernel⟩
set_option maxRecDepth 100000 in
theorem cw_X8_hours : Cond.code mX8_hours.1 mX8_hours.2.1 mX8_hours.2.2.1 mX8_hours.2.2.2 ∈ px_tbl := px_mem4 149 (by rfl) (by rfl)
set_option maxRecDepth 100000 in
theorem kl_L_67 : px_kV RL 67 mX8_hours 1 8 := ⟨px_mem4 146 (by decide +kernel) (by decide +kernel), px_mem4 147 (by decide +kernel) (by decide +kernel), px_mem4 148 (by decide +kernel) (by decide +kernel), px_mem1 1 (by decide +kernel) (by decide +kernel), cw_X8_hours, by decide, ⟨_, _, rfl⟩, by decide, by decide, by decide +kernel⟩
set_option maxRecDepth 100000 in
theorem cw_X4_passHours : Cond.code mX4_passHours.1 mX4_passHours.2.1 mX4_passHours.2.2.1 mX4_passHours.2.2.2 ∈ px_tbl := px_mem4 153 (by rfl) (by rfl)
set_option maxRecDepth 100000 in
theorem kl_X8_182 : px_kV RX8 182 mX4_passHours 4 4 := ⟨px_mem4 150 (by decide +kernel) (by decide +kernel), px_mem4 151 (by decide +kernel) (by decide +kernel), px_mem4 152 (by decide +kernel) (by decide +kernel), px_mem1 9 (by decide +kernel) (by decide +kernel), cw_X4_passHours, by decide, ⟨_, _, rfl⟩, by decide, by decide, by decide +kernel⟩
set_option maxRecDepth 100000 in
theorem cw_X4_sleepOn : Cond.code mX4_sleepOn.1 mX4_sleepOn.2.1 mX4_sleepOn.2.2.1 mX4_sleepOn.2.2.2 ∈ px_tbl := px_mem4 157 (by rfl) (by rfl)
set_option maxRecDepth 100000 in
theorem kl_X4_127 : px_kV RX4 127 mX4_sleepOn 3 4 := ⟨px_mem4 154 (by decide +kernel) (by decide +kernel), px_mem4 156 (by decide +kernel) (by decide +kernel), px_memS 35 (by decide +kernel) (by decide +kernel), px_mem1 9 (by decide +kernel) (by decide +kernel), cw_X4_sleepOn, by decide, ⟨_, _, rfl⟩, by decide, by decide, by decide +kernel⟩
set_option maxRecDepth 100000 in
theorem cw_X4_lotOf100 : Cond.code mX4_lotOf100.1 mX4_lotOf100.2.1 mX4_lotOf100.2.2.1 mX4_lotOf100.2.2.2 ∈ px_tbl := px_mem4 160 (by rfl) (by rfl)
set_option maxRecDepth 100000 in
theorem kl_X4_144 : px_kS RX4 144 mX4_lotOf100 2 := ⟨px_mem4 158 (by decide +kernel) (by decide +kernel), px_mem4 159 (by decide +kernel) (by decide +kernel), px_mem1 9 (by decide +kernel) (by decide +kernel), cw_X4_lotOf100, by decide, by decide, by decide, by decide +kernel⟩
set_option maxRecDepth 100000 in
theorem cw_X4_stirred : Cond.code mX4_stirred.1 mX4_stirred.2.1 mX4_stirred.2.2.1 mX4_stirred.2.2.2 ∈ px_tbl := px_mem4 163 (by rfl) (by rfl)
set_option maxRecDepth 100000 in
theorem kl_X4_147 : px_kS RX4 147 mX4_stirred 2 := ⟨px_mem4 161 (by decide +kernel) (by decide +kernel), px_mem4 162 (by decide +kernel) (by decide +kernel), px_mem1 9 (by decide +kernel) (by decide +kernel), cw_X4_stirred, by decide, by decide, by decide, by decide +kernel⟩
set_option maxRecDepth 100000 in
theorem kl_X4_134 : px_kV RX4 134 mX7_asleepAt 2 7 := ⟨px_mem4 165 (by decide +kernel) (by decide +kernel), px_mem3 1 (by decide +kernel) (by decide +kernel), px_mem3 2 (by decide +kernel) (by decide +kernel), px_mem1 2 (by decide +kernel) (by decide +kernel), cw_X7_asleepAt, by decide, ⟨_, _, rfl⟩, by decide, by decide, by decide +kernel⟩
set_option maxRecDepth 100000 in
theorem cw_X4_letSpansBreak : Cond.code mX4_letSpansBreak.1 mX4_letSpansBreak.2.1 mX4_letSpansBreak.2.2.1 mX4_letSpansBreak.2.2.2 ∈ px_tbl := px_mem4 169 (by rfl) (by rfl)
set_option maxRecDepth 100000 in
theorem kl_X4_137 : px_kV RX4 137 mX4_letSpansBreak 1 4 := ⟨px_mem4 166 (by decide +kernel) (by decide +kernel), px_mem4 168 (by decide +kernel) (by decide +kernel), px_memS 36 (by decide +kernel) (by decide +kernel), px_mem1 9 (by decide +kernel) (by decide +kernel), cw_X4_letSpansBreak, by decide, ⟨_, _, rfl⟩, by decide, by decide, by decide +kernel⟩
set_option maxRecDepth 100000 in
theorem kl_X4_151 : px_kV RX4 151 mX4_loadOn 2 4 := ⟨px_mem4 170 (by decide +kernel) (by decide +kernel), px_mem4 80 (by decide +kernel) (by decide +kernel), px_mem4 81 (by decide +kernel) (by decide +kernel), px_mem1 9 (by decide +kernel) (by decide +kernel), cw_X4_loadOn, by decide, ⟨_, _, rfl⟩, by decide, by decide, by decide +kernel⟩
set_option maxRecDepth 100000 in
theorem kl_X4_62 : px_kV RX4 62 mX4_borne 2 4 := ⟨px_mem4 171 (by decide +kernel) (by decide +kernel), px_mem4 68 (by decide +kernel) (by decide +kernel), px_mem4 69 (by decide +kernel) (by decide +kernel), px_mem1 9 (by decide +kernel) (by decide +kernel), cw_X4_borne, by decide, ⟨_, _, rfl⟩, by decide, by decide, by decide +kernel⟩
set_option maxRecDepth 100000 in
theorem cw_X4_letCrossersGo : Cond.code mX4_letCrossersGo.1 mX4_letCrossersGo.2.1 mX4_letCrossersGo.2.2.1 mX4_letCrossersGo.2.2.2 ∈ px_tbl := px_mem4 175 (by rfl) (by rfl)
set_option maxRecDepth 100000 in
theorem kl_X4_141 : px_kV RX4 141 mX4_letCrossersGo 1 4 := ⟨px_mem4 172 (by decide +kernel) (by decide +kernel), px_mem4 174 (by decide +kernel) (by decide +kernel), px_memS 37 (by decide +kernel) (by decide +kernel), px_mem1 9 (by decide +kernel) (by decide +kernel), cw_X4_letCrossersGo, by decide, ⟨_, _, rfl⟩, by decide, by decide, by decide +kernel⟩
set_option maxRecDepth 100000 in
theorem cw_X8_night : Cond.code mX8_night.1 mX8_night.2.1 mX8_night.2.2.1 mX8_night.2.2.2 ∈ px_tbl := px_mem4 179 (by rfl) (by rfl)
set_option maxRecDepth 100000 in
theorem kl_L_71 : px_kV RL 71 mX8_night 0 8 := ⟨px_mem4 176 (by decide +kernel) (by decide +kernel), px_mem4 177 (by decide +kernel) (by decide +kernel), px_mem4 178 (by decide +kernel) (by decide +kernel), px_mem1 1 (by decide +kernel) (by decide +kernel), cw_X8_night, by decide, ⟨_, _, rfl⟩, by decide, by decide, by decide +kernel⟩
set_option maxRecDepth 100000 in
theorem cw_X1_beginNext : Cond.code mX1_beginNext.1 mX1_beginNext.2.1 mX1_beginNext.2.2.1 mX1_beginNext.2.2.2 ∈ px_tbl := px_mem4 183 (by rfl) (by rfl)
set_option maxRecDepth 100000 in
theorem kl_X8_186 : px_kV RX8 186 mX1_beginNext 1 1 := ⟨px_mem4 180 (by decide +kernel) (by decide +kernel), px_mem4 181 (by decide +kernel) (by decide +kernel), px_mem4 182 (by decide +kernel) (by decide +kernel), px_mem1 11 (by decide +kernel) (by decide +kernel), cw_X1_beginNext, by decide, ⟨_, _, rfl⟩, by decide, by decide, by decide +kernel⟩
set_option maxRecDepth 100000 in
theorem cw_X8_undo : Cond.code mX8_undo.1 mX8_undo.2.1 mX8_undo.2.2.1 mX8_undo.2.2.2 ∈ px_tbl := px_mem4 187 (by rfl) (by rfl)
set_option maxRecDepth 100000 in
theorem kl_L_75 : px_kV RL 75 mX8_undo 0 8 := ⟨px_mem4 184 (by decide +kernel) (by decide +kernel), px_mem4 185 (by decide +kernel) (by decide +kernel), px_mem4 186 (by decide +kernel) (by decide +kernel), px_mem1 1 (by decide +kernel) (by decide +kernel), cw_X8_undo, by decide, ⟨_, _, rfl⟩, by decide, by decide, by decide +kernel⟩
set_option maxRecDepth 100000 in
theorem cw_X6_fetch : Cond.code mX6_fetch.1 mX6_fetch.2.1 mX6_fetch.2.2.1 mX6_fetch.2.2.2 ∈ px_tbl := px_mem4 191 (by rfl) (by rfl)
set_option maxRecDepth 100000 in
theorem kl_X8_198 : px_kV RX8 198 mX6_fetch 2 6 := ⟨px_mem4 188 (by decide +kernel) (by decide +kernel), px_mem4 189 (by decide +kernel) (by decide +kernel), px_mem4 190 (by decide +kernel) (by decide +kernel), px_mem1 12 (by decide +kernel) (by decide +kernel), cw_X6_fetch, by decide, ⟨_, _, rfl⟩, by decide, by decide, by decide +kernel⟩
set_option maxRecDepth 100000 in
theorem cw_X8_then : Cond.code mX8_then.1 mX8_then.2.1 mX8_then.2.2.1 mX8_then.2.2.2 ∈ px_tbl := px_mem4 195 (by rfl) (by rfl)
set_option maxRecDepth 100000 in
theorem kl_L_80 : px_kV RL 80 mX8_then 4 8 := ⟨px_mem4 192 (by decide +kernel) (by decide +kernel), px_mem4 193 (by decide +kernel) (by decide +kernel), px_mem4 194 (by decide +kernel) (by decide +kernel), px_mem1 1 (by decide +kernel) (by decide +kernel), cw_X8_then, by decide, ⟨_, _, rfl⟩, by decide, by decide, by decide +kernel⟩
set_option maxRecDepth 100000 in
theorem cw_X1_copy : Cond.code mX1_copy.1 mX1_copy.2.1 mX1_copy.2.2.1 mX1_copy.2.2.2 ∈ px_tbl := px_mem4 199 (by rfl) (by rfl)
set_option maxRecDepth 100000 in
theorem kl_X8_202 : px_kV RX8 202 mX1_copy 1 1 := ⟨px_mem4 196 (by decide +kernel) (by decide +kernel), px_mem4 197 (by decide +kernel) (by decide +kernel), px_mem4 198 (by decide +kernel) (by decide +kernel), px_mem1 11 (by decide +kernel) (by decide +kernel), cw_X1_copy, by decide, ⟨_, _, rfl⟩, by decide, by decide, by decide +kernel⟩
set_option maxRecDepth 100000 in
theorem kl_X8_206 : px_kS RX8 206 mJ6_bitCount_0f7a4 1 := ⟨px_mem4 201 (by decide +kernel) (by decide +kernel), px_mem4 31 (by decide +kernel) (by decide +kernel), px_mem1 17 (by decide +kernel) (by decide +kernel), cw_J6_bitCount_0f7a4, by decide, by decide, by decide, by decide +kernel⟩
set_option maxRecDepth 100000 in
theorem cw_X4_leastBorne : Cond.code mX4_leastBorne.1 mX4_leastBorne.2.1 mX4_leastBorne.2.2.1 mX4_leastBorne.2.2.2 ∈ px_tbl := px_mem4 205 (by rfl) (by rfl)
set_option maxRecDepth 100000 in
theorem kl_X8_214 : px_kV RX8 214 mX4_leastBorne 1 4 := ⟨px_mem4 202 (by decide +kernel) (by decide +kernel), px_mem4 203 (by decide +kernel) (by decide +kernel), px_mem4 204 (by decide +kernel) (by decide +kernel), px_mem1 9 (by decide +kernel) (by decide +kernel), cw_X4_leastBorne, by decide, ⟨_, _, rfl⟩, by decide, by decide, by decide +kernel⟩
set_option maxRecDepth 100000 in
theorem kl_X4_66 : px_kS RX4 66 mJ9_min_7cf53 2 := ⟨px_mem4 206 (by decide +kernel) (by decide +kernel), px_mem3 115 (by decide +kernel) (by decide +kernel), px_mem1 13 (by decide +kernel) (by decide +kernel), cw_J9_min_7cf53, by decide, by decide, by decide, by decide +kernel⟩
set_option maxRecDepth 100000 in
theorem cw_X8_weakest : Cond.code mX8_weakest.1 mX8_weakest.2.1 mX8_weakest.2.2.1 mX8_weakest.2.2.2 ∈ px_tbl := px_mem4 210 (by rfl) (by rfl)
set_option maxRecDepth 100000 in
theorem kl_L_85 : px_kV RL 85 mX8_weakest 1 8 := ⟨px_mem4 207 (by decide +kernel) (by decide +kernel), px_mem4 208 (by decide +kernel) (by decide +kernel), px_mem4 209 (by decide +kernel) (by decide +kernel), px_mem1 1 (by decide +kernel) (by decide +kernel), cw_X8_weakest, by decide, ⟨_, _, rfl⟩, by decide, by decide, by decide +kernel⟩
set_option maxRecDepth 100000 in
theorem cw_X2_findRows : Cond.code mX2_findRows.1 mX2_findRows.2.1 mX2_findRows.2.2.1 mX2_findRows.2.2.2 ∈ px_tbl := px_mem4 214 (by rfl) (by rfl)
set_option maxRecDepth 100000 in
theorem kl_X8_218 : px_kV RX8 218 mX2_findRows 1 2 := ⟨px_mem4 211 (by decide +kernel) (by decide +kernel), px_mem4 212 (by decide +kernel) (by decide +kernel), px_mem4 213 (by decide +kernel) (by decide +kernel), px_mem1 10 (by decide +kernel) (by decide +kernel), cw_X2_findRows, by decide, ⟨_, _, rfl⟩, by decide, by decide, by decide +kernel⟩
set_option maxRecDepth 100000 in
theorem kl_X2_68 : px_kV RX2 68 mX4_borneBy 3 4 := ⟨px_mem4 215 (by decide +kernel) (by decide +kernel), px_mem4 72 (by decide +kernel) (by decide +kernel), px_mem4 73 (by decide +kernel) (by decide +kernel), px_mem1 9 (by decide +kernel) (by decide +kernel), cw_X4_borneBy, by decide, ⟨_, _, rfl⟩, by decide, by decide, by decide +kernel⟩
set_option maxRecDepth 100000 in
theorem cw_X2_tryRows : Cond.code mX2_tryRows.1 mX2_tryRows.2.1 mX2_tryRows.2.2.1 mX2_tryRows.2.2.2 ∈ px_tbl := px_mem4 219 (by rfl) (by rfl)
set_option maxRecDepth 100000 in
theorem kl_X2_75 : px_kV RX2 75 mX2_tryRows 2 2 := ⟨px_mem4 216 (by decide +kernel) (by decide +kernel), px_mem4 218 (by decide +kernel) (by decide +kernel), px_memS 38 (by decide +kernel) (by decide +kernel), px_mem1 10 (by decide +kernel) (by decide +kernel), cw_X2_tryRows, by decide, ⟨_, _, rfl⟩, by decide, by decide, by decide +kernel⟩
set_option maxRecDepth 100000 in
theorem cw_X2_weighRow : Cond.code mX2_weighRow.1 mX2_weighRow.2.1 mX2_weighRow.2.2.1 mX2_weighRow.2.2.2 ∈ px_tbl := px_mem4 223 (by rfl) (by rfl)
set_option maxRecDepth 100000 in
theorem kl_X2_82 : px_kV RX2 82 mX2_weighRow 0 2 := ⟨px_mem4 220 (by decide +kernel) (by decide +kernel), px_mem4 222 (by decide +kernel) (by decide +kernel), px_memS 39 (by decide +kernel) (by decide +kernel), px_mem1 10 (by decide +kernel) (by decide +kernel), cw_X2_weighRow, by decide, ⟨_, _, rfl⟩, by decide, by decide, by decide +kernel⟩
set_option maxRecDepth 100000 in
theorem kl_X2_85 : px_kS RX2 85 mJ9_min_7cf53 2 := ⟨px_mem4 224 (by decide +kernel) (by decide +kernel), px_mem3 115 (by decide +kernel) (by decide +kernel), px_mem1 13 (by decide +kernel) (by decide +kernel), cw_J9_min_7cf53, by decide, by decide, by decide, by decide +kernel⟩
set_option maxRecDepth 100000 in
theorem cw_X8_better : Cond.code mX8_better.1 mX8_better.2.1 mX8_better.2.2.1 mX8_better.2.2.2 ∈ px_tbl := px_mem4 229 (by rfl) (by rfl)
set_option maxRecDepth 100000 in
theorem kl_L_89 : px_kV RL 89 mX8_better 1 8 := ⟨px_mem4 226 (by decide +kernel) (by decide +kernel), px_mem4 227 (by decide +kernel) (by decide +kernel), px_mem4 228 (by decide +kernel) (by decide +kernel), px_mem1 1 (by decide +kernel) (by decide +kernel), cw_X8_better, by decide, ⟨_, _, rfl⟩, by decide, by decide, by decide +kernel⟩
set_option maxRecDepth 100000 in
theorem cw_X2_findMove : Cond.code mX2_findMove.1 mX2_findMove.2.1 mX2_findMove.2.2.1 mX2_findMove.2.2.2 ∈ px_tbl := px_mem4 233 (by rfl) (by rfl)
set_option maxRecDepth 100000 in
theorem kl_X8_224 : px_kV RX8 224 mX2_findMove 1 2 := ⟨px_mem4 230 (by decide +kernel) (by decide +kernel), px_mem4 231 (by decide +kernel) (by decide +kernel), px_mem4 232 (by decide +kernel) (by decide +kernel), px_mem1 10 (by decide +kernel) (by decide +kernel), cw_X2_findMove, by decide, ⟨_, _, rfl⟩, by decide, by decide, by decide +kernel⟩
set_option maxRecDepth 100000 in
theorem kl_X2_97 : px_kV RX2 97 mX1_copy 1 1 := ⟨px_mem4 234 (by decide +kernel) (by decide +kernel), px_mem4 197 (by decide +kernel) (by decide +kernel), px_mem4 198 (by decide +kernel) (by decide +kernel), px_mem1 11 (by decide +kernel) (by decide +kernel), cw_X1_copy, by decide, ⟨_, _, rfl⟩, by decide, by decide, by decide +kernel⟩
set_option maxRecDepth 100000 in
theorem kl_X2_104 : px_kV RX2 104 mX4_leastBorne 1 4 := ⟨px_mem4 235 (by decide +kernel) (by decide +kernel), px_mem4 203 (by decide +kernel) (by decide +kernel), px_mem4 204 (by decide +kernel) (by decide +kernel), px_mem1 9 (by decide +kernel) (by decide +kernel), cw_X4_leastBorne, by decide, ⟨_, _, rfl⟩, by decide, by decide, by decide +kernel⟩
set_option maxRecDepth 100000 in
theorem cw_X8_cheap : Cond.code mX8_cheap.1 mX8_cheap.2.1 mX8_cheap.2.2.1 mX8_cheap.2.2.2 ∈ px_tbl := px_mem4 239 (by rfl) (by rfl)
set_option maxRecDepth 100000 in
theorem kl_L_93 : px_kV RL 93 mX8_cheap 2 8 := ⟨px_mem4 236 (by decide +kernel) (by decide +kernel), px_mem4 237 (by decide +kernel) (by decide +kernel), px_mem4 238 (by decide +kernel) (by decide +kernel), px_mem1 1 (by decide +kernel) (by decide +kernel), cw_X8_cheap, by decide, ⟨_, _, rfl⟩, by decide, by decide, by decide +kernel⟩
set_option maxRecDepth 100000 in
theorem cw_X2_findCheapest : Cond.code mX2_findCheapest.1 mX2_findCheapest.2.1 mX2_findCheapest.2.2.1 mX2_findCheapest.2.2.2 ∈ px_tbl := px_mem5 3 (by rfl) (by rfl)
set_option maxRecDepth 100000 in
theorem kl_X8_237 : px_kV RX8 237 mX2_findCheapest 2 2 := ⟨px_mem5 0 (by decide +kernel) (by decide +kernel), px_mem5 1 (by decide +kernel) (by decide +kernel), px_mem5 2 (by decide +kernel) (by decide +kernel), px_mem1 10 (by decide +kernel) (by decide +kernel), cw_X2_findCheapest, by decide, ⟨_, _, rfl⟩, by decide, by decide, by decide +kernel⟩
set_option maxRecDepth 100000 in
theorem cw_X7_wagesOf : Cond.code mX7_wagesOf.1 mX7_wagesOf.2.1 mX7_wagesOf.2.2.1 mX7_wagesOf.2.2.2 ∈ px_tbl := px_mem5 7 (by rfl) (by rfl)
set_option maxRecDepth 100000 in
theorem kl_X2_114 : px_kV RX2 114 mX7_wagesOf 1 7 := ⟨px_mem5 4 (by decide +kernel) (by decide +kernel), px_mem5 5 (by decide +kernel) (by decide +kernel), px_mem5 6 (by decide +kernel) (by decide +kernel), px_mem1 2 (by decide +kernel) (by decide +kernel), cw_X7_wagesOf, by decide, ⟨_, _, rfl⟩, by decide, by decide, by decide +kernel⟩
set_option maxRecDepth 100000 in
theorem cw_X8_order : Cond.code mX8_order.1 mX8_order.2.1 mX8_order.2.2.1 mX8_order.2.2.2 ∈ px_tbl := px_mem5 11 (by rfl) (by rfl)
set_option maxRecDepth 100000 in
theorem kl_L_97 : px_kV RL 97 mX8_order 1 8 := ⟨px_mem5 8 (by decide +kernel) (by decide +kernel), px_mem5 9 (by decide +kernel) (by decide +kernel), px_mem5 10 (by decide +kernel) (by decide +kernel), px_mem1 1 (by decide +kernel) (by decide +kernel), cw_X8_order, by decide, ⟨_, _, rfl⟩, by decide, by decide, by decide +kernel⟩
set_option maxRecDepth 100000 in
theorem cw_X2_findOrder : Cond.code mX2_findOrder.1 mX2_findOrder.2.1 mX2_findOrder.2.2.1 mX2_findOrder.2.2.2 ∈ px_tbl := px_mem5 15 (by rfl) (by rfl)
set_option maxRecDepth 100000 in
theorem kl_X8_244 : px_kV RX8 244 mX2_findOrder 1 2 := ⟨px_mem5 12 (by decide +kernel) (by decide +kernel), px_mem5 13 (by decide +kernel) (by decide +kernel), px_mem5 14 (by decide +kernel) (by decide +kernel), px_mem1 10 (by decide +kernel) (by decide +kernel), cw_X2_findOrder, by decide, ⟨_, _, rfl⟩, by decide, by decide, by decide +kernel⟩
set_option maxRecDepth 100000 in
theorem kl_X2_124 : px_kV RX2 124 mX6_store 2 6 := ⟨px_mem5 16 (by decide +kernel) (by decide +kernel), px_mem4 126 (by decide +kernel) (by decide +kernel), px_mem4 127 (by decide +kernel) (by decide +kernel), px_mem1 12 (by decide +kernel) (by decide +kernel), cw_X6_store, by decide, ⟨_, _, rfl⟩, by decide, by decide, by decide +kernel⟩
set_option maxRecDepth 100000 in
theorem kl_X2_128 : px_kV RX2 128 mX4_crossersAt 2 4 := ⟨px_mem5 17 (by decide +kernel) (by decide +kernel), px_mem4 88 (by decide +kernel) (by decide +kernel), px_mem4 89 (by decide +kernel) (by decide +kernel), px_mem1 9 (by decide +kernel) (by decide +kernel), cw_X4_crossersAt, by decide, ⟨_, _, rfl⟩, by decide, by decide, by decide +kernel⟩
set_option maxRecDepth 100000 in
theorem cw_X2_tryOrders : Cond.code mX2_tryOrders.1 mX2_tryOrders.2.1 mX2_tryOrders.2.2.1 mX2_tryOrders.2.2.2 ∈ px_tbl := px_mem5 21 (by rfl) (by rfl)
set_option maxRecDepth 100000 in
theorem kl_X2_132 : px_kV RX2 132 mX2_tryOrders 3 2 := ⟨px_mem5 18 (by decide +kernel) (by decide +kernel), px_mem5 20 (by decide +kernel) (by decide +kernel), px_memS 40 (by decide +kernel) (by decide +kernel), px_mem1 10 (by decide +kernel) (by decide +kernel), cw_X2_tryOrders, by decide, ⟨_, _, rfl⟩, by decide, by decide, by decide +kernel⟩
set_option maxRecDepth 100000 in
theorem kl_X2_136 : px_kV RX2 136 mX6_fetch 2 6 := ⟨px_mem5 22 (by decide +kernel) (by decide +kernel), px_mem4 189 (by decide +kernel) (by decide +kernel), px_mem4 190 (by decide +kernel) (by decide +kernel), px_mem1 12 (by decide +kernel) (by decide +kernel), cw_X6_fetch, by decide, ⟨_, _, rfl⟩, by decide, by decide, by decide +kernel⟩
set_option maxRecDepth 100000 in
theorem cw_X4_someAreOnTheWay : Cond.code mX4_someAreOnTheWay.1 mX4_someAreOnTheWay.2.1 mX4_someAreOnTheWay.2.2.1 mX4_someAreOnTheWay.2.2.2 ∈ px_tbl := px_mem5 26 (by rfl) (by rfl)
set_option maxRecDepth 100000 in
theorem kl_X2_139 : px_kV RX2 139 mX4_someAreOnTheWay 1 4 := ⟨px_mem5 23 (by decide +kernel) (by decide +kernel), px_mem5 24 (by decide +kernel) (by decide +kernel), px_mem5 25 (by decide +kernel) (by decide +kernel), px_mem1 9 (by decide +kernel) (by decide +kernel), cw_X4_someAreOnTheWay, by decide, ⟨_, _, rfl⟩, by decide, by decide, by decide +kernel⟩
set_option maxRecDepth 100000 in
theorem kl_X2_146 : px_kV RX2 146 mX4_passHours 4 4 := ⟨px_mem5 27 (by decide +kernel) (by decide +kernel), px_mem4 151 (by decide +kernel) (by decide +kernel), px_mem4 152 (by decide +kernel) (by decide +kernel), px_mem1 9 (by decide +kernel) (by decide +kernel), cw_X4_passHours, by decide, ⟨_, _, rfl⟩, by decide, by decide, by decide +kernel⟩
set_option maxRecDepth 100000 in
theorem cw_X2_weighOrder : Cond.code mX2_weighOrder.1 mX2_weighOrder.2.1 mX2_weighOrder.2.2.1 mX2_weighOrder.2.2.2 ∈ px_tbl := px_mem5 31 (by rfl) (by rfl)
set_option maxRecDepth 100000 in
theorem kl_X2_153 : px_kV RX2 153 mX2_weighOrder 1 2 := ⟨px_mem5 28 (by decide +kernel) (by decide +kernel), px_mem5 30 (by decide +kernel) (by decide +kernel), px_memS 41 (by decide +kernel) (by decide +kernel), px_mem1 10 (by decide +kernel) (by decide +kernel), cw_X2_weighOrder, by decide, ⟨_, _, rfl⟩, by decide, by decide, by decide +kernel⟩
set_option maxRecDepth 100000 in
theorem cw_X8_soon : Cond.code mX8_soon.1 mX8_soon.2.1 mX8_soon.2.2.1 mX8_soon.2.2.2 ∈ px_tbl := px_mem5 35 (by rfl) (by rfl)
set_option maxRecDepth 100000 in
theorem kl_L_101 : px_kV RL 101 mX8_soon 1 8 := ⟨px_mem5 32 (by decide +kernel) (by decide +kernel), px_mem5 33 (by decide +kernel) (by decide +kernel), px_mem5 34 (by decide +kernel) (by decide +kernel), px_mem1 1 (by decide +kernel) (by decide +kernel), cw_X8_soon, by decide, ⟨_, _, rfl⟩, by decide, by decide, by decide +kernel⟩
set_option maxRecDepth 100000 in
theorem cw_X2_hoursUntilOver : Cond.code mX2_hoursUntilOver.1 mX2_hoursUntilOver.2.1 mX2_hoursUntilOver.2.2.1 mX2_hoursUntilOver.2.2.2 ∈ px_tbl := px_mem5 39 (by rfl) (by rfl)
set_option maxRecDepth 100000 in
theorem kl_X8_250 : px_kV RX8 250 mX2_hoursUntilOver 2 2 := ⟨px_mem5 36 (by decide +kernel) (by decide +kernel), px_mem5 37 (by decide +kernel) (by decide +kernel), px_mem5 38 (by decide +kernel) (by decide +kernel), px_mem1 10 (by decide +kernel) (by decide +kernel), cw_X2_hoursUntilOver, by decide, ⟨_, _, rfl⟩, by decide, by decide, by decide +kernel⟩
set_option maxRecDepth 100000 in
theorem cw_X2_hoursOnTheWay : Cond.code mX2_hoursOnTheWay.1 mX2_hoursOnTheWay.2.1 mX2_hoursOnTheWay.2.2.1 mX2_hoursOnTheWay.2.2.2 ∈ px_tbl := px_mem5 43 (by rfl) (by rfl)
set_option maxRecDepth 100000 in
theorem kl_X2_159 : px_kV RX2 159 mX2_hoursOnTheWay 5 2 := ⟨px_mem5 40 (by decide +kernel) (by decide +kernel), px_mem5 42 (by decide +kernel) (by decide +kernel), px_memS 42 (by decide +kernel) (by decide +kernel), px_mem1 10 (by decide +kernel) (by decide +kernel), cw_X2_hoursOnTheWay, by decide, ⟨_, _, rfl⟩, by decide, by decide, by decide +kernel⟩
set_option maxRecDepth 100000 in
theorem cw_X8_start : Cond.code mX8_start.1 mX8_start.2.1 mX8_start.2.2.1 mX8_start.2.2.2 ∈ px_tbl := px_mem5 47 (by rfl) (by rfl)
set_option maxRecDepth 100000 in
theorem kl_L_105 : px_kV RL 105 mX8_start 1 8 := ⟨px_mem5 44 (by decide +kernel) (by decide +kernel), px_mem5 45 (by decide +kernel) (by decide +kernel), px_mem5 46 (by decide +kernel) (by decide +kernel), px_mem1 1 (by decide +kernel) (by decide +kernel), cw_X8_start, by decide, ⟨_, _, rfl⟩, by decide, by decide, by decide +kernel⟩
set_option maxRecDepth 100000 in
theorem cw_X2_latestStart : Cond.code mX2_latestStart.1 mX2_latestStart.2.1 mX2_latestStart.2.2.1 mX2_latestStart.2.2.2 ∈ px_tbl := px_mem5 51 (by rfl) (by rfl)
set_option maxRecDepth 100000 in
theorem kl_X8_253 : px_kV RX8 253 mX2_latestStart 2 2 := ⟨px_mem5 48 (by decide +kernel) (by decide +kernel), px_mem5 49 (by decide +kernel) (by decide +kernel), px_mem5 50 (by decide +kernel) (by decide +kernel), px_mem1 10 (by decide +kernel) (by decide +kernel), cw_X2_latestStart, by decide, ⟨_, _, rfl⟩, by decide, by decide, by decide +kernel⟩
set_option maxRecDepth 100000 in
theorem cw_X8_missed : Cond.code mX8_missed.1 mX8_missed.2.1 mX8_missed.2.2.1 mX8_missed.2.2.2 ∈ px_tbl := px_mem5 55 (by rfl) (by rfl)
set_option maxRecDepth 100000 in
theorem kl_L_109 : px_kV RL 109 mX8_missed 1 8 := ⟨px_mem5 52 (by decide +kernel) (by decide +kernel), px_mem5 53 (by decide +kernel) (by decide +kernel), px_mem5 54 (by decide +kernel) (by decide +kernel), px_mem1 1 (by decide +kernel) (by decide +kernel), cw_X8_missed, by decide, ⟨_, _, rfl⟩, by decide, by decide, by decide +kernel⟩
set_option maxRecDepth 100000 in
theorem cw_X2_findMissed : Cond.code mX2_findMissed.1 mX2_findMissed.2.1 mX2_findMissed.2.2.1 mX2_findMissed.2.2.2 ∈ px_tbl := px_mem5 59 (by rfl) (by rfl)
set_option maxRecDepth 100000 in
theorem kl_X8_256 : px_kV RX8 256 mX2_findMissed 1 2 := ⟨px_mem5 56 (by decide +kernel) (by decide +kernel), px_mem5 57 (by decide +kernel) (by decide +kernel), px_mem5 58 (by decide +kernel) (by decide +kernel), px_mem1 10 (by decide +kernel) (by decide +kernel), cw_X2_findMissed, by decide, ⟨_, _, rfl⟩, by decide, by decide, by decide +kernel⟩
set_option maxRecDepth 100000 in
theorem cw_X8_year : Cond.code mX8_year.1 mX8_year.2.1 mX8_year.2.2.1 mX8_year.2.2.2 ∈ px_tbl := px_mem5 63 (by rfl) (by rfl)
set_option maxRecDepth 100000 in
theorem kl_L_113 : px_kV RL 113 mX8_year 3 8 := ⟨px_mem5 60 (by decide +kernel) (by decide +kernel), px_mem5 61 (by decide +kernel) (by decide +kernel), px_mem5 62 (by decide +kernel) (by decide +kernel), px_mem1 1 (by decide +kernel) (by decide +kernel), cw_X8_year, by decide, ⟨_, _, rfl⟩, by decide, by decide, by decide +kernel⟩
set_option maxRecDepth 100000 in
theorem cw_X2_seedsOver : Cond.code mX2_seedsOver.1 mX2_seedsOver.2.1 mX2_seedsOver.2.2.1 mX2_seedsOver.2.2.2 ∈ px_tbl := px_mem5 67 (by rfl) (by rfl)
set_option maxRecDepth 100000 in
theorem kl_X8_259 : px_kV RX8 259 mX2_seedsOver 4 2 := ⟨px_mem5 64 (by decide +kernel) (by decide +kernel), px_mem5 65 (by decide +kernel) (by decide +kernel), px_mem5 66 (by decide +kernel) (by decide +kernel), px_mem1 10 (by decide +kernel) (by decide +kernel), cw_X2_seedsOver, by decide, ⟨_, _, rfl⟩, by decide, by decide, by decide +kernel⟩
set_option maxRecDepth 100000 in
theorem cw_X8_tell : Cond.code mX8_tell.1 mX8_tell.2.1 mX8_tell.2.2.1 mX8_tell.2.2.2 ∈ px_tbl := px_mem5 71 (by rfl) (by rfl)
set_option maxRecDepth 100000 in
theorem kl_L_118 : px_kV RL 118 mX8_tell 2 8 := ⟨px_mem5 68 (by decide +kernel) (by decide +kernel), px_mem5 69 (by decide +kernel) (by decide +kernel), px_mem5 70 (by decide +kernel) (by decide +kernel), px_mem1 1 (by decide +kernel) (by decide +kernel), cw_X8_tell, by decide, ⟨_, _, rfl⟩, by decide, by decide, by decide +kernel⟩
set_option maxRecDepth 100000 in
theorem cw_X5_add : Cond.code mX5_add.1 mX5_add.2.1 mX5_add.2.2.1 mX5_add.2.2.2 ∈ px_tbl := px_mem5 75 (by rfl) (by rfl)
set_option maxRecDepth 100000 in
theorem kl_X8_263 : px_kV RX8 263 mX5_add 2 5 := ⟨px_mem5 72 (by decide +kernel) (by decide +kernel), px_mem5 73 (by decide +kernel) (by decide +kernel), px_mem5 74 (by decide +kernel) (by decide +kernel), px_mem1 14 (by decide +kernel) (by decide +kernel), cw_X5_add, by decide, ⟨_, _, rfl⟩, by decide, by decide, by decide +kernel⟩
set_option maxRecDepth 100000 in
theorem cw_X8_forget : Cond.code mX8_forget.1 mX8_forget.2.1 mX8_forget.2.2.1 mX8_forget.2.2.2 ∈ px_tbl := px_mem5 79 (by rfl) (by rfl)
set_option maxRecDepth 100000 in
theorem kl_L_122 : px_kV RL 122 mX8_forget 0 8 := ⟨px_mem5 76 (by decide +kernel) (by decide +kernel), px_mem5 77 (by decide +kernel) (by decide +kernel), px_mem5 78 (by decide +kernel) (by decide +kernel), px_mem1 1 (by decide +kernel) (by decide +kernel), cw_X8_forget, by decide, ⟨_, _, rfl⟩, by decide, by decide, by decide +kernel⟩
set_option maxRecDepth 100000 in
theorem cw_X8_awake : Cond.code mX8_awake.1 mX8_awake.2.1 mX8_awake.2.2.1 mX8_awake.2.2.2 ∈ px_tbl := px_mem5 83 (by rfl) (by rfl)
set_option maxRecDepth 100000 in
theorem kl_L_126 : px_kV RL 126 mX8_awake 2 8 := ⟨px_mem5 80 (by decide +kernel) (by decide +kernel), px_mem5 81 (by decide +kernel) (by decide +kernel), px_mem5 82 (by decide +kernel) (by decide +kernel), px_mem1 1 (by decide +kernel) (by decide +kernel), cw_X8_awake, by decide, ⟨_, _, rfl⟩, by decide, by decide, by decide +kernel⟩
set_option maxRecDepth 100000 in
theorem cw_X5_findSets : Cond.code mX5_findSets.1 mX5_findSets.2.1 mX5_findSets.2.2.1 mX5_findSets.2.2.2 ∈ px_tbl := px_mem5 87 (by rfl) (by rfl)
set_option maxRecDepth 100000 in
theorem kl_X8_269 : px_kV RX8 269 mX5_findSets 2 5 := ⟨px_mem5 84 (by decide +kernel) (by decide +kernel), px_mem5 85 (by decide +kernel) (by decide +kernel), px_mem5 86 (by decide +kernel) (by decide +kernel), px_mem1 14 (by decide +kernel) (by decide +kernel), cw_X5_findSets, by decide, ⟨_, _, rfl⟩, by decide, by decide, by decide +kernel⟩
set_option maxRecDepth 100000 in
theorem kl_X5_39 : px_kV RX5 39 mX1_copy 1 1 := ⟨px_mem5 88 (by decide +kernel) (by decide +kernel), px_mem4 197 (by decide +kernel) (by decide +kernel), px_mem4 198 (by decide +kernel) (by decide +kernel), px_mem1 11 (by decide +kernel) (by decide +kernel), cw_X1_copy, by decide, ⟨_, _, rfl⟩, by decide, by decide, by decide +kernel⟩
set_option maxRecDepth 100000 in
theorem kl_X5_60 : px_kV RX5 60 mX7_asleepAt 2 7 := ⟨px_mem5 89 (by decide +kernel) (by decide +kernel), px_mem3 1 (by decide +kernel) (by decide +kernel), px_mem3 2 (by decide +kernel) (by decide +kernel), px_mem1 2 (by decide +kernel) (by decide +kernel), cw_X7_asleepAt, by decide, ⟨_, _, rfl⟩, by decide, by decide, by decide +kernel⟩
set_option maxRecDepth 100000 in
theorem cw_X5_isSo : Cond.code mX5_isSo.1 mX5_isSo.2.1 mX5_isSo.2.2.1 mX5_isSo.2.2.2 ∈ px_tbl := px_mem5 93 (by rfl) (by rfl)
set_option maxRecDepth 100000 in
theorem kl_X5_67 : px_kV RX5 67 mX5_isSo 1 5 := ⟨px_mem5 90 (by decide +kernel) (by decide +kernel), px_mem5 92 (by decide +kernel) (by decide +kernel), px_memS 43 (by decide +kernel) (by decide +kernel), px_mem1 14 (by decide +kernel) (by decide +kernel), cw_X5_isSo, by decide, ⟨_, _, rfl⟩, by decide, by decide, by decide +kernel⟩
set_option maxRecDepth 100000 in
theorem kl_X5_71 : px_kV RX5 71 mX4_borne 2 4 := ⟨px_mem5 94 (by decide +kernel) (by decide +kernel), px_mem4 68 (by decide +kernel) (by decide +kernel), px_mem4 69 (by decide +kernel) (by decide +kernel), px_mem1 9 (by decide +kernel) (by decide +kernel), cw_X4_borne, by decide, ⟨_, _, rfl⟩, by decide, by decide, by decide +kernel⟩
set_option maxRecDepth 100000 in
theorem cw_X8_ask : Cond.code mX8_ask.1 mX8_ask.2.1 mX8_ask.2.2.1 mX8_ask.2.2.2 ∈ px_tbl := px_mem5 98 (by rfl) (by rfl)
set_option maxRecDepth 100000 in
theorem kl_L_130 : px_kV RL 130 mX8_ask 1 8 := ⟨px_mem5 95 (by decide +kernel) (by decide +kernel), px_mem5 96 (by decide +kernel) (by decide +kernel), px_mem5 97 (by decide +kernel) (by decide +kernel), px_mem1 1 (by decide +kernel) (by decide +kernel), cw_X8_ask, by decide, ⟨_, _, rfl⟩, by decide, by decide, by decide +kernel⟩
set_option maxRecDepth 100000 in
theorem cw_X5_bestQuestion : Cond.code mX5_bestQuestion.1 mX5_bestQuestion.2.1 mX5_bestQuestion.2.2.1 mX5_bestQuestion.2.2.2 ∈ px_tbl := px_mem5 102 (by rfl) (by rfl)
set_option maxRecDepth 100000 in
theorem kl_X8_275 : px_kV RX8 275 mX5_bestQuestion 0 5 := ⟨px_mem5 99 (by decide +kernel) (by decide +kernel), px_mem5 100 (by decide +kernel) (by decide +kernel), px_mem5 101 (by decide +kernel) (by decide +kernel), px_mem1 14 (by decide +kernel) (by decide +kernel), cw_X5_bestQuestion, by decide, ⟨_, _, rfl⟩, by decide, by decide, by decide +kernel⟩
set_option maxRecDepth 100000 in
theorem cw_X5_mostLeft : Cond.code mX5_mostLeft.1 mX5_mostLeft.2.1 mX5_mostLeft.2.2.1 mX5_mostLeft.2.2.2 ∈ px_tbl := px_mem5 106 (by rfl) (by rfl)
set_option maxRecDepth 100000 in
theorem kl_X5_77 : px_kV RX5 77 mX5_mostLeft 1 5 := ⟨px_mem5 103 (by decide +kernel) (by decide +kernel), px_mem5 105 (by decide +kernel) (by decide +kernel), px_memS 44 (by decide +kernel) (by decide +kernel), px_mem1 14 (by decide +kernel) (by decide +kernel), cw_X5_mostLeft, by decide, ⟨_, _, rfl⟩, by decide, by decide, by decide +kernel⟩
set_option maxRecDepth 100000 in
theorem kl_X5_81 : px_kS RX5 81 mJ9_max_7cf53 2 := ⟨px_mem5 107 (by decide +kernel) (by decide +kernel), px_mem2 131 (by decide +kernel) (by decide +kernel), px_mem1 13 (by decide +kernel) (by decide +kernel), cw_J9_max_7cf53, by decide, by decide, by decide, by decide +kernel⟩
set_option maxRecDepth 100000 in
theorem cw_X8_hold : Cond.code mX8_hold.1 mX8_hold.2.1 mX8_hold.2.2.1 mX8_hold.2.2.2 ∈ px_tbl := px_mem5 111 (by rfl) (by rfl)
set_option maxRecDepth 100000 in
theorem kl_L_134 : px_kV RL 134 mX8_hold 1 8 := ⟨px_mem5 108 (by decide +kernel) (by decide +kernel), px_mem5 109 (by decide +kernel) (by decide +kernel), px_mem5 110 (by decide +kernel) (by decide +kernel), px_mem1 1 (by decide +kernel) (by decide +kernel), cw_X8_hold, by decide, ⟨_, _, rfl⟩, by decide, by decide, by decide +kernel⟩
set_option maxRecDepth 100000 in
theorem cw_X8_restore : Cond.code mX8_restore.1 mX8_restore.2.1 mX8_restore.2.2.1 mX8_restore.2.2.2 ∈ px_tbl := px_mem5 115 (by rfl) (by rfl)
set_option maxRecDepth 100000 in
theorem kl_L_138 : px_kV RL 138 mX8_restore 1 8 := ⟨px_mem5 112 (by decide +kernel) (by decide +kernel), px_mem5 113 (by decide +kernel) (by decide +kernel), px_mem5 114 (by decide +kernel) (by decide +kernel), px_mem1 1 (by decide +kernel) (by decide +kernel), cw_X8_restore, by decide, ⟨_, _, rfl⟩, by decide, by decide, by decide +kernel⟩
set_option maxRecDepth 100000 in
theorem cw_X8_count : Cond.code mX8_count.1 mX8_count.2.1 mX8_count.2.2.1 mX8_count.2.2.2 ∈ px_tbl := px_mem5 119 (by rfl) (by rfl)
set_option maxRecDepth 100000 in
theorem kl_L_142 : px_kV RL 142 mX8_count 1 8 := ⟨px_mem5 116 (by decide +kernel) (by decide +kernel), px_mem5 117 (by decide +kernel) (by decide +kernel), px_mem5 118 (by decide +kernel) (by decide +kernel), px_mem1 1 (by decide +kernel) (by decide +kernel), cw_X8_count, by decide, ⟨_, _, rfl⟩, by decide, by decide, by decide +kernel⟩
set_option maxRecDepth 100000 in
theorem cw_X8_countBridge : Cond.code mX8_countBridge.1 mX8_countBridge.2.1 mX8_countBridge.2.2.1 mX8_countBridge.2.2.2 ∈ px_tbl := px_mem5 123 (by rfl) (by rfl)
set_option maxRecDepth 100000 in
theorem kl_X8_300 : px_kV RX8 300 mX8_countBridge 1 8 := ⟨px_mem5 120 (by decide +kernel) (by decide +kernel), px_mem5 122 (by decide +kernel) (by decide +kernel), px_memS 45 (by decide +kernel) (by decide +kernel), px_mem1 1 (by decide +kernel) (by decide +kernel), cw_X8_countBridge, by decide, ⟨_, _, rfl⟩, by decide, by decide, by decide +kernel⟩
set_option maxRecDepth 100000 in
theorem cw_X4_noiseOf : Cond.code mX4_noiseOf.1 mX4_noiseOf.2.1 mX4_noiseOf.2.2.1 mX4_noiseOf.2.2.2 ∈ px_tbl := px_mem5 127 (by rfl) (by rfl)
set_option maxRecDepth 100000 in
theorem kl_X8_303 : px_kV RX8 303 mX4_noiseOf 1 4 := ⟨px_mem5 124 (by decide +kernel) (by decide +kernel), px_mem5 125 (by decide +kernel) (by decide +kernel), px_mem5 126 (by decide +kernel) (by decide +kernel), px_mem1 9 (by decide +kernel) (by decide +kernel), cw_X4_noiseOf, by decide, ⟨_, _, rfl⟩, by decide, by decide, by decide +kernel⟩
set_option maxRecDepth 100000 in
theorem kl_X8_306 : px_kV RX8 306 mX7_wagesOf 1 7 := ⟨px_mem5 128 (by decide +kernel) (by decide +kernel), px_mem5 5 (by decide +kernel) (by decide +kernel), px_mem5 6 (by decide +kernel) (by decide +kernel), px_mem1 2 (by decide +kernel) (by decide +kernel), cw_X7_wagesOf, by decide, ⟨_, _, rfl⟩, by decide, by decide, by decide +kernel⟩
set_option maxRecDepth 100000 in
theorem cw_X4_allDreams : Cond.code mX4_allDreams.1 mX4_allDreams.2.1 mX4_allDreams.2.2.1 mX4_allDreams.2.2.2 ∈ px_tbl := px_mem5 132 (by rfl) (by rfl)
set_option maxRecDepth 100000 in
theorem kl_X8_309 : px_kV RX8 309 mX4_allDreams 1 4 := ⟨px_mem5 129 (by decide +kernel) (by decide +kernel), px_mem5 130 (by decide +kernel) (by decide +kernel), px_mem5 131 (by decide +kernel) (by decide +kernel), px_mem1 9 (by decide +kernel) (by decide +kernel), cw_X4_allDreams, by decide, ⟨_, _, rfl⟩, by decide, by decide, by decide +kernel⟩
set_option maxRecDepth 100000 in
theorem cw_X1_allOvers : Cond.code mX1_allOvers.1 mX1_allOvers.2.1 mX1_allOvers.2.2.1 mX1_allOvers.2.2.2 ∈ px_tbl := px_mem5 136 (by rfl) (by rfl)
set_option maxRecDepth 100000 in
theorem kl_X8_312 : px_kV RX8 312 mX1_allOvers 0 1 := ⟨px_mem5 133 (by decide +kernel) (by decide +kernel), px_mem5 134 (by decide +kernel) (by decide +kernel), px_mem5 135 (by decide +kernel) (by decide +kernel), px_mem1 11 (by decide +kernel) (by decide +kernel), cw_X1_allOvers, by decide, ⟨_, _, rfl⟩, by decide, by decide, by decide +kernel⟩
set_option maxRecDepth 100000 in
theorem cw_X9_plain : Cond.code mX9_plain.1 mX9_plain.2.1 mX9_plain.2.2.1 mX9_plain.2.2.2 ∈ px_tbl := px_mem5 146 (by rfl) (by rfl)
set_option maxRecDepth 100000 in
theorem kl_X9_164 : px_kV RX9 164 mX9_plain 1 9 := ⟨px_mem5 143 (by decide +kernel) (by decide +kernel), px_mem5 145 (by decide +kernel) (by decide +kernel), px_memS 46 (by decide +kernel) (by decide +kernel), px_mem1 15 (by decide +kernel) (by decide +kernel), cw_X9_plain, by decide, ⟨_, _, rfl⟩, by decide, by decide, by decide +kernel⟩
set_option maxRecDepth 100000 in
theorem cw_X9_word : Cond.code mX9_word.1 mX9_word.2.1 mX9_word.2.2.1 mX9_word.2.2.2 ∈ px_tbl := px_mem5 149 (by rfl) (by rfl)
set_option maxRecDepth 100000 in
theorem kl_X9_168 : px_kS RX9 168 mX9_word 7 := ⟨px_mem5 147 (by decide +kernel) (by decide +kernel), px_mem5 148 (by decide +kernel) (by decide +kernel), px_mem1 15 (by decide +kernel) (by decide +kernel), cw_X9_word, by decide, by decide, by decide, by decide +kernel⟩
set_option maxRecDepth 100000 in
theorem cw_X9_appends : Cond.code mX9_appends.1 mX9_appends.2.1 mX9_appends.2.2.1 mX9_appends.2.2.2 ∈ px_tbl := px_mem5 152 (by rfl) (by rfl)
set_option maxRecDepth 100000 in
theorem kl_X9_189 : px_kS RX9 189 mX9_appends 2 := ⟨px_mem5 150 (by decide +kernel) (by decide +kernel), px_mem5 151 (by decide +kernel) (by decide +kernel), px_mem1 15 (by decide +kernel) (by decide +kernel), cw_X9_appends, by decide, by decide, by decide, by decide +kernel⟩
set_option maxRecDepth 100000 in
theorem cw_X9_begins : Cond.code mX9_begins.1 mX9_begins.2.1 mX9_begins.2.2.1 mX9_begins.2.2.2 ∈ px_tbl := px_mem5 157 (by rfl) (by rfl)
set_option maxRecDepth 100000 in
theorem kl_X9_172 : px_kV RX9 172 mX9_begins 0 9 := ⟨px_mem5 154 (by decide +kernel) (by decide +kernel), px_mem5 156 (by decide +kernel) (by decide +kernel), px_memS 47 (by decide +kernel) (by decide +kernel), px_mem1 15 (by decide +kernel) (by decide +kernel), cw_X9_begins, by decide, ⟨_, _, rfl⟩, by decide, by decide, by decide +kernel⟩
set_option maxRecDepth 100000 in
theorem cw_X9_nightBegins : Cond.code mX9_nightBegins.1 mX9_nightBegins.2.1 mX9_nightBegins.2.2.1 mX9_nightBegins.2.2.2 ∈ px_tbl := px_mem5 161 (by rfl) (by rfl)
set_option maxRecDepth 100000 in
theorem kl_X9_335 : px_kV RX9 335 mX9_nightBegins 0 9 := ⟨px_mem5 158 (by decide +kernel) (by decide +kernel), px_mem5 160 (by decide +kernel) (by decide +kernel), px_memS 48 (by decide +kernel) (by decide +kernel), px_mem1 15 (by decide +kernel) (by decide +kernel), cw_X9_nightBegins, by decide, ⟨_, _, rfl⟩, by decide, by decide, by decide +kernel⟩
set_option maxRecDepth 100000 in
theorem cw_X9_keepsRow : Cond.code mX9_keepsRow.1 mX9_keepsRow.2.1 mX9_keepsRow.2.2.1 mX9_keepsRow.2.2.2 ∈ px_tbl := px_mem5 165 (by rfl) (by rfl)
set_option maxRecDepth 100000 in
theorem kl_X9_175 : px_kV RX9 175 mX9_keepsRow 0 9 := ⟨px_mem5 162 (by decide +kernel) (by decide +kernel), px_mem5 164 (by decide +kernel) (by decide +kernel), px_memS 49 (by decide +kernel) (by decide +kernel), px_mem1 15 (by decide +kernel) (by decide +kernel), cw_X9_keepsRow, by decide, ⟨_, _, rfl⟩, by decide, by decide, by decide +kernel⟩
set_option maxRecDepth 100000 in
theorem cw_X9_feed : Cond.code mX9_feed.1 mX9_feed.2.1 mX9_feed.2.2.1 mX9_feed.2.2.2 ∈ px_tbl := px_mem6 155 (by rfl) (by rfl)
set_option maxRecDepth 100000 in
theorem kl_L_17 : px_kV RL 17 mX9_feed 5 9 := ⟨px_mem6 152 (by decide +kernel) (by decide +kernel), px_mem6 153 (by decide +kernel) (by decide +kernel), px_mem6 154 (by decide +kernel) (by decide +kernel), px_mem1 15 (by decide +kernel) (by decide +kernel), cw_X9_feed, by decide, ⟨_, _, rfl⟩, by decide, by decide, by decide +kernel⟩
set_option maxRecDepth 100000 in
theorem cw_X9_put : Cond.code mX9_put.1 mX9_put.2.1 mX9_put.2.2.1 mX9_put.2.2.2 ∈ px_tbl := px_mem6 159 (by rfl) (by rfl)
set_option maxRecDepth 100000 in
theorem kl_X9_181 : px_kV RX9 181 mX9_put 1 9 := ⟨px_mem6 156 (by decide +kernel) (by decide +kernel), px_mem6 158 (by decide +kernel) (by decide +kernel), px_memS 50 (by decide +kernel) (by decide +kernel), px_mem1 15 (by decide +kernel) (by decide +kernel), cw_X9_put, by decide, ⟨_, _, rfl⟩, by decide, by decide, by decide +kernel⟩
set_option maxRecDepth 100000 in
theorem cw_X9_back : Cond.code mX9_back.1 mX9_back.2.1 mX9_back.2.2.1 mX9_back.2.2.2 ∈ px_tbl := px_mem6 163 (by rfl) (by rfl)
set_option maxRecDepth 100000 in
theorem kl_L_22 : px_kV RL 22 mX9_back 1 9 := ⟨px_mem6 160 (by decide +kernel) (by decide +kernel), px_mem6 161 (by decide +kernel) (by decide +kernel), px_mem6 162 (by decide +kernel) (by decide +kernel), px_mem1 15 (by decide +kernel) (by decide +kernel), cw_X9_back, by decide, ⟨_, _, rfl⟩, by decide, by decide, by decide +kernel⟩
set_option maxRecDepth 100000 in
theorem cw_X9_read : Cond.code mX9_read.1 mX9_read.2.1 mX9_read.2.2.1 mX9_read.2.2.2 ∈ px_tbl := px_mem6 167 (by rfl) (by rfl)
set_option maxRecDepth 100000 in
theorem kl_L_27 : px_kV RL 27 mX9_read 0 9 := ⟨px_mem6 164 (by decide +kernel) (by decide +kernel), px_mem6 165 (by decide +kernel) (by decide +kernel), px_mem6 166 (by decide +kernel) (by decide +kernel), px_mem1 15 (by decide +kernel) (by decide +kernel), cw_X9_read, by decide, ⟨_, _, rfl⟩, by decide, by decide, by decide +kernel⟩
set_option maxRecDepth 100000 in
theorem cw_X9_cut : Cond.code mX9_cut.1 mX9_cut.2.1 mX9_cut.2.2.1 mX9_cut.2.2.2 ∈ px_tbl := px_mem6 171 (by rfl) (by rfl)
set_option maxRecDepth 100000 in
theorem kl_X9_239 : px_kV RX9 239 mX9_cut 0 9 := ⟨px_mem6 168 (by decide +kernel) (by decide +kernel), px_mem6 170 (by decide +kernel) (by decide +kernel), px_memS 51 (by decide +kernel) (by decide +kernel), px_mem1 15 (by decide +kernel) (by decide +kernel), cw_X9_cut, by decide, ⟨_, _, rfl⟩, by decide, by decide, by decide +kernel⟩
set_option maxRecDepth 100000 in
theorem cw_X9_byteAt : Cond.code mX9_byteAt.1 mX9_byteAt.2.1 mX9_byteAt.2.2.1 mX9_byteAt.2.2.2 ∈ px_tbl := px_mem6 175 (by rfl) (by rfl)
set_option maxRecDepth 100000 in
theorem kl_X9_196 : px_kV RX9 196 mX9_byteAt 1 9 := ⟨px_mem6 172 (by decide +kernel) (by decide +kernel), px_mem6 174 (by decide +kernel) (by decide +kernel), px_memS 52 (by decide +kernel) (by decide +kernel), px_mem1 15 (by decide +kernel) (by decide +kernel), cw_X9_byteAt, by decide, ⟨_, _, rfl⟩, by decide, by decide, by decide +kernel⟩
set_option maxRecDepth 100000 in
theorem cw_X9_token : Cond.code mX9_token.1 mX9_token.2.1 mX9_token.2.2.1 mX9_token.2.2.2 ∈ px_tbl := px_mem6 179 (by rfl) (by rfl)
set_option maxRecDepth 100000 in
theorem kl_X9_200 : px_kV RX9 200 mX9_token 4 9 := ⟨px_mem6 176 (by decide +kernel) (by decide +kernel), px_mem6 178 (by decide +kernel) (by decide +kernel), px_memS 53 (by decide +kernel) (by decide +kernel), px_mem1 15 (by decide +kernel) (by decide +kernel), cw_X9_token, by decide, ⟨_, _, rfl⟩, by decide, by decide, by decide +kernel⟩
set_option maxRecDepth 100000 in
theorem cw_X9_isLetter : Cond.code mX9_isLetter.1 mX9_isLetter.2.1 mX9_isLetter.2.2.1 mX9_isLetter.2.2.2 ∈ px_tbl := px_mem6 182 (by rfl) (by rfl)
set_option maxRecDepth 100000 in
theorem kl_X9_204 : px_kS RX9 204 mX9_isLetter 1 := ⟨px_mem6 180 (by decide +kernel) (by decide +kernel), px_mem6 181 (by decide +kernel) (by decide +kernel), px_mem1 15 (by decide +kernel) (by decide +kernel), cw_X9_isLetter, by decide, by decide, by decide, by decide +kernel⟩
set_option maxRecDepth 100000 in
theorem cw_X9_isDigit : Cond.code mX9_isDigit.1 mX9_isDigit.2.1 mX9_isDigit.2.2.1 mX9_isDigit.2.2.2 ∈ px_tbl := px_mem6 185 (by rfl) (by rfl)
set_option maxRecDepth 100000 in
theorem kl_X9_208 : px_kS RX9 208 mX9_isDigit 1 := ⟨px_mem6 183 (by decide +kernel) (by decide +kernel), px_mem6 184 (by decide +kernel) (by decide +kernel), px_mem1 15 (by decide +kernel) (by decide +kernel), cw_X9_isDigit, by decide, by decide, by decide, by decide +kernel⟩
set_option maxRecDepth 100000 in
theorem cw_X9_sign : Cond.code mX9_sign.1 mX9_sign.2.1 mX9_sign.2.2.1 mX9_sign.2.2.2 ∈ px_tbl := px_mem6 189 (by rfl) (by rfl)
set_option maxRecDepth 100000 in
theorem kl_X9_211 : px_kV RX9 211 mX9_sign 3 9 := ⟨px_mem6 186 (by decide +kernel) (by decide +kernel), px_mem6 188 (by decide +kernel) (by decide +kernel), px_memS 54 (by decide +kernel) (by decide +kernel), px_mem1 15 (by decide +kernel) (by decide +kernel), cw_X9_sign, by decide, ⟨_, _, rfl⟩, by decide, by decide, by decide +kernel⟩
set_option maxRecDepth 100000 in
theorem cw_X9_is : Cond.code mX9_is.1 mX9_is.2.1 mX9_is.2.2.1 mX9_is.2.2.2 ∈ px_tbl := px_mem6 193 (by rfl) (by rfl)
set_option maxRecDepth 100000 in
theorem kl_X9_233 : px_kV RX9 233 mX9_is 1 9 := ⟨px_mem6 190 (by decide +kernel) (by decide +kernel), px_mem6 192 (by decide +kernel) (by decide +kernel), px_memS 55 (by decide +kernel) (by decide +kernel), px_mem1 15 (by decide +kernel) (by decide +kernel), cw_X9_is, by decide, ⟨_, _, rfl⟩, by decide, by decide, by decide +kernel⟩
set_option maxRecDepth 100000 in
theorem cw_X9_tellOne : Cond.code mX9_tellOne.1 mX9_tellOne.2.1 mX9_tellOne.2.2.1 mX9_tellOne.2.2.2 ∈ px_tbl := px_mem6 197 (by rfl) (by rfl)
set_option maxRecDepth 100000 in
theorem kl_X9_260 : px_kV RX9 260 mX9_tellOne 0 9 := ⟨px_mem6 194 (by decide +kernel) (by decide +kernel), px_mem6 196 (by decide +kernel) (by decide +kernel), px_memS 56 (by decide +kernel) (by decide +kernel), px_mem1 15 (by decide +kernel) (by decide +kernel), cw_X9_tellOne, by decide, ⟨_, _, rfl⟩, by decide, by decide, by decide +kernel⟩
set_option maxRecDepth 100000 in
theorem cw_X9_toldInt : Cond.code mX9_toldInt.1 mX9_toldInt.2.1 mX9_toldInt.2.2.1 mX9_toldInt.2.2.2 ∈ px_tbl := px_mem6 201 (by rfl) (by rfl)
set_option maxRecDepth 100000 in
theorem kl_X9_280 : px_kV RX9 280 mX9_toldInt 2 9 := ⟨px_mem6 198 (by decide +kernel) (by decide +kernel), px_mem6 200 (by decide +kernel) (by decide +kernel), px_memS 57 (by decide +kernel) (by decide +kernel), px_mem1 15 (by decide +kernel) (by decide +kernel), cw_X9_toldInt, by decide, ⟨_, _, rfl⟩, by decide, by decide, by decide +kernel⟩
set_option maxRecDepth 100000 in
theorem cw_X9_goesOn : Cond.code mX9_goesOn.1 mX9_goesOn.2.1 mX9_goesOn.2.2.1 mX9_goesOn.2.2.2 ∈ px_tbl := px_mem6 205 (by rfl) (by rfl)
set_option maxRecDepth 100000 in
theorem kl_X9_236 : px_kV RX9 236 mX9_goesOn 0 9 := ⟨px_mem6 202 (by decide +kernel) (by decide +kernel), px_mem6 204 (by decide +kernel) (by decide +kernel), px_memS 58 (by decide +kernel) (by decide +kernel), px_mem1 15 (by decide +kernel) (by decide +kernel), cw_X9_goesOn, by decide, ⟨_, _, rfl⟩, by decide, by decide, by decide +kernel⟩
set_option maxRecDepth 100000 in
theorem cw_X9_fail : Cond.code mX9_fail.1 mX9_fail.2.1 mX9_fail.2.2.1 mX9_fail.2.2.2 ∈ px_tbl := px_mem6 209 (by rfl) (by rfl)
set_option maxRecDepth 100000 in
theorem kl_X9_230 : px_kV RX9 230 mX9_fail 1 9 := ⟨px_mem6 206 (by decide +kernel) (by decide +kernel), px_mem6 208 (by decide +kernel) (by decide +kernel), px_memS 59 (by decide +kernel) (by decide +kernel), px_mem1 15 (by decide +kernel) (by decide +kernel), cw_X9_fail, by decide, ⟨_, _, rfl⟩, by decide, by decide, by decide +kernel⟩
set_option maxRecDepth 100000 in
theorem cw_X9_bounded : Cond.code mX9_bounded.1 mX9_bounded.2.1 mX9_bounded.2.2.1 mX9_bounded.2.2.2 ∈ px_tbl := px_mem6 213 (by rfl) (by rfl)
set_option maxRecDepth 100000 in
theorem kl_X9_273 : px_kV RX9 273 mX9_bounded 2 9 := ⟨px_mem6 210 (by decide +kernel) (by decide +kernel), px_mem6 212 (by decide +kernel) (by decide +kernel), px_memS 60 (by decide +kernel) (by decide +kernel), px_mem1 15 (by decide +kernel) (by decide +kernel), cw_X9_bounded, by decide, ⟨_, _, rfl⟩, by decide, by decide, by decide +kernel⟩
set_option maxRecDepth 100000 in
theorem cw_X9_wrong : Cond.code mX9_wrong.1 mX9_wrong.2.1 mX9_wrong.2.2.1 mX9_wrong.2.2.2 ∈ px_tbl := px_mem6 217 (by rfl) (by rfl)
set_option maxRecDepth 100000 in
theorem kl_X9_263 : px_kV RX9 263 mX9_wrong 2 9 := ⟨px_mem6 214 (by decide +kernel) (by decide +kernel), px_mem6 216 (by decide +kernel) (by decide +kernel), px_memS 61 (by decide +kernel) (by decide +kernel), px_mem1 15 (by decide +kernel) (by decide +kernel), cw_X9_wrong, by decide, ⟨_, _, rfl⟩, by decide, by decide, by decide +kernel⟩
set_option maxRecDepth 100000 in
theorem cw_X9_must : Cond.code mX9_must.1 mX9_must.2.1 mX9_must.2.2.1 mX9_must.2.2.2 ∈ px_tbl := px_mem6 221 (by rfl) (by rfl)
set_option maxRecDepth 100000 in
theorem kl_X9_277 : px_kV RX9 277 mX9_must 1 9 := ⟨px_mem6 218 (by decide +kernel) (by decide +kernel), px_mem6 220 (by decide +kernel) (by decide +kernel), px_memS 62 (by decide +kernel) (by decide +kernel), px_mem1 15 (by decide +kernel) (by decide +kernel), cw_X9_must, by decide, ⟨_, _, rfl⟩, by decide, by decide, by decide +kernel⟩
set_option maxRecDepth 100000 in
theorem cw_X9_roomFor : Cond.code mX9_roomFor.1 mX9_roomFor.2.1 mX9_roomFor.2.2.1 mX9_roomFor.2.2.2 ∈ px_tbl := px_mem6 225 (by rfl) (by rfl)
set_option maxRecDepth 100000 in
theorem kl_X9_283 : px_kV RX9 283 mX9_roomFor 2 9 := ⟨px_mem6 222 (by decide +kernel) (by decide +kernel), px_mem6 224 (by decide +kernel) (by decide +kernel), px_memS 63 (by decide +kernel) (by decide +kernel), px_mem1 15 (by decide +kernel) (by decide +kernel), cw_X9_roomFor, by decide, ⟨_, _, rfl⟩, by decide, by decide, by decide +kernel⟩
set_option maxRecDepth 100000 in
theorem cw_X9_tellSleeper : Cond.code mX9_tellSleeper.1 mX9_tellSleeper.2.1 mX9_tellSleeper.2.2.1 mX9_tellSleeper.2.2.2 ∈ px_tbl := px_mem6 229 (by rfl) (by rfl)
set_option maxRecDepth 100000 in
theorem kl_X9_286 : px_kV RX9 286 mX9_tellSleeper 0 9 := ⟨px_mem6 226 (by decide +kernel) (by decide +kernel), px_mem6 228 (by decide +kernel) (by decide +kernel), px_memS 64 (by decide +kernel) (by decide +kernel), px_mem1 15 (by decide +kernel) (by decide +kernel), cw_X9_tellSleeper, by decide, ⟨_, _, rfl⟩, by decide, by decide, by decide +kernel⟩
set_option maxRecDepth 100000 in
theorem cw_X9_named : Cond.code mX9_named.1 mX9_named.2.1 mX9_named.2.2.1 mX9_named.2.2.2 ∈ px_tbl := px_mem6 233 (by rfl) (by rfl)
set_option maxRecDepth 100000 in
theorem kl_X9_298 : px_kV RX9 298 mX9_named 0 9 := ⟨px_mem6 230 (by decide +kernel) (by decide +kernel), px_mem6 232 (by decide +kernel) (by decide +kernel), px_memS 65 (by decide +kernel) (by decide +kernel), px_mem1 15 (by decide +kernel) (by decide +kernel), cw_X9_named, by decide, ⟨_, _, rfl⟩, by decide, by decide, by decide +kernel⟩
set_option maxRecDepth 100000 in
theorem cw_X9_ends : Cond.code mX9_ends.1 mX9_ends.2.1 mX9_ends.2.2.1 mX9_ends.2.2.2 ∈ px_tbl := px_mem6 237 (by rfl) (by rfl)
set_option maxRecDepth 100000 in
theorem kl_X9_302 : px_kV RX9 302 mX9_ends 2 9 := ⟨px_mem6 234 (by decide +kernel) (by decide +kernel), px_mem6 236 (by decide +kernel) (by decide +kernel), px_memS 66 (by decide +kernel) (by decide +kernel), px_mem1 15 (by decide +kernel) (by decide +kernel), cw_X9_ends, by decide, ⟨_, _, rfl⟩, by decide, by decide, by decide +kernel⟩
set_option maxRecDepth 100000 in
theorem cw_X9_tellPair : Cond.code mX9_tellPair.1 mX9_tellPair.2.1 mX9_tellPair.2.2.1 mX9_tellPair.2.2.2 ∈ px_tbl := px_mem7 1 (by rfl) (by rfl)
set_option maxRecDepth 100000 in
theorem kl_X9_289 : px_kV RX9 289 mX9_tellPair 0 9 := ⟨px_mem6 238 (by decide +kernel) (by decide +kernel), px_mem7 0 (by decide +kernel) (by decide +kernel), px_memS 67 (by decide +kernel) (by decide +kernel), px_mem1 15 (by decide +kernel) (by decide +kernel), cw_X9_tellPair, by decide, ⟨_, _, rfl⟩, by decide, by decide, by decide +kernel⟩
set_option maxRecDepth 100000 in
theorem cw_X9_knownSleeper : Cond.code mX9_knownSleeper.1 mX9_knownSleeper.2.1 mX9_knownSleeper.2.2.1 mX9_knownSleeper.2.2.2 ∈ px_tbl := px_mem7 5 (by rfl) (by rfl)
set_option maxRecDepth 100000 in
theorem kl_X9_305 : px_kV RX9 305 mX9_knownSleeper 0 9 := ⟨px_mem7 2 (by decide +kernel) (by decide +kernel), px_mem7 4 (by decide +kernel) (by decide +kernel), px_memS 68 (by decide +kernel) (by decide +kernel), px_mem1 15 (by decide +kernel) (by decide +kernel), cw_X9_knownSleeper, by decide, ⟨_, _, rfl⟩, by decide, by decide, by decide +kernel⟩
set_option maxRecDepth 100000 in
theorem cw_X9_tellCrosser : Cond.code mX9_tellCrosser.1 mX9_tellCrosser.2.1 mX9_tellCrosser.2.2.1 mX9_tellCrosser.2.2.2 ∈ px_tbl := px_mem7 9 (by rfl) (by rfl)
set_option maxRecDepth 100000 in
theorem kl_X9_292 : px_kV RX9 292 mX9_tellCrosser 0 9 := ⟨px_mem7 6 (by decide +kernel) (by decide +kernel), px_mem7 8 (by decide +kernel) (by decide +kernel), px_memS 69 (by decide +kernel) (by decide +kernel), px_mem1 15 (by decide +kernel) (by decide +kernel), cw_X9_tellCrosser, by decide, ⟨_, _, rfl⟩, by decide, by decide, by decide +kernel⟩
set_option maxRecDepth 100000 in
theorem cw_X9_tellLaw : Cond.code mX9_tellLaw.1 mX9_tellLaw.2.1 mX9_tellLaw.2.2.1 mX9_tellLaw.2.2.2 ∈ px_tbl := px_mem7 13 (by rfl) (by rfl)
set_option maxRecDepth 100000 in
theorem kl_X9_295 : px_kV RX9 295 mX9_tellLaw 1 9 := ⟨px_mem7 10 (by decide +kernel) (by decide +kernel), px_mem7 12 (by decide +kernel) (by decide +kernel), px_memS 70 (by decide +kernel) (by decide +kernel), px_mem1 15 (by decide +kernel) (by decide +kernel), cw_X9_tellLaw, by decide, ⟨_, _, rfl⟩, by decide, by decide, by decide +kernel⟩
set_option maxRecDepth 100000 in
theorem cw_X9_expression : Cond.code mX9_expression.1 mX9_expression.2.1 mX9_expression.2.2.1 mX9_expression.2.2.2 ∈ px_tbl := px_mem7 17 (by rfl) (by rfl)
set_option maxRecDepth 100000 in
theorem kl_X9_308 : px_kV RX9 308 mX9_expression 0 9 := ⟨px_mem7 14 (by decide +kernel) (by decide +kernel), px_mem7 16 (by decide +kernel) (by decide +kernel), px_memS 71 (by decide +kernel) (by decide +kernel), px_mem1 15 (by decide +kernel) (by decide +kernel), cw_X9_expression, by decide, ⟨_, _, rfl⟩, by decide, by decide, by decide +kernel⟩
set_option maxRecDepth 100000 in
theorem cw_X9_unit : Cond.code mX9_unit.1 mX9_unit.2.1 mX9_unit.2.2.1 mX9_unit.2.2.2 ∈ px_tbl := px_mem7 21 (by rfl) (by rfl)
set_option maxRecDepth 100000 in
theorem kl_X9_320 : px_kV RX9 320 mX9_unit 0 9 := ⟨px_mem7 18 (by decide +kernel) (by decide +kernel), px_mem7 20 (by decide +kernel) (by decide +kernel), px_memS 72 (by decide +kernel) (by decide +kernel), px_mem1 15 (by decide +kernel) (by decide +kernel), cw_X9_unit, by decide, ⟨_, _, rfl⟩, by decide, by decide, by decide +kernel⟩
set_option maxRecDepth 100000 in
theorem cw_X9_emit : Cond.code mX9_emit.1 mX9_emit.2.1 mX9_emit.2.2.1 mX9_emit.2.2.2 ∈ px_tbl := px_mem7 25 (by rfl) (by rfl)
set_option maxRecDepth 100000 in
theorem kl_X9_317 : px_kV RX9 317 mX9_emit 2 9 := ⟨px_mem7 22 (by decide +kernel) (by decide +kernel), px_mem7 24 (by decide +kernel) (by decide +kernel), px_memS 73 (by decide +kernel) (by decide +kernel), px_mem1 15 (by decide +kernel) (by decide +kernel), cw_X9_emit, by decide, ⟨_, _, rfl⟩, by decide, by decide, by decide +kernel⟩
set_option maxRecDepth 100000 in
theorem cw_X9_comesOut : Cond.code mX9_comesOut.1 mX9_comesOut.2.1 mX9_comesOut.2.2.1 mX9_comesOut.2.2.2 ∈ px_tbl := px_mem7 29 (by rfl) (by rfl)
set_option maxRecDepth 100000 in
theorem kl_X9_323 : px_kV RX9 323 mX9_comesOut 1 9 := ⟨px_mem7 26 (by decide +kernel) (by decide +kernel), px_mem7 28 (by decide +kernel) (by decide +kernel), px_memS 74 (by decide +kernel) (by decide +kernel), px_mem1 15 (by decide +kernel) (by decide +kernel), cw_X9_comesOut, by decide, ⟨_, _, rfl⟩, by decide, by decide, by decide +kernel⟩
set_option maxRecDepth 100000 in
theorem cw_X9_term : Cond.code mX9_term.1 mX9_term.2.1 mX9_term.2.2.1 mX9_term.2.2.2 ∈ px_tbl := px_mem7 33 (by rfl) (by rfl)
set_option maxRecDepth 100000 in
theorem kl_X9_311 : px_kV RX9 311 mX9_term 0 9 := ⟨px_mem7 30 (by decide +kernel) (by decide +kernel), px_mem7 32 (by decide +kernel) (by decide +kernel), px_memS 75 (by decide +kernel) (by decide +kernel), px_mem1 15 (by decide +kernel) (by decide +kernel), cw_X9_term, by decide, ⟨_, _, rfl⟩, by decide, by decide, by decide +kernel⟩
set_option maxRecDepth 100000 in
theorem cw_X9_place : Cond.code mX9_place.1 mX9_place.2.1 mX9_place.2.2.1 mX9_place.2.2.2 ∈ px_tbl := px_mem7 37 (by rfl) (by rfl)
set_option maxRecDepth 100000 in
theorem kl_L_31 : px_kV RL 31 mX9_place 0 9 := ⟨px_mem7 34 (by decide +kernel) (by decide +kernel), px_mem7 35 (by decide +kernel) (by decide +kernel), px_mem7 36 (by decide +kernel) (by decide +kernel), px_mem1 15 (by decide +kernel) (by decide +kernel), cw_X9_place, by decide, ⟨_, _, rfl⟩, by decide, by decide, by decide +kernel⟩
set_option maxRecDepth 100000 in
theorem cw_X9_sleeper : Cond.code mX9_sleeper.1 mX9_sleeper.2.1 mX9_sleeper.2.2.1 mX9_sleeper.2.2.2 ∈ px_tbl := px_mem7 41 (by rfl) (by rfl)
set_option maxRecDepth 100000 in
theorem kl_L_36 : px_kV RL 36 mX9_sleeper 2 9 := ⟨px_mem7 38 (by decide +kernel) (by decide +kernel), px_mem7 39 (by decide +kernel) (by decide +kernel), px_mem7 40 (by decide +kernel) (by decide +kernel), px_mem1 15 (by decide +kernel) (by decide +kernel), cw_X9_sleeper, by decide, ⟨_, _, rfl⟩, by decide, by decide, by decide +kernel⟩
set_option maxRecDepth 100000 in
theorem cw_X9_isSleeper : Cond.code mX9_isSleeper.1 mX9_isSleeper.2.1 mX9_isSleeper.2.2.1 mX9_isSleeper.2.2.2 ∈ px_tbl := px_mem7 45 (by rfl) (by rfl)
set_option maxRecDepth 100000 in
theorem kl_X9_397 : px_kV RX9 397 mX9_isSleeper 1 9 := ⟨px_mem7 42 (by decide +kernel) (by decide +kernel), px_mem7 44 (by decide +kernel) (by decide +kernel), px_memS 76 (by decide +kernel) (by decide +kernel), px_mem1 15 (by decide +kernel) (by decide +kernel), cw_X9_isSleeper, by decide, ⟨_, _, rfl⟩, by decide, by decide, by decide +kernel⟩
set_option maxRecDepth 100000 in
theorem cw_X9_in : Cond.code mX9_in.1 mX9_in.2.1 mX9_in.2.2.1 mX9_in.2.2.2 ∈ px_tbl := px_mem7 48 (by rfl) (by rfl)
set_option maxRecDepth 100000 in
theorem kl_X9_331 : px_kS RX9 331 mX9_in 3 := ⟨px_mem7 46 (by decide +kernel) (by decide +kernel), px_mem7 47 (by decide +kernel) (by decide +kernel), px_mem1 15 (by decide +kernel) (by decide +kernel), cw_X9_in, by decide, by decide, by decide, by decide +kernel⟩
set_option maxRecDepth 100000 in
theorem cw_X9_copies : Cond.code mX9_copies.1 mX9_copies.2.1 mX9_copies.2.2.1 mX9_copies.2.2.2 ∈ px_tbl := px_mem7 52 (by rfl) (by rfl)
set_option maxRecDepth 100000 in
theorem kl_X9_400 : px_kV RX9 400 mX9_copies 0 9 := ⟨px_mem7 49 (by decide +kernel) (by decide +kernel), px_mem7 51 (by decide +kernel) (by decide +kernel), px_memS 77 (by decide +kernel) (by decide +kernel), px_mem1 15 (by decide +kernel) (by decide +kernel), cw_X9_copies, by decide, ⟨_, _, rfl⟩, by decide, by decide, by decide +kernel⟩
set_option maxRecDepth 100000 in
theorem cw_X9_isAsleep : Cond.code mX9_isAsleep.1 mX9_isAsleep.2.1 mX9_isAsleep.2.2.1 mX9_isAsleep.2.2.2 ∈ px_tbl := px_mem7 56 (by rfl) (by rfl)
set_option maxRecDepth 100000 in
theorem kl_X9_348 : px_kV RX9 348 mX9_isAsleep 1 9 := ⟨px_mem7 53 (by decide +kernel) (by decide +kernel), px_mem7 55 (by decide +kernel) (by decide +kernel), px_memS 78 (by decide +kernel) (by decide +kernel), px_mem1 15 (by decide +kernel) (by decide +kernel), cw_X9_isAsleep, by decide, ⟨_, _, rfl⟩, by decide, by decide, by decide +kernel⟩
set_option maxRecDepth 100000 in
theorem cw_X9_holdsNow : Cond.code mX9_holdsNow.1 mX9_holdsNow.2.1 mX9_holdsNow.2.2.1 mX9_holdsNow.2.2.2 ∈ px_tbl := px_mem7 60 (by rfl) (by rfl)
set_option maxRecDepth 100000 in
theorem kl_X9_376 : px_kV RX9 376 mX9_holdsNow 1 9 := ⟨px_mem7 57 (by decide +kernel) (by decide +kernel), px_mem7 59 (by decide +kernel) (by decide +kernel), px_memS 79 (by decide +kernel) (by decide +kernel), px_mem1 15 (by decide +kernel) (by decide +kernel), cw_X9_holdsNow, by decide, ⟨_, _, rfl⟩, by decide, by decide, by decide +kernel⟩
set_option maxRecDepth 100000 in
theorem cw_X9_asks : Cond.code mX9_asks.1 mX9_asks.2.1 mX9_asks.2.2.1 mX9_asks.2.2.2 ∈ px_tbl := px_mem7 64 (by rfl) (by rfl)
set_option maxRecDepth 100000 in
theorem kl_X9_369 : px_kV RX9 369 mX9_asks 5 9 := ⟨px_mem7 61 (by decide +kernel) (by decide +kernel), px_mem7 63 (by decide +kernel) (by decide +kernel), px_memS 80 (by decide +kernel) (by decide +kernel), px_mem1 15 (by decide +kernel) (by decide +kernel), cw_X9_asks, by decide, ⟨_, _, rfl⟩, by decide, by decide, by decide +kernel⟩
set_option maxRecDepth 100000 in
theorem cw_X9_looks : Cond.code mX9_looks.1 mX9_looks.2.1 mX9_looks.2.2.1 mX9_looks.2.2.2 ∈ px_tbl := px_mem7 68 (by rfl) (by rfl)
set_option maxRecDepth 100000 in
theorem kl_X9_357 : px_kV RX9 357 mX9_looks 1 9 := ⟨px_mem7 65 (by decide +kernel) (by decide +kernel), px_mem7 67 (by decide +kernel) (by decide +kernel), px_memS 81 (by decide +kernel) (by decide +kernel), px_mem1 15 (by decide +kernel) (by decide +kernel), cw_X9_looks, by decide, ⟨_, _, rfl⟩, by decide, by decide, by decide +kernel⟩
set_option maxRecDepth 100000 in
theorem cw_X9_noiseNow : Cond.code mX9_noiseNow.1 mX9_noiseNow.2.1 mX9_noiseNow.2.2.1 mX9_noiseNow.2.2.2 ∈ px_tbl := px_mem7 72 (by rfl) (by rfl)
set_option maxRecDepth 100000 in
theorem kl_X9_351 : px_kV RX9 351 mX9_noiseNow 0 9 := ⟨px_mem7 69 (by decide +kernel) (by decide +kernel), px_mem7 71 (by decide +kernel) (by decide +kernel), px_memS 82 (by decide +kernel) (by decide +kernel), px_mem1 15 (by decide +kernel) (by decide +kernel), cw_X9_noiseNow, by decide, ⟨_, _, rfl⟩, by decide, by decide, by decide +kernel⟩
set_option maxRecDepth 100000 in
theorem cw_X9_loadOn : Cond.code mX9_loadOn.1 mX9_loadOn.2.1 mX9_loadOn.2.2.1 mX9_loadOn.2.2.2 ∈ px_tbl := px_mem7 76 (by rfl) (by rfl)
set_option maxRecDepth 100000 in
theorem kl_X9_354 : px_kV RX9 354 mX9_loadOn 1 9 := ⟨px_mem7 73 (by decide +kernel) (by decide +kernel), px_mem7 75 (by decide +kernel) (by decide +kernel), px_memS 83 (by decide +kernel) (by decide +kernel), px_mem1 15 (by decide +kernel) (by decide +kernel), cw_X9_loadOn, by decide, ⟨_, _, rfl⟩, by decide, by decide, by decide +kernel⟩
set_option maxRecDepth 100000 in
theorem cw_X9_lawTells : Cond.code mX9_lawTells.1 mX9_lawTells.2.1 mX9_lawTells.2.2.1 mX9_lawTells.2.2.2 ∈ px_tbl := px_mem7 80 (by rfl) (by rfl)
set_option maxRecDepth 100000 in
theorem kl_X9_360 : px_kV RX9 360 mX9_lawTells 1 9 := ⟨px_mem7 77 (by decide +kernel) (by decide +kernel), px_mem7 79 (by decide +kernel) (by decide +kernel), px_memS 84 (by decide +kernel) (by decide +kernel), px_mem1 15 (by decide +kernel) (by decide +kernel), cw_X9_lawTells, by decide, ⟨_, _, rfl⟩, by decide, by decide, by decide +kernel⟩
set_option maxRecDepth 100000 in
theorem cw_X9_termOf : Cond.code mX9_termOf.1 mX9_termOf.2.1 mX9_termOf.2.2.1 mX9_termOf.2.2.2 ∈ px_tbl := px_mem7 84 (by rfl) (by rfl)
set_option maxRecDepth 100000 in
theorem kl_X9_366 : px_kV RX9 366 mX9_termOf 2 9 := ⟨px_mem7 81 (by decide +kernel) (by decide +kernel), px_mem7 83 (by decide +kernel) (by decide +kernel), px_memS 85 (by decide +kernel) (by decide +kernel), px_mem1 15 (by decide +kernel) (by decide +kernel), cw_X9_termOf, by decide, ⟨_, _, rfl⟩, by decide, by decide, by decide +kernel⟩
set_option maxRecDepth 100000 in
theorem cw_X9_held : Cond.code mX9_held.1 mX9_held.2.1 mX9_held.2.2.1 mX9_held.2.2.2 ∈ px_tbl := px_mem7 87 (by rfl) (by rfl)
set_option maxRecDepth 100000 in
theorem kl_X9_363 : px_kS RX9 363 mX9_held 3 := ⟨px_mem7 85 (by decide +kernel) (by decide +kernel), px_mem7 86 (by decide +kernel) (by decide +kernel), px_mem1 15 (by decide +kernel) (by decide +kernel), cw_X9_held, by decide, by decide, by decide, by decide +kernel⟩
set_option maxRecDepth 100000 in
theorem cw_X9_crosser : Cond.code mX9_crosser.1 mX9_crosser.2.1 mX9_crosser.2.2.1 mX9_crosser.2.2.2 ∈ px_tbl := px_mem7 91 (by rfl) (by rfl)
set_option maxRecDepth 100000 in
theorem kl_L_40 : px_kV RL 40 mX9_crosser 2 9 := ⟨px_mem7 88 (by decide +kernel) (by decide +kernel), px_mem7 89 (by decide +kernel) (by decide +kernel), px_mem7 90 (by decide +kernel) (by decide +kernel), px_mem1 15 (by decide +kernel) (by decide +kernel), cw_X9_crosser, by decide, ⟨_, _, rfl⟩, by decide, by decide, by decide +kernel⟩
set_option maxRecDepth 100000 in
theorem cw_X9_isCrosser : Cond.code mX9_isCrosser.1 mX9_isCrosser.2.1 mX9_isCrosser.2.2.1 mX9_isCrosser.2.2.2 ∈ px_tbl := px_mem7 95 (by rfl) (by rfl)
set_option maxRecDepth 100000 in
theorem kl_X9_403 : px_kV RX9 403 mX9_isCrosser 1 9 := ⟨px_mem7 92 (by decide +kernel) (by decide +kernel), px_mem7 94 (by decide +kernel) (by decide +kernel), px_memS 86 (by decide +kernel) (by decide +kernel), px_mem1 15 (by decide +kernel) (by decide +kernel), cw_X9_isCrosser, by decide, ⟨_, _, rfl⟩, by decide, by decide, by decide +kernel⟩
set_option maxRecDepth 100000 in
theorem cw_X9_span : Cond.code mX9_span.1 mX9_span.2.1 mX9_span.2.2.1 mX9_span.2.2.2 ∈ px_tbl := px_mem7 99 (by rfl) (by rfl)
set_option maxRecDepth 100000 in
theorem kl_L_44 : px_kV RL 44 mX9_span 2 9 := ⟨px_mem7 96 (by decide +kernel) (by decide +kernel), px_mem7 97 (by decide +kernel) (by decide +kernel), px_mem7 98 (by decide +kernel) (by decide +kernel), px_mem1 15 (by decide +kernel) (by decide +kernel), cw_X9_span, by decide, ⟨_, _, rfl⟩, by decide, by decide, by decide +kernel⟩
set_option maxRecDepth 100000 in
theorem cw_X9_isSpan : Cond.code mX9_isSpan.1 mX9_isSpan.2.1 mX9_isSpan.2.2.1 mX9_isSpan.2.2.2 ∈ px_tbl := px_mem7 103 (by rfl) (by rfl)
set_option maxRecDepth 100000 in
theorem kl_X9_406 : px_kV RX9 406 mX9_isSpan 1 9 := ⟨px_mem7 100 (by decide +kernel) (by decide +kernel), px_mem7 102 (by decide +kernel) (by decide +kernel), px_memS 87 (by decide +kernel) (by decide +kernel), px_mem1 15 (by decide +kernel) (by decide +kernel), cw_X9_isSpan, by decide, ⟨_, _, rfl⟩, by decide, by decide, by decide +kernel⟩
set_option maxRecDepth 100000 in
theorem cw_X9_bearsNow : Cond.code mX9_bearsNow.1 mX9_bearsNow.2.1 mX9_bearsNow.2.2.1 mX9_bearsNow.2.2.2 ∈ px_tbl := px_mem7 107 (by rfl) (by rfl)
set_option maxRecDepth 100000 in
theorem kl_X9_379 : px_kV RX9 379 mX9_bearsNow 1 9 := ⟨px_mem7 104 (by decide +kernel) (by decide +kernel), px_mem7 106 (by decide +kernel) (by decide +kernel), px_memS 88 (by decide +kernel) (by decide +kernel), px_mem1 15 (by decide +kernel) (by decide +kernel), cw_X9_bearsNow, by decide, ⟨_, _, rfl⟩, by decide, by decide, by decide +kernel⟩
set_option maxRecDepth 100000 in
theorem cw_X9_dreamsOn : Cond.code mX9_dreamsOn.1 mX9_dreamsOn.2.1 mX9_dreamsOn.2.2.1 mX9_dreamsOn.2.2.2 ∈ px_tbl := px_mem7 111 (by rfl) (by rfl)
set_option maxRecDepth 100000 in
theorem kl_X9_373 : px_kV RX9 373 mX9_dreamsOn 1 9 := ⟨px_mem7 108 (by decide +kernel) (by decide +kernel), px_mem7 110 (by decide +kernel) (by decide +kernel), px_memS 89 (by decide +kernel) (by decide +kernel), px_mem1 15 (by decide +kernel) (by decide +kernel), cw_X9_dreamsOn, by decide, ⟨_, _, rfl⟩, by decide, by decide, by decide +kernel⟩
set_option maxRecDepth 100000 in
theorem cw_X9_bitsOf : Cond.code mX9_bitsOf.1 mX9_bitsOf.2.1 mX9_bitsOf.2.2.1 mX9_bitsOf.2.2.2 ∈ px_tbl := px_mem7 115 (by rfl) (by rfl)
set_option maxRecDepth 100000 in
theorem kl_X9_409 : px_kV RX9 409 mX9_bitsOf 3 9 := ⟨px_mem7 112 (by decide +kernel) (by decide +kernel), px_mem7 114 (by decide +kernel) (by decide +kernel), px_memS 90 (by decide +kernel) (by decide +kernel), px_mem1 15 (by decide +kernel) (by decide +kernel), cw_X9_bitsOf, by decide, ⟨_, _, rfl⟩, by decide, by decide, by decide +kernel⟩
set_option maxRecDepth 100000 in
theorem cw_X9_tells : Cond.code mX9_tells.1 mX9_tells.2.1 mX9_tells.2.2.1 mX9_tells.2.2.2 ∈ px_tbl := px_mem7 119 (by rfl) (by rfl)
set_option maxRecDepth 100000 in
theorem kl_L_48 : px_kV RL 48 mX9_tells 2 9 := ⟨px_mem7 116 (by decide +kernel) (by decide +kernel), px_mem7 117 (by decide +kernel) (by decide +kernel), px_mem7 118 (by decide +kernel) (by decide +kernel), px_mem1 15 (by decide +kernel) (by decide +kernel), cw_X9_tells, by decide, ⟨_, _, rfl⟩, by decide, by decide, by decide +kernel⟩
set_option maxRecDepth 100000 in
theorem cw_X9_dreams : Cond.code mX9_dreams.1 mX9_dreams.2.1 mX9_dreams.2.2.1 mX9_dreams.2.2.2 ∈ px_tbl := px_mem7 123 (by rfl) (by rfl)
set_option maxRecDepth 100000 in
theorem kl_L_52 : px_kV RL 52 mX9_dreams 1 9 := ⟨px_mem7 120 (by decide +kernel) (by decide +kernel), px_mem7 121 (by decide +kernel) (by decide +kernel), px_mem7 122 (by decide +kernel) (by decide +kernel), px_mem1 15 (by decide +kernel) (by decide +kernel), cw_X9_dreams, by decide, ⟨_, _, rfl⟩, by decide, by decide, by decide +kernel⟩
set_option maxRecDepth 100000 in
theorem cw_X9_send : Cond.code mX9_send.1 mX9_send.2.1 mX9_send.2.2.1 mX9_send.2.2.2 ∈ px_tbl := px_mem7 127 (by rfl) (by rfl)
set_option maxRecDepth 100000 in
theorem kl_L_57 : px_kV RL 57 mX9_send 1 9 := ⟨px_mem7 124 (by decide +kernel) (by decide +kernel), px_mem7 125 (by decide +kernel) (by decide +kernel), px_mem7 126 (by decide +kernel) (by decide +kernel), px_mem1 15 (by decide +kernel) (by decide +kernel), cw_X9_send, by decide, ⟨_, _, rfl⟩, by decide, by decide, by decide +kernel⟩
set_option maxRecDepth 100000 in
theorem cw_X9_keeps : Cond.code mX9_keeps.1 mX9_keeps.2.1 mX9_keeps.2.2.1 mX9_keeps.2.2.2 ∈ px_tbl := px_mem7 131 (by rfl) (by rfl)
set_option maxRecDepth 100000 in
theorem kl_X9_412 : px_kV RX9 412 mX9_keeps 0 9 := ⟨px_mem7 128 (by decide +kernel) (by decide +kernel), px_mem7 130 (by decide +kernel) (by decide +kernel), px_memS 91 (by decide +kernel) (by decide +kernel), px_mem1 15 (by decide +kernel) (by decide +kernel), cw_X9_keeps, by decide, ⟨_, _, rfl⟩, by decide, by decide, by decide +kernel⟩
set_option maxRecDepth 100000 in
theorem cw_X9_lay : Cond.code mX9_lay.1 mX9_lay.2.1 mX9_lay.2.2.1 mX9_lay.2.2.2 ∈ px_tbl := px_mem7 135 (by rfl) (by rfl)
set_option maxRecDepth 100000 in
theorem kl_L_62 : px_kV RL 62 mX9_lay 2 9 := ⟨px_mem7 132 (by decide +kernel) (by decide +kernel), px_mem7 133 (by decide +kernel) (by decide +kernel), px_mem7 134 (by decide +kernel) (by decide +kernel), px_mem1 15 (by decide +kernel) (by decide +kernel), cw_X9_lay, by decide, ⟨_, _, rfl⟩, by decide, by decide, by decide +kernel⟩
set_option maxRecDepth 100000 in
theorem cw_X9_lull : Cond.code mX9_lull.1 mX9_lull.2.1 mX9_lull.2.2.1 mX9_lull.2.2.2 ∈ px_tbl := px_mem7 139 (by rfl) (by rfl)
set_option maxRecDepth 100000 in
theorem kl_L_66 : px_kV RL 66 mX9_lull 1 9 := ⟨px_mem7 136 (by decide +kernel) (by decide +kernel), px_mem7 137 (by decide +kernel) (by decide +kernel), px_mem7 138 (by decide +kernel) (by decide +kernel), px_mem1 15 (by decide +kernel) (by decide +kernel), cw_X9_lull, by decide, ⟨_, _, rfl⟩, by decide, by decide, by decide +kernel⟩
set_option maxRecDepth 100000 in
theorem cw_X9_hours : Cond.code mX9_hours.1 mX9_hours.2.1 mX9_hours.2.2.1 mX9_hours.2.2.2 ∈ px_tbl := px_mem7 143 (by rfl) (by rfl)
set_option maxRecDepth 100000 in
theorem kl_L_70 : px_kV RL 70 mX9_hours 1 9 := ⟨px_mem7 140 (by decide +kernel) (by decide +kernel), px_mem7 141 (by decide +kernel) (by decide +kernel), px_mem7 142 (by decide +kernel) (by decide +kernel), px_mem1 15 (by decide +kernel) (by decide +kernel), cw_X9_hours, by decide, ⟨_, _, rfl⟩, by decide, by decide, by decide +kernel⟩
set_option maxRecDepth 100000 in
theorem cw_X9_goes : Cond.code mX9_goes.1 mX9_goes.2.1 mX9_goes.2.2.1 mX9_goes.2.2.2 ∈ px_tbl := px_mem7 147 (by rfl) (by rfl)
set_option maxRecDepth 100000 in
theorem kl_X9_415 : px_kV RX9 415 mX9_goes 1 9 := ⟨px_mem7 144 (by decide +kernel) (by decide +kernel), px_mem7 146 (by decide +kernel) (by decide +kernel), px_memS 92 (by decide +kernel) (by decide +kernel), px_mem1 15 (by decide +kernel) (by decide +kernel), cw_X9_goes, by decide, ⟨_, _, rfl⟩, by decide, by decide, by decide +kernel⟩
set_option maxRecDepth 100000 in
theorem cw_X9_hourGoes : Cond.code mX9_hourGoes.1 mX9_hourGoes.2.1 mX9_hourGoes.2.2.1 mX9_hourGoes.2.2.2 ∈ px_tbl := px_mem7 151 (by rfl) (by rfl)
set_option maxRecDepth 100000 in
theorem kl_X9_394 : px_kV RX9 394 mX9_hourGoes 0 9 := ⟨px_mem7 148 (by decide +kernel) (by decide +kernel), px_mem7 150 (by decide +kernel) (by decide +kernel), px_memS 93 (by decide +kernel) (by decide +kernel), px_mem1 15 (by decide +kernel) (by decide +kernel), cw_X9_hourGoes, by decide, ⟨_, _, rfl⟩, by decide, by decide, by decide +kernel⟩
set_option maxRecDepth 100000 in
theorem cw_X9_sleepsOn : Cond.code mX9_sleepsOn.1 mX9_sleepsOn.2.1 mX9_sleepsOn.2.2.1 mX9_sleepsOn.2.2.2 ∈ px_tbl := px_mem7 155 (by rfl) (by rfl)
set_option maxRecDepth 100000 in
theorem kl_X9_388 : px_kV RX9 388 mX9_sleepsOn 0 9 := ⟨px_mem7 152 (by decide +kernel) (by decide +kernel), px_mem7 154 (by decide +kernel) (by decide +kernel), px_memS 94 (by decide +kernel) (by decide +kernel), px_mem1 15 (by decide +kernel) (by decide +kernel), cw_X9_sleepsOn, by decide, ⟨_, _, rfl⟩, by decide, by decide, by decide +kernel⟩
set_option maxRecDepth 100000 in
theorem cw_X9_lotOf : Cond.code mX9_lotOf.1 mX9_lotOf.2.1 mX9_lotOf.2.2.1 mX9_lotOf.2.2.2 ∈ px_tbl := px_mem7 159 (by rfl) (by rfl)
set_option maxRecDepth 100000 in
theorem kl_X9_382 : px_kV RX9 382 mX9_lotOf 1 9 := ⟨px_mem7 156 (by decide +kernel) (by decide +kernel), px_mem7 158 (by decide +kernel) (by decide +kernel), px_memS 95 (by decide +kernel) (by decide +kernel), px_mem1 15 (by decide +kernel) (by decide +kernel), cw_X9_lotOf, by decide, ⟨_, _, rfl⟩, by decide, by decide, by decide +kernel⟩
set_option maxRecDepth 100000 in
theorem cw_X9_mixed : Cond.code mX9_mixed.1 mX9_mixed.2.1 mX9_mixed.2.2.1 mX9_mixed.2.2.2 ∈ px_tbl := px_mem7 162 (by rfl) (by rfl)
set_option maxRecDepth 100000 in
theorem kl_X9_345 : px_kS RX9 345 mX9_mixed 2 := ⟨px_mem7 160 (by decide +kernel) (by decide +kernel), px_mem7 161 (by decide +kernel) (by decide +kernel), px_mem1 15 (by decide +kernel) (by decide +kernel), cw_X9_mixed, by decide, by decide, by decide, by decide +kernel⟩
set_option maxRecDepth 100000 in
theorem cw_X9_crosses : Cond.code mX9_crosses.1 mX9_crosses.2.1 mX9_crosses.2.2.1 mX9_crosses.2.2.2 ∈ px_tbl := px_mem7 167 (by rfl) (by rfl)
set_option maxRecDepth 100000 in
theorem kl_X9_391 : px_kV RX9 391 mX9_crosses 1 9 := ⟨px_mem7 164 (by decide +kernel) (by decide +kernel), px_mem7 166 (by decide +kernel) (by decide +kernel), px_memS 96 (by decide +kernel) (by decide +kernel), px_mem1 15 (by decide +kernel) (by decide +kernel), cw_X9_crosses, by decide, ⟨_, _, rfl⟩, by decide, by decide, by decide +kernel⟩
set_option maxRecDepth 100000 in
theorem cw_X9_goesOver : Cond.code mX9_goesOver.1 mX9_goesOver.2.1 mX9_goesOver.2.2.1 mX9_goesOver.2.2.2 ∈ px_tbl := px_mem7 171 (by rfl) (by rfl)
set_option maxRecDepth 100000 in
theorem kl_X9_385 : px_kV RX9 385 mX9_goesOver 1 9 := ⟨px_mem7 168 (by decide +kernel) (by decide +kernel), px_mem7 170 (by decide +kernel) (by decide +kernel), px_memS 97 (by decide +kernel) (by decide +kernel), px_mem1 15 (by decide +kernel) (by decide +kernel), cw_X9_goesOver, by decide, ⟨_, _, rfl⟩, by decide, by decide, by decide +kernel⟩
set_option maxRecDepth 100000 in
theorem cw_X9_night : Cond.code mX9_night.1 mX9_night.2.1 mX9_night.2.2.1 mX9_night.2.2.2 ∈ px_tbl := px_mem7 175 (by rfl) (by rfl)
set_option maxRecDepth 100000 in
theorem kl_L_74 : px_kV RL 74 mX9_night 0 9 := ⟨px_mem7 172 (by decide +kernel) (by decide +kernel), px_mem7 173 (by decide +kernel) (by decide +kernel), px_mem7 174 (by decide +kernel) (by decide +kernel), px_mem1 15 (by decide +kernel) (by decide +kernel), cw_X9_night, by decide, ⟨_, _, rfl⟩, by decide, by decide, by decide +kernel⟩
set_option maxRecDepth 100000 in
theorem cw_X9_undo : Cond.code mX9_undo.1 mX9_undo.2.1 mX9_undo.2.2.1 mX9_undo.2.2.2 ∈ px_tbl := px_mem7 179 (by rfl) (by rfl)
set_option maxRecDepth 100000 in
theorem kl_L_79 : px_kV RL 79 mX9_undo 0 9 := ⟨px_mem7 176 (by decide +kernel) (by decide +kernel), px_mem7 177 (by decide +kernel) (by decide +kernel), px_mem7 178 (by decide +kernel) (by decide +kernel), px_mem1 15 (by decide +kernel) (by decide +kernel), cw_X9_undo, by decide, ⟨_, _, rfl⟩, by decide, by decide, by decide +kernel⟩
set_option maxRecDepth 100000 in
theorem cw_X9_then : Cond.code mX9_then.1 mX9_then.2.1 mX9_then.2.2.1 mX9_then.2.2.2 ∈ px_tbl := px_mem7 183 (by rfl) (by rfl)
set_option maxRecDepth 100000 in
theorem kl_L_84 : px_kV RL 84 mX9_then 4 9 := ⟨px_mem7 180 (by decide +kernel) (by decide +kernel), px_mem7 181 (by decide +kernel) (by decide +kernel), px_mem7 182 (by decide +kernel) (by decide +kernel), px_mem1 15 (by decide +kernel) (by decide +kernel), cw_X9_then, by decide, ⟨_, _, rfl⟩, by decide, by decide, by decide +kernel⟩
set_option maxRecDepth 100000 in
theorem cw_X9_isLong : Cond.code mX9_isLong.1 mX9_isLong.2.1 mX9_isLong.2.2.1 mX9_isLong.2.2.2 ∈ px_tbl := px_mem7 186 (by rfl) (by rfl)
set_option maxRecDepth 100000 in
theorem kl_X9_418 : px_kS RX9 418 mX9_isLong 1 := ⟨px_mem7 184 (by decide +kernel) (by decide +kernel), px_mem7 185 (by decide +kernel) (by decide +kernel), px_mem1 15 (by decide +kernel) (by decide +kernel), cw_X9_isLong, by decide, by decide, by decide, by decide +kernel⟩
set_option maxRecDepth 100000 in
theorem cw_X9_asleepBits : Cond.code mX9_asleepBits.1 mX9_asleepBits.2.1 mX9_asleepBits.2.2.1 mX9_asleepBits.2.2.2 ∈ px_tbl := px_mem7 190 (by rfl) (by rfl)
set_option maxRecDepth 100000 in
theorem kl_X9_421 : px_kV RX9 421 mX9_asleepBits 0 9 := ⟨px_mem7 187 (by decide +kernel) (by decide +kernel), px_mem7 189 (by decide +kernel) (by decide +kernel), px_memS 98 (by decide +kernel) (by decide +kernel), px_mem1 15 (by decide +kernel) (by decide +kernel), cw_X9_asleepBits, by decide, ⟨_, _, rfl⟩, by decide, by decide, by decide +kernel⟩
set_option maxRecDepth 100000 in
theorem cw_X9_bits : Cond.code mX9_bits.1 mX9_bits.2.1 mX9_bits.2.2.1 mX9_bits.2.2.2 ∈ px_tbl := px_mem7 193 (by rfl) (by rfl)
set_option maxRecDepth 100000 in
theorem kl_X9_424 : px_kS RX9 424 mX9_bits 1 := ⟨px_mem7 191 (by decide +kernel) (by decide +kernel), px_mem7 192 (by decide +kernel) (by decide +kernel), px_mem1 15 (by decide +kernel) (by decide +kernel), cw_X9_bits, by decide, by decide, by decide, by decide +kernel⟩
set_option maxRecDepth 100000 in
theorem cw_X9_leastNow : Cond.code mX9_leastNow.1 mX9_leastNow.2.1 mX9_leastNow.2.2.1 mX9_leastNow.2.2.2 ∈ px_tbl := px_mem7 197 (by rfl) (by rfl)
set_option maxRecDepth 100000 in
theorem kl_X9_427 : px_kV RX9 427 mX9_leastNow 0 9 := ⟨px_mem7 194 (by decide +kernel) (by decide +kernel), px_mem7 196 (by decide +kernel) (by decide +kernel), px_memS 99 (by decide +kernel) (by decide +kernel), px_mem1 15 (by decide +kernel) (by decide +kernel), cw_X9_leastNow, by decide, ⟨_, _, rfl⟩, by decide, by decide, by decide +kernel⟩
set_option maxRecDepth 100000 in
theorem cw_X9_weakest : Cond.code mX9_weakest.1 mX9_weakest.2.1 mX9_weakest.2.2.1 mX9_weakest.2.2.2 ∈ px_tbl := px_mem7 201 (by rfl) (by rfl)
set_option maxRecDepth 100000 in
theorem kl_L_88 : px_kV RL 88 mX9_weakest 1 9 := ⟨px_mem7 198 (by decide +kernel) (by decide +kernel), px_mem7 199 (by decide +kernel) (by decide +kernel), px_mem7 200 (by decide +kernel) (by decide +kernel), px_mem1 15 (by decide +kernel) (by decide +kernel), cw_X9_weakest, by decide, ⟨_, _, rfl⟩, by decide, by decide, by decide +kernel⟩
set_option maxRecDepth 100000 in
theorem cw_X9_fives : Cond.code mX9_fives.1 mX9_fives.2.1 mX9_fives.2.2.1 mX9_fives.2.2.2 ∈ px_tbl := px_mem7 204 (by rfl) (by rfl)
set_option maxRecDepth 100000 in
theorem kl_X9_430 : px_kS RX9 430 mX9_fives 1 := ⟨px_mem7 202 (by decide +kernel) (by decide +kernel), px_mem7 203 (by decide +kernel) (by decide +kernel), px_mem1 15 (by decide +kernel) (by decide +kernel), cw_X9_fives, by decide, by decide, by decide, by decide +kernel⟩
set_option maxRecDepth 100000 in
theorem cw_X9_lieSo : Cond.code mX9_lieSo.1 mX9_lieSo.2.1 mX9_lieSo.2.2.1 mX9_lieSo.2.2.2 ∈ px_tbl := px_mem7 208 (by rfl) (by rfl)
set_option maxRecDepth 100000 in
theorem kl_X9_436 : px_kV RX9 436 mX9_lieSo 1 9 := ⟨px_mem7 205 (by decide +kernel) (by decide +kernel), px_mem7 207 (by decide +kernel) (by decide +kernel), px_memS 100 (by decide +kernel) (by decide +kernel), px_mem1 15 (by decide +kernel) (by decide +kernel), cw_X9_lieSo, by decide, ⟨_, _, rfl⟩, by decide, by decide, by decide +kernel⟩
set_option maxRecDepth 100000 in
theorem cw_X9_better : Cond.code mX9_better.1 mX9_better.2.1 mX9_better.2.2.1 mX9_better.2.2.2 ∈ px_tbl := px_mem7 212 (by rfl) (by rfl)
set_option maxRecDepth 100000 in
theorem kl_L_92 : px_kV RL 92 mX9_better 1 9 := ⟨px_mem7 209 (by decide +kernel) (by decide +kernel), px_mem7 210 (by decide +kernel) (by decide +kernel), px_mem7 211 (by decide +kernel) (by decide +kernel), px_mem1 15 (by decide +kernel) (by decide +kernel), cw_X9_better, by decide, ⟨_, _, rfl⟩, by decide, by decide, by decide +kernel⟩
set_option maxRecDepth 100000 in
theorem cw_X9_cheap : Cond.code mX9_cheap.1 mX9_cheap.2.1 mX9_cheap.2.2.1 mX9_cheap.2.2.2 ∈ px_tbl := px_mem7 216 (by rfl) (by rfl)
set_option maxRecDepth 100000 in
theorem kl_L_96 : px_kV RL 96 mX9_cheap 2 9 := ⟨px_mem7 213 (by decide +kernel) (by decide +kernel), px_mem7 214 (by decide +kernel) (by decide +kernel), px_mem7 215 (by decide +kernel) (by decide +kernel), px_mem1 15 (by decide +kernel) (by decide +kernel), cw_X9_cheap, by decide, ⟨_, _, rfl⟩, by decide, by decide, by decide +kernel⟩
set_option maxRecDepth 100000 in
theorem cw_X9_sleepAlone : Cond.code mX9_sleepAlone.1 mX9_sleepAlone.2.1 mX9_sleepAlone.2.2.1 mX9_sleepAlone.2.2.2 ∈ px_tbl := px_mem7 220 (by rfl) (by rfl)
set_option maxRecDepth 100000 in
theorem kl_X9_442 : px_kV RX9 442 mX9_sleepAlone 1 9 := ⟨px_mem7 217 (by decide +kernel) (by decide +kernel), px_mem7 219 (by decide +kernel) (by decide +kernel), px_memS 101 (by decide +kernel) (by decide +kernel), px_mem1 15 (by decide +kernel) (by decide +kernel), cw_X9_sleepAlone, by decide, ⟨_, _, rfl⟩, by decide, by decide, by decide +kernel⟩
set_option maxRecDepth 100000 in
theorem cw_X9_order : Cond.code mX9_order.1 mX9_order.2.1 mX9_order.2.2.1 mX9_order.2.2.2 ∈ px_tbl := px_mem7 224 (by rfl) (by rfl)
set_option maxRecDepth 100000 in
theorem kl_L_100 : px_kV RL 100 mX9_order 1 9 := ⟨px_mem7 221 (by decide +kernel) (by decide +kernel), px_mem7 222 (by decide +kernel) (by decide +kernel), px_mem7 223 (by decide +kernel) (by decide +kernel), px_mem1 15 (by decide +kernel) (by decide +kernel), cw_X9_order, by decide, ⟨_, _, rfl⟩, by decide, by decide, by decide +kernel⟩
set_option maxRecDepth 100000 in
theorem cw_X9_isOrder : Cond.code mX9_isOrder.1 mX9_isOrder.2.1 mX9_isOrder.2.2.1 mX9_isOrder.2.2.2 ∈ px_tbl := px_mem7 228 (by rfl) (by rfl)
set_option maxRecDepth 100000 in
theorem kl_X9_451 : px_kV RX9 451 mX9_isOrder 1 9 := ⟨px_mem7 225 (by decide +kernel) (by decide +kernel), px_mem7 227 (by decide +kernel) (by decide +kernel), px_memS 102 (by decide +kernel) (by decide +kernel), px_mem1 15 (by decide +kernel) (by decide +kernel), cw_X9_isOrder, by decide, ⟨_, _, rfl⟩, by decide, by decide, by decide +kernel⟩
set_option maxRecDepth 100000 in
theorem cw_X9_tollBy : Cond.code mX9_tollBy.1 mX9_tollBy.2.1 mX9_tollBy.2.2.1 mX9_tollBy.2.2.2 ∈ px_tbl := px_mem7 232 (by rfl) (by rfl)
set_option maxRecDepth 100000 in
theorem kl_X9_454 : px_kV RX9 454 mX9_tollBy 1 9 := ⟨px_mem7 229 (by decide +kernel) (by decide +kernel), px_mem7 231 (by decide +kernel) (by decide +kernel), px_memS 103 (by decide +kernel) (by decide +kernel), px_mem1 15 (by decide +kernel) (by decide +kernel), cw_X9_tollBy, by decide, ⟨_, _, rfl⟩, by decide, by decide, by decide +kernel⟩
set_option maxRecDepth 100000 in
theorem cw_X9_soon : Cond.code mX9_soon.1 mX9_soon.2.1 mX9_soon.2.2.1 mX9_soon.2.2.2 ∈ px_tbl := px_mem7 236 (by rfl) (by rfl)
set_option maxRecDepth 100000 in
theorem kl_L_104 : px_kV RL 104 mX9_soon 1 9 := ⟨px_mem7 233 (by decide +kernel) (by decide +kernel), px_mem7 234 (by decide +kernel) (by decide +kernel), px_mem7 235 (by decide +kernel) (by decide +kernel), px_mem1 15 (by decide +kernel) (by decide +kernel), cw_X9_soon, by decide, ⟨_, _, rfl⟩, by decide, by decide, by decide +kernel⟩
set_option maxRecDepth 100000 in
theorem cw_X9_start : Cond.code mX9_start.1 mX9_start.2.1 mX9_start.2.2.1 mX9_start.2.2.2 ∈ px_tbl := px_mem8 0 (by rfl) (by rfl)
set_option maxRecDepth 100000 in
theorem kl_L_108 : px_kV RL 108 mX9_start 1 9 := ⟨px_mem7 237 (by decide +kernel) (by decide +kernel), px_mem7 238 (by decide +kernel) (by decide +kernel), px_mem7 239 (by decide +kernel) (by decide +kernel), px_mem1 15 (by decide +kernel) (by decide +kernel), cw_X9_start, by decide, ⟨_, _, rfl⟩, by decide, by decide, by decide +kernel⟩
set_option maxRecDepth 100000 in
theorem cw_X9_isInTime : Cond.code mX9_isInTime.1 mX9_isInTime.2.1 mX9_isInTime.2.2.1 mX9_isInTime.2.2.2 ∈ px_tbl := px_mem8 4 (by rfl) (by rfl)
set_option maxRecDepth 100000 in
theorem kl_X9_460 : px_kV RX9 460 mX9_isInTime 2 9 := ⟨px_mem8 1 (by decide +kernel) (by decide +kernel), px_mem8 3 (by decide +kernel) (by decide +kernel), px_memS 104 (by decide +kernel) (by decide +kernel), px_mem1 15 (by decide +kernel) (by decide +kernel), cw_X9_isInTime, by decide, ⟨_, _, rfl⟩, by decide, by decide, by decide +kernel⟩
set_option maxRecDepth 100000 in
theorem cw_X9_missed : Cond.code mX9_missed.1 mX9_missed.2.1 mX9_missed.2.2.1 mX9_missed.2.2.2 ∈ px_tbl := px_mem8 8 (by rfl) (by rfl)
set_option maxRecDepth 100000 in
theorem kl_L_112 : px_kV RL 112 mX9_missed 1 9 := ⟨px_mem8 5 (by decide +kernel) (by decide +kernel), px_mem8 6 (by decide +kernel) (by decide +kernel), px_mem8 7 (by decide +kernel) (by decide +kernel), px_mem1 15 (by decide +kernel) (by decide +kernel), cw_X9_missed, by decide, ⟨_, _, rfl⟩, by decide, by decide, by decide +kernel⟩
set_option maxRecDepth 100000 in
theorem cw_X9_year : Cond.code mX9_year.1 mX9_year.2.1 mX9_year.2.2.1 mX9_year.2.2.2 ∈ px_tbl := px_mem8 12 (by rfl) (by rfl)
set_option maxRecDepth 100000 in
theorem kl_L_117 : px_kV RL 117 mX9_year 3 9 := ⟨px_mem8 9 (by decide +kernel) (by decide +kernel), px_mem8 10 (by decide +kernel) (by decide +kernel), px_mem8 11 (by decide +kernel) (by decide +kernel), px_mem1 15 (by decide +kernel) (by decide +kernel), cw_X9_year, by decide, ⟨_, _, rfl⟩, by decide, by decide, by decide +kernel⟩
set_option maxRecDepth 100000 in
theorem cw_X9_tell : Cond.code mX9_tell.1 mX9_tell.2.1 mX9_tell.2.2.1 mX9_tell.2.2.2 ∈ px_tbl := px_mem8 16 (by rfl) (by rfl)
set_option maxRecDepth 100000 in
theorem kl_L_121 : px_kV RL 121 mX9_tell 2 9 := ⟨px_mem8 13 (by decide +kernel) (by decide +kernel), px_mem8 14 (by decide +kernel) (by decide +kernel), px_mem8 15 (by decide +kernel) (by decide +kernel), px_mem1 15 (by decide +kernel) (by decide +kernel), cw_X9_tell, by decide, ⟨_, _, rfl⟩, by decide, by decide, by decide +kernel⟩
set_option maxRecDepth 100000 in
theorem cw_X9_forget : Cond.code mX9_forget.1 mX9_forget.2.1 mX9_forget.2.2.1 mX9_forget.2.2.2 ∈ px_tbl := px_mem8 20 (by rfl) (by rfl)
set_option maxRecDepth 100000 in
theorem kl_L_125 : px_kV RL 125 mX9_forget 0 9 := ⟨px_mem8 17 (by decide +kernel) (by decide +kernel), px_mem8 18 (by decide +kernel) (by decide +kernel), px_mem8 19 (by decide +kernel) (by decide +kernel), px_mem1 15 (by decide +kernel) (by decide +kernel), cw_X9_forget, by decide, ⟨_, _, rfl⟩, by decide, by decide, by decide +kernel⟩
set_option maxRecDepth 100000 in
theorem cw_X9_awake : Cond.code mX9_awake.1 mX9_awake.2.1 mX9_awake.2.2.1 mX9_awake.2.2.2 ∈ px_tbl := px_mem8 24 (by rfl) (by rfl)
set_option maxRecDepth 100000 in
theorem kl_L_129 : px_kV RL 129 mX9_awake 2 9 := ⟨px_mem8 21 (by decide +kernel) (by decide +kernel), px_mem8 22 (by decide +kernel) (by decide +kernel), px_mem8 23 (by decide +kernel) (by decide +kernel), px_mem1 15 (by decide +kernel) (by decide +kernel), cw_X9_awake, by decide, ⟨_, _, rfl⟩, by decide, by decide, by decide +kernel⟩
set_option maxRecDepth 100000 in
theorem cw_X9_mayBeAwake : Cond.code mX9_mayBeAwake.1 mX9_mayBeAwake.2.1 mX9_mayBeAwake.2.2.1 mX9_mayBeAwake.2.2.2 ∈ px_tbl := px_mem8 28 (by rfl) (by rfl)
set_option maxRecDepth 100000 in
theorem kl_X9_464 : px_kV RX9 464 mX9_mayBeAwake 2 9 := ⟨px_mem8 25 (by decide +kernel) (by decide +kernel), px_mem8 27 (by decide +kernel) (by decide +kernel), px_memS 105 (by decide +kernel) (by decide +kernel), px_mem1 15 (by decide +kernel) (by decide +kernel), cw_X9_mayBeAwake, by decide, ⟨_, _, rfl⟩, by decide, by decide, by decide +kernel⟩
set_option maxRecDepth 100000 in
theorem cw_X9_ask : Cond.code mX9_ask.1 mX9_ask.2.1 mX9_ask.2.2.1 mX9_ask.2.2.2 ∈ px_tbl := px_mem8 32 (by rfl) (by rfl)
set_option maxRecDepth 100000 in
theorem kl_L_133 : px_kV RL 133 mX9_ask 1 9 := ⟨px_mem8 29 (by decide +kernel) (by decide +kernel), px_mem8 30 (by decide +kernel) (by decide +kernel), px_mem8 31 (by decide +kernel) (by decide +kernel), px_mem1 15 (by decide +kernel) (by decide +kernel), cw_X9_ask, by decide, ⟨_, _, rfl⟩, by decide, by decide, by decide +kernel⟩
set_option maxRecDepth 100000 in
theorem cw_X9_hold : Cond.code mX9_hold.1 mX9_hold.2.1 mX9_hold.2.2.1 mX9_hold.2.2.2 ∈ px_tbl := px_mem8 36 (by rfl) (by rfl)
set_option maxRecDepth 100000 in
theorem kl_L_137 : px_kV RL 137 mX9_hold 1 9 := ⟨px_mem8 33 (by decide +kernel) (by decide +kernel), px_mem8 34 (by decide +kernel) (by decide +kernel), px_mem8 35 (by decide +kernel) (by decide +kernel), px_mem1 15 (by decide +kernel) (by decide +kernel), cw_X9_hold, by decide, ⟨_, _, rfl⟩, by decide, by decide, by decide +kernel⟩
set_option maxRecDepth 100000 in
theorem cw_X9_restore : Cond.code mX9_restore.1 mX9_restore.2.1 mX9_restore.2.2.1 mX9_restore.2.2.2 ∈ px_tbl := px_mem8 40 (by rfl) (by rfl)
set_option maxRecDepth 100000 in
theorem kl_L_141 : px_kV RL 141 mX9_restore 1 9 := ⟨px_mem8 37 (by decide +kernel) (by decide +kernel), px_mem8 38 (by decide +kernel) (by decide +kernel), px_mem8 39 (by decide +kernel) (by decide +kernel), px_mem1 15 (by decide +kernel) (by decide +kernel), cw_X9_restore, by decide, ⟨_, _, rfl⟩, by decide, by decide, by decide +kernel⟩
set_option maxRecDepth 100000 in
theorem cw_X9_count : Cond.code mX9_count.1 mX9_count.2.1 mX9_count.2.2.1 mX9_count.2.2.2 ∈ px_tbl := px_mem8 44 (by rfl) (by rfl)
set_option maxRecDepth 100000 in
theorem kl_L_145 : px_kV RL 145 mX9_count 1 9 := ⟨px_mem8 41 (by decide +kernel) (by decide +kernel), px_mem8 42 (by decide +kernel) (by decide +kernel), px_mem8 43 (by decide +kernel) (by decide +kernel), px_mem1 15 (by decide +kernel) (by decide +kernel), cw_X9_count, by decide, ⟨_, _, rfl⟩, by decide, by decide, by decide +kernel⟩
set_option maxRecDepth 100000 in
theorem kc_X6_46 : px_kC RX6 46 := ⟨px_mem4 133 (by decide +kernel) (by decide +kernel), px_mem4 135 (by decide +kernel) (by decide +kernel), px_mem4 134 (by decide +kernel) (by decide +kernel), px_mem1 18 (by decide +kernel) (by decide +kernel)⟩
set_option maxRecDepth 100000 in
theorem kc_X1_52 : px_kC RX1 52 := ⟨px_mem4 200 (by decide +kernel) (by decide +kernel), px_mem4 135 (by decide +kernel) (by decide +kernel), px_mem4 134 (by decide +kernel) (by decide +kernel), px_mem1 18 (by decide +kernel) (by decide +kernel)⟩
set_option maxRecDepth 100000 in
theorem kc_X2_91 : px_kC RX2 91 := ⟨px_mem4 225 (by decide +kernel) (by decide +kernel), px_mem4 135 (by decide +kernel) (by decide +kernel), px_mem4 134 (by decide +kernel) (by decide +kernel), px_mem1 18 (by decide +kernel) (by decide +kernel)⟩
