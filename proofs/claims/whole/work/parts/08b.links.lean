set_option maxRecDepth 100000 in
theorem cmv_X8_rewind : CMV miX8_rewind 0 := ⟨TG_t3 39 rfl rfl, TG_t1 7 (by decide +kernel) rfl, ⟨by decide +kernel, by decide +kernel, by decide +kernel⟩, by decide, TG_t3 37 (by decide +kernel) rfl, TG_t3 38 (by decide +kernel) rfl⟩
set_option maxRecDepth 100000 in
theorem cmv_X8_goesOn : CMV miX8_goesOn 0 := ⟨TG_t3 145 rfl rfl, TG_t1 7 (by decide +kernel) rfl, ⟨by decide +kernel, by decide +kernel, by decide +kernel⟩, by decide, TG_t3 143 (by decide +kernel) rfl, TG_t3 144 (by decide +kernel) rfl⟩
set_option maxRecDepth 100000 in
theorem cmv_X1_readLine : CMV miX1_readLine 1 := ⟨TG_t4 102 rfl rfl, TG_t1 10 (by decide +kernel) rfl, ⟨by decide +kernel, by decide +kernel, by decide +kernel⟩, by decide, TG_t4 101 (by decide +kernel) rfl, TG_p 15 (by decide +kernel) rfl⟩
set_option maxRecDepth 100000 in
theorem cmv_X8_finish : CMV miX8_finish 0 := ⟨TG_t4 83 rfl rfl, TG_t1 7 (by decide +kernel) rfl, ⟨by decide +kernel, by decide +kernel, by decide +kernel⟩, by decide, TG_t4 81 (by decide +kernel) rfl, TG_t4 82 (by decide +kernel) rfl⟩
set_option maxRecDepth 100000 in
theorem cms_X1_whatOf : CMS miX1_whatOf 1 := ⟨TG_t4 105 rfl rfl, TG_t1 10 (by decide +kernel) rfl, ⟨by decide +kernel, by decide +kernel, by decide +kernel⟩, by decide, TG_t4 104 (by decide +kernel) rfl⟩
set_option maxRecDepth 100000 in
theorem cmv_X8_fail : CMV miX8_fail 1 := ⟨TG_t3 159 rfl rfl, TG_t1 7 (by decide +kernel) rfl, ⟨by decide +kernel, by decide +kernel, by decide +kernel⟩, by decide, TG_t3 157 (by decide +kernel) rfl, TG_t3 158 (by decide +kernel) rfl⟩
set_option maxRecDepth 100000 in
theorem cmv_X8_step : CMV miX8_step 0 := ⟨TG_t3 43 rfl rfl, TG_t1 7 (by decide +kernel) rfl, ⟨by decide +kernel, by decide +kernel, by decide +kernel⟩, by decide, TG_t3 41 (by decide +kernel) rfl, TG_t3 42 (by decide +kernel) rfl⟩
set_option maxRecDepth 100000 in
theorem cmv_X4_buyerOf : CMV miX4_buyerOf 1 := ⟨TG_t3 180 rfl rfl, TG_t1 2 (by decide +kernel) rfl, ⟨by decide +kernel, by decide +kernel, by decide +kernel⟩, by decide, TG_t3 178 (by decide +kernel) rfl, TG_t3 179 (by decide +kernel) rfl⟩
set_option maxRecDepth 100000 in
theorem cmv_X8_takeKnown : CMV miX8_takeKnown 1 := ⟨TG_t3 232 rfl rfl, TG_t1 7 (by decide +kernel) rfl, ⟨by decide +kernel, by decide +kernel, by decide +kernel⟩, by decide, TG_t3 230 (by decide +kernel) rfl, TG_t3 231 (by decide +kernel) rfl⟩
set_option maxRecDepth 100000 in
theorem cmv_X4_thingOf : CMV miX4_thingOf 1 := ⟨TG_t3 176 rfl rfl, TG_t1 2 (by decide +kernel) rfl, ⟨by decide +kernel, by decide +kernel, by decide +kernel⟩, by decide, TG_t3 174 (by decide +kernel) rfl, TG_t3 175 (by decide +kernel) rfl⟩
set_option maxRecDepth 100000 in
theorem cmv_X8_takeNumber : CMV miX8_takeNumber 2 := ⟨TG_t3 191 rfl rfl, TG_t1 7 (by decide +kernel) rfl, ⟨by decide +kernel, by decide +kernel, by decide +kernel⟩, by decide, TG_t3 189 (by decide +kernel) rfl, TG_t3 190 (by decide +kernel) rfl⟩
set_option maxRecDepth 100000 in
theorem cmv_X1_keepLine : CMV miX1_keepLine 3 := ⟨TG_t4 126 rfl rfl, TG_t1 10 (by decide +kernel) rfl, ⟨by decide +kernel, by decide +kernel, by decide +kernel⟩, by decide, TG_t4 125 (by decide +kernel) rfl, TG_p 16 (by decide +kernel) rfl⟩
set_option maxRecDepth 100000 in
theorem cmv_X8_takeSign : CMV miX8_takeSign 1 := ⟨TG_t4 48 rfl rfl, TG_t1 7 (by decide +kernel) rfl, ⟨by decide +kernel, by decide +kernel, by decide +kernel⟩, by decide, TG_t4 46 (by decide +kernel) rfl, TG_t4 47 (by decide +kernel) rfl⟩
set_option maxRecDepth 100000 in
theorem cmv_X3_readTest : CMV miX3_readTest 2 := ⟨TG_t4 19 rfl rfl, TG_t1 9 (by decide +kernel) rfl, ⟨by decide +kernel, by decide +kernel, by decide +kernel⟩, by decide, TG_t4 18 (by decide +kernel) rfl, TG_p 10 (by decide +kernel) rfl⟩
set_option maxRecDepth 100000 in
theorem cmv_X2_add : CMV miX2_add 1 := ⟨TG_t4 43 rfl rfl, TG_t1 3 (by decide +kernel) rfl, ⟨by decide +kernel, by decide +kernel, by decide +kernel⟩, by decide, TG_t4 41 (by decide +kernel) rfl, TG_t4 42 (by decide +kernel) rfl⟩
set_option maxRecDepth 100000 in
theorem cmv_X3_readSum : CMV miX3_readSum 2 := ⟨TG_t4 23 rfl rfl, TG_t1 9 (by decide +kernel) rfl, ⟨by decide +kernel, by decide +kernel, by decide +kernel⟩, by decide, TG_t4 22 (by decide +kernel) rfl, TG_p 11 (by decide +kernel) rfl⟩
set_option maxRecDepth 100000 in
theorem cmv_X8_isSign : CMV miX8_isSign 1 := ⟨TG_t4 37 rfl rfl, TG_t1 7 (by decide +kernel) rfl, ⟨by decide +kernel, by decide +kernel, by decide +kernel⟩, by decide, TG_t4 35 (by decide +kernel) rfl, TG_t4 36 (by decide +kernel) rfl⟩
set_option maxRecDepth 100000 in
theorem cmv_X3_readProduct : CMV miX3_readProduct 2 := ⟨TG_t4 27 rfl rfl, TG_t1 9 (by decide +kernel) rfl, ⟨by decide +kernel, by decide +kernel, by decide +kernel⟩, by decide, TG_t4 26 (by decide +kernel) rfl, TG_p 12 (by decide +kernel) rfl⟩
set_option maxRecDepth 100000 in
theorem cmv_X3_readPart : CMV miX3_readPart 2 := ⟨TG_t4 31 rfl rfl, TG_t1 9 (by decide +kernel) rfl, ⟨by decide +kernel, by decide +kernel, by decide +kernel⟩, by decide, TG_t4 30 (by decide +kernel) rfl, TG_p 13 (by decide +kernel) rfl⟩
set_option maxRecDepth 100000 in
theorem cmv_X3_readWhole : CMV miX3_readWhole 2 := ⟨TG_t4 15 rfl rfl, TG_t1 9 (by decide +kernel) rfl, ⟨by decide +kernel, by decide +kernel, by decide +kernel⟩, by decide, TG_t4 14 (by decide +kernel) rfl, TG_p 9 (by decide +kernel) rfl⟩
set_option maxRecDepth 100000 in
theorem cms_X3_factOf : CMS miX3_factOf 1 := ⟨TG_t4 52 rfl rfl, TG_t1 9 (by decide +kernel) rfl, ⟨by decide +kernel, by decide +kernel, by decide +kernel⟩, by decide, TG_t4 51 (by decide +kernel) rfl⟩
set_option maxRecDepth 100000 in
theorem cmv_X4_clear : CMV miX4_clear 0 := ⟨TG_t1 66 rfl rfl, TG_t1 2 (by decide +kernel) rfl, ⟨by decide +kernel, by decide +kernel, by decide +kernel⟩, by decide, TG_t1 64 (by decide +kernel) rfl, TG_t1 65 (by decide +kernel) rfl⟩
set_option maxRecDepth 100000 in
theorem cmv_X4_farOf : CMV miX4_farOf 2 := ⟨TG_t4 159 rfl rfl, TG_t1 2 (by decide +kernel) rfl, ⟨by decide +kernel, by decide +kernel, by decide +kernel⟩, by decide, TG_t4 157 (by decide +kernel) rfl, TG_t4 158 (by decide +kernel) rfl⟩
set_option maxRecDepth 100000 in
theorem cmv_X5_readLine : CMV miX5_readLine 1 := ⟨TG_t3 149 rfl rfl, TG_t1 8 (by decide +kernel) rfl, ⟨by decide +kernel, by decide +kernel, by decide +kernel⟩, by decide, TG_t3 148 (by decide +kernel) rfl, TG_p 2 (by decide +kernel) rfl⟩
set_option maxRecDepth 100000 in
theorem cmv_X5_readCoach : CMV miX5_readCoach 1 := ⟨TG_t3 155 rfl rfl, TG_t1 8 (by decide +kernel) rfl, ⟨by decide +kernel, by decide +kernel, by decide +kernel⟩, by decide, TG_t3 154 (by decide +kernel) rfl, TG_p 3 (by decide +kernel) rfl⟩
set_option maxRecDepth 100000 in
theorem cmv_X5_readThing : CMV miX5_readThing 1 := ⟨TG_t3 197 rfl rfl, TG_t1 8 (by decide +kernel) rfl, ⟨by decide +kernel, by decide +kernel, by decide +kernel⟩, by decide, TG_t3 196 (by decide +kernel) rfl, TG_p 5 (by decide +kernel) rfl⟩
set_option maxRecDepth 100000 in
theorem cmv_X5_readBuyer : CMV miX5_readBuyer 1 := ⟨TG_t3 222 rfl rfl, TG_t1 8 (by decide +kernel) rfl, ⟨by decide +kernel, by decide +kernel, by decide +kernel⟩, by decide, TG_t3 221 (by decide +kernel) rfl, TG_p 6 (by decide +kernel) rfl⟩
set_option maxRecDepth 100000 in
theorem cmv_X5_readLate : CMV miX5_readLate 1 := ⟨TG_t4 9 rfl rfl, TG_t1 8 (by decide +kernel) rfl, ⟨by decide +kernel, by decide +kernel, by decide +kernel⟩, by decide, TG_t4 8 (by decide +kernel) rfl, TG_p 8 (by decide +kernel) rfl⟩
set_option maxRecDepth 100000 in
theorem cmv_X5_readOnce : CMV miX5_readOnce 2 := ⟨TG_t4 66 rfl rfl, TG_t1 8 (by decide +kernel) rfl, ⟨by decide +kernel, by decide +kernel, by decide +kernel⟩, by decide, TG_t4 65 (by decide +kernel) rfl, TG_p 14 (by decide +kernel) rfl⟩
set_option maxRecDepth 100000 in
theorem cmv_X8_take : CMV miX8_take 1 := ⟨TG_t3 186 rfl rfl, TG_t1 7 (by decide +kernel) rfl, ⟨by decide +kernel, by decide +kernel, by decide +kernel⟩, by decide, TG_t3 184 (by decide +kernel) rfl, TG_t3 185 (by decide +kernel) rfl⟩
set_option maxRecDepth 100000 in
theorem cmv_X5_takeNewName : CMV miX5_takeNewName 1 := ⟨TG_t3 164 rfl rfl, TG_t1 8 (by decide +kernel) rfl, ⟨by decide +kernel, by decide +kernel, by decide +kernel⟩, by decide, TG_t3 163 (by decide +kernel) rfl, TG_p 4 (by decide +kernel) rfl⟩
set_option maxRecDepth 100000 in
theorem cmv_X8_takeOneOf : CMV miX8_takeOneOf 3 := ⟨TG_t3 207 rfl rfl, TG_t1 7 (by decide +kernel) rfl, ⟨by decide +kernel, by decide +kernel, by decide +kernel⟩, by decide, TG_t3 205 (by decide +kernel) rfl, TG_t3 206 (by decide +kernel) rfl⟩
set_option maxRecDepth 100000 in
theorem cmv_X4_coachOf : CMV miX4_coachOf 1 := ⟨TG_t3 172 rfl rfl, TG_t1 2 (by decide +kernel) rfl, ⟨by decide +kernel, by decide +kernel, by decide +kernel⟩, by decide, TG_t3 170 (by decide +kernel) rfl, TG_t3 171 (by decide +kernel) rfl⟩
set_option maxRecDepth 100000 in
theorem cmv_X5_readWants : CMV miX5_readWants 2 := ⟨TG_t4 3 rfl rfl, TG_t1 8 (by decide +kernel) rfl, ⟨by decide +kernel, by decide +kernel, by decide +kernel⟩, by decide, TG_t4 2 (by decide +kernel) rfl, TG_p 7 (by decide +kernel) rfl⟩
set_option maxRecDepth 100000 in
theorem cmv_X8_isName : CMV miX8_isName 0 := ⟨TG_t3 168 rfl rfl, TG_t1 7 (by decide +kernel) rfl, ⟨by decide +kernel, by decide +kernel, by decide +kernel⟩, by decide, TG_t3 166 (by decide +kernel) rfl, TG_t3 167 (by decide +kernel) rfl⟩
set_option maxRecDepth 100000 in
theorem cmv_X6_makeReady : CMV miX6_makeReady 0 := ⟨TG_t4 218 rfl rfl, TG_t1 11 (by decide +kernel) rfl, ⟨by decide +kernel, by decide +kernel, by decide +kernel⟩, by decide, TG_t4 217 (by decide +kernel) rfl, TG_p 21 (by decide +kernel) rfl⟩
set_option maxRecDepth 100000 in
theorem cmv_X6_serveWaiting : CMV miX6_serveWaiting 1 := ⟨TG_t4 224 rfl rfl, TG_t1 11 (by decide +kernel) rfl, ⟨by decide +kernel, by decide +kernel, by decide +kernel⟩, by decide, TG_t4 223 (by decide +kernel) rfl, TG_p 22 (by decide +kernel) rfl⟩
set_option maxRecDepth 100000 in
theorem cmv_X6_nextSecond : CMV miX6_nextSecond 1 := ⟨TG_t5 17 rfl rfl, TG_t1 11 (by decide +kernel) rfl, ⟨by decide +kernel, by decide +kernel, by decide +kernel⟩, by decide, TG_t5 16 (by decide +kernel) rfl, TG_p 28 (by decide +kernel) rfl⟩
set_option maxRecDepth 100000 in
theorem cmv_X6_isOut : CMV miX6_isOut 1 := ⟨TG_t4 232 rfl rfl, TG_t1 11 (by decide +kernel) rfl, ⟨by decide +kernel, by decide +kernel, by decide +kernel⟩, by decide, TG_t4 231 (by decide +kernel) rfl, TG_p 24 (by decide +kernel) rfl⟩
set_option maxRecDepth 100000 in
theorem cmv_X6_endFor : CMV miX6_endFor 1 := ⟨TG_t5 22 rfl rfl, TG_t1 11 (by decide +kernel) rfl, ⟨by decide +kernel, by decide +kernel, by decide +kernel⟩, by decide, TG_t5 21 (by decide +kernel) rfl, TG_p 29 (by decide +kernel) rfl⟩
set_option maxRecDepth 100000 in
theorem cmv_X4_wayOf : CMV miX4_wayOf 2 := ⟨TG_t4 155 rfl rfl, TG_t1 2 (by decide +kernel) rfl, ⟨by decide +kernel, by decide +kernel, by decide +kernel⟩, by decide, TG_t4 153 (by decide +kernel) rfl, TG_t4 154 (by decide +kernel) rfl⟩
set_option maxRecDepth 100000 in
theorem cmv_X4_goesAt : CMV miX4_goesAt 2 := ⟨TG_t4 163 rfl rfl, TG_t1 2 (by decide +kernel) rfl, ⟨by decide +kernel, by decide +kernel, by decide +kernel⟩, by decide, TG_t4 161 (by decide +kernel) rfl, TG_t4 162 (by decide +kernel) rfl⟩
set_option maxRecDepth 100000 in
theorem cmv_X6_nextServed : CMV miX6_nextServed 1 := ⟨TG_t4 228 rfl rfl, TG_t1 11 (by decide +kernel) rfl, ⟨by decide +kernel, by decide +kernel, by decide +kernel⟩, by decide, TG_t4 227 (by decide +kernel) rfl, TG_p 23 (by decide +kernel) rfl⟩
set_option maxRecDepth 100000 in
theorem cmv_X6_begin : CMV miX6_begin 2 := ⟨TG_t5 9 rfl rfl, TG_t1 11 (by decide +kernel) rfl, ⟨by decide +kernel, by decide +kernel, by decide +kernel⟩, by decide, TG_t5 8 (by decide +kernel) rfl, TG_p 27 (by decide +kernel) rfl⟩
set_option maxRecDepth 100000 in
theorem cmv_X6_rankOf : CMV miX6_rankOf 2 := ⟨TG_t4 236 rfl rfl, TG_t1 11 (by decide +kernel) rfl, ⟨by decide +kernel, by decide +kernel, by decide +kernel⟩, by decide, TG_t4 235 (by decide +kernel) rfl, TG_p 25 (by decide +kernel) rfl⟩
set_option maxRecDepth 100000 in
theorem cmv_X6_wantsToo : CMV miX6_wantsToo 2 := ⟨TG_t5 0 rfl rfl, TG_t1 11 (by decide +kernel) rfl, ⟨by decide +kernel, by decide +kernel, by decide +kernel⟩, by decide, TG_t4 239 (by decide +kernel) rfl, TG_p 26 (by decide +kernel) rfl⟩
set_option maxRecDepth 100000 in
theorem cmv_X2_value : CMV miX2_value 4 := ⟨TG_t5 5 rfl rfl, TG_t1 3 (by decide +kernel) rfl, ⟨by decide +kernel, by decide +kernel, by decide +kernel⟩, by decide, TG_t5 3 (by decide +kernel) rfl, TG_t5 4 (by decide +kernel) rfl⟩
set_option maxRecDepth 100000 in
theorem cmv_X4_secsFor : CMV miX4_secsFor 1 := ⟨TG_t5 13 rfl rfl, TG_t1 2 (by decide +kernel) rfl, ⟨by decide +kernel, by decide +kernel, by decide +kernel⟩, by decide, TG_t5 11 (by decide +kernel) rfl, TG_t5 12 (by decide +kernel) rfl⟩
set_option maxRecDepth 100000 in
theorem cmv_X6_drink : CMV miX6_drink 1 := ⟨TG_t5 26 rfl rfl, TG_t1 11 (by decide +kernel) rfl, ⟨by decide +kernel, by decide +kernel, by decide +kernel⟩, by decide, TG_t5 25 (by decide +kernel) rfl, TG_p 30 (by decide +kernel) rfl⟩
set_option maxRecDepth 100000 in
theorem cmv_X6_coolsWithin : CMV miX6_coolsWithin 1 := ⟨TG_t5 30 rfl rfl, TG_t1 11 (by decide +kernel) rfl, ⟨by decide +kernel, by decide +kernel, by decide +kernel⟩, by decide, TG_t5 29 (by decide +kernel) rfl, TG_p 31 (by decide +kernel) rfl⟩
set_option maxRecDepth 100000 in
theorem cmv_X6_heatOf : CMV miX6_heatOf 2 := ⟨TG_t5 36 rfl rfl, TG_t1 11 (by decide +kernel) rfl, ⟨by decide +kernel, by decide +kernel, by decide +kernel⟩, by decide, TG_t5 35 (by decide +kernel) rfl, TG_p 32 (by decide +kernel) rfl⟩
set_option maxRecDepth 100000 in
theorem cmv_X4_priceFor : CMV miX4_priceFor 1 := ⟨TG_t5 44 rfl rfl, TG_t1 2 (by decide +kernel) rfl, ⟨by decide +kernel, by decide +kernel, by decide +kernel⟩, by decide, TG_t5 42 (by decide +kernel) rfl, TG_t5 43 (by decide +kernel) rfl⟩
set_option maxRecDepth 100000 in
theorem cms_J6_bitCount_0f7a4 : CMS miJ6_bitCount_0f7a4 1 := ⟨TG_t5 51 rfl rfl, TG_t1 22 (by decide +kernel) rfl, ⟨by decide +kernel, by decide +kernel, by decide +kernel⟩, by decide, TG_t5 50 (by decide +kernel) rfl⟩
set_option maxRecDepth 100000 in
theorem cmv_X7_copyHand : CMV miX7_copyHand 1 := ⟨TG_t5 84 rfl rfl, TG_t1 6 (by decide +kernel) rfl, ⟨by decide +kernel, by decide +kernel, by decide +kernel⟩, by decide, TG_t5 82 (by decide +kernel) rfl, TG_t5 83 (by decide +kernel) rfl⟩
set_option maxRecDepth 100000 in
theorem cmv_X7_takeLines : CMV miX7_takeLines 2 := ⟨TG_t4 132 rfl rfl, TG_t1 6 (by decide +kernel) rfl, ⟨by decide +kernel, by decide +kernel, by decide +kernel⟩, by decide, TG_t4 130 (by decide +kernel) rfl, TG_t4 131 (by decide +kernel) rfl⟩
set_option maxRecDepth 100000 in
theorem cmv_X7_valueOf : CMV miX7_valueOf 3 := ⟨TG_t4 177 rfl rfl, TG_t1 6 (by decide +kernel) rfl, ⟨by decide +kernel, by decide +kernel, by decide +kernel⟩, by decide, TG_t4 175 (by decide +kernel) rfl, TG_t4 176 (by decide +kernel) rfl⟩
set_option maxRecDepth 100000 in
theorem cms_X7_isAllowed : CMS miX7_isAllowed 3 := ⟨TG_t4 185 rfl rfl, TG_t1 6 (by decide +kernel) rfl, ⟨by decide +kernel, by decide +kernel, by decide +kernel⟩, by decide, TG_t4 184 (by decide +kernel) rfl⟩
set_option maxRecDepth 100000 in
theorem cmv_X8_stepWord : CMV miX8_stepWord 0 := ⟨TG_t3 47 rfl rfl, TG_t1 7 (by decide +kernel) rfl, ⟨by decide +kernel, by decide +kernel, by decide +kernel⟩, by decide, TG_t3 46 (by decide +kernel) rfl, TG_p 0 (by decide +kernel) rfl⟩
set_option maxRecDepth 100000 in
theorem cmv_X8_stepNumber : CMV miX8_stepNumber 0 := ⟨TG_t3 54 rfl rfl, TG_t1 7 (by decide +kernel) rfl, ⟨by decide +kernel, by decide +kernel, by decide +kernel⟩, by decide, TG_t3 53 (by decide +kernel) rfl, TG_p 1 (by decide +kernel) rfl⟩
set_option maxRecDepth 100000 in
theorem cmv_J0_indexOf_0f7a4 : CMV miJ0_indexOf_0f7a4 1 := ⟨TG_t3 59 rfl rfl, TG_t1 13 (by decide +kernel) rfl, ⟨by decide +kernel, by decide +kernel, by decide +kernel⟩, by decide, TG_t3 57 (by decide +kernel) rfl, TG_t3 58 (by decide +kernel) rfl⟩
set_option maxRecDepth 100000 in
theorem cmv_X7_startWith : CMV miX7_startWith 1 := ⟨TG_t2 106 rfl rfl, TG_t1 6 (by decide +kernel) rfl, ⟨by decide +kernel, by decide +kernel, by decide +kernel⟩, by decide, TG_t2 104 (by decide +kernel) rfl, TG_t2 105 (by decide +kernel) rfl⟩
set_option maxRecDepth 100000 in
theorem cmv_X8_append : CMV miX8_append 1 := ⟨TG_t3 25 rfl rfl, TG_t1 7 (by decide +kernel) rfl, ⟨by decide +kernel, by decide +kernel, by decide +kernel⟩, by decide, TG_t3 23 (by decide +kernel) rfl, TG_t3 24 (by decide +kernel) rfl⟩
set_option maxRecDepth 100000 in
theorem cmv_X5_read : CMV miX5_read 1 := ⟨TG_t3 34 rfl rfl, TG_t1 8 (by decide +kernel) rfl, ⟨by decide +kernel, by decide +kernel, by decide +kernel⟩, by decide, TG_t3 32 (by decide +kernel) rfl, TG_t3 33 (by decide +kernel) rfl⟩
set_option maxRecDepth 100000 in
theorem cmv_X7_forget : CMV miX7_forget 0 := ⟨TG_t4 87 rfl rfl, TG_t1 6 (by decide +kernel) rfl, ⟨by decide +kernel, by decide +kernel, by decide +kernel⟩, by decide, TG_t4 85 (by decide +kernel) rfl, TG_t4 86 (by decide +kernel) rfl⟩
set_option maxRecDepth 100000 in
theorem cmv_X1_read : CMV miX1_read 1 := ⟨TG_t4 96 rfl rfl, TG_t1 10 (by decide +kernel) rfl, ⟨by decide +kernel, by decide +kernel, by decide +kernel⟩, by decide, TG_t4 94 (by decide +kernel) rfl, TG_t4 95 (by decide +kernel) rfl⟩
set_option maxRecDepth 100000 in
theorem cmv_X11_isThing : CMV miX11_isThing 1 := ⟨TG_t4 143 rfl rfl, TG_t1 1 (by decide +kernel) rfl, ⟨by decide +kernel, by decide +kernel, by decide +kernel⟩, by decide, TG_t4 142 (by decide +kernel) rfl, TG_p 17 (by decide +kernel) rfl⟩
set_option maxRecDepth 100000 in
theorem cmv_X11_isBuyer : CMV miX11_isBuyer 1 := ⟨TG_t4 151 rfl rfl, TG_t1 1 (by decide +kernel) rfl, ⟨by decide +kernel, by decide +kernel, by decide +kernel⟩, by decide, TG_t4 150 (by decide +kernel) rfl, TG_p 18 (by decide +kernel) rfl⟩
set_option maxRecDepth 100000 in
theorem cmv_X11_changeByHand : CMV miX11_changeByHand 3 := ⟨TG_t4 173 rfl rfl, TG_t1 1 (by decide +kernel) rfl, ⟨by decide +kernel, by decide +kernel, by decide +kernel⟩, by decide, TG_t4 172 (by decide +kernel) rfl, TG_p 19 (by decide +kernel) rfl⟩
set_option maxRecDepth 100000 in
theorem cmv_X7_change : CMV miX7_change 4 := ⟨TG_t4 181 rfl rfl, TG_t1 6 (by decide +kernel) rfl, ⟨by decide +kernel, by decide +kernel, by decide +kernel⟩, by decide, TG_t4 179 (by decide +kernel) rfl, TG_t4 180 (by decide +kernel) rfl⟩
set_option maxRecDepth 100000 in
theorem cmv_X11_playTrial : CMV miX11_playTrial 0 := ⟨TG_t4 206 rfl rfl, TG_t1 1 (by decide +kernel) rfl, ⟨by decide +kernel, by decide +kernel, by decide +kernel⟩, by decide, TG_t4 205 (by decide +kernel) rfl, TG_p 20 (by decide +kernel) rfl⟩
set_option maxRecDepth 100000 in
theorem cmv_X6_paid : CMV miX6_paid 0 := ⟨TG_t5 40 rfl rfl, TG_t1 11 (by decide +kernel) rfl, ⟨by decide +kernel, by decide +kernel, by decide +kernel⟩, by decide, TG_t5 38 (by decide +kernel) rfl, TG_t5 39 (by decide +kernel) rfl⟩
set_option maxRecDepth 100000 in
theorem cmv_X6_drunkInAll : CMV miX6_drunkInAll 0 := ⟨TG_t5 48 rfl rfl, TG_t1 11 (by decide +kernel) rfl, ⟨by decide +kernel, by decide +kernel, by decide +kernel⟩, by decide, TG_t5 46 (by decide +kernel) rfl, TG_t5 47 (by decide +kernel) rfl⟩
set_option maxRecDepth 100000 in
theorem cmv_X11_playNow : CMV miX11_playNow 0 := ⟨TG_t5 62 rfl rfl, TG_t1 1 (by decide +kernel) rfl, ⟨by decide +kernel, by decide +kernel, by decide +kernel⟩, by decide, TG_t5 61 (by decide +kernel) rfl, TG_p 33 (by decide +kernel) rfl⟩
set_option maxRecDepth 100000 in
theorem cmv_X6_leftInAll : CMV miX6_leftInAll 0 := ⟨TG_t5 70 rfl rfl, TG_t1 11 (by decide +kernel) rfl, ⟨by decide +kernel, by decide +kernel, by decide +kernel⟩, by decide, TG_t5 68 (by decide +kernel) rfl, TG_t5 69 (by decide +kernel) rfl⟩
set_option maxRecDepth 100000 in
theorem cmv_X6_servedBy : CMV miX6_servedBy 1 := ⟨TG_t5 76 rfl rfl, TG_t1 11 (by decide +kernel) rfl, ⟨by decide +kernel, by decide +kernel, by decide +kernel⟩, by decide, TG_t5 74 (by decide +kernel) rfl, TG_t5 75 (by decide +kernel) rfl⟩
set_option maxRecDepth 100000 in
theorem cmv_X11_weightOf : CMV miX11_weightOf 2 := ⟨TG_t5 88 rfl rfl, TG_t1 1 (by decide +kernel) rfl, ⟨by decide +kernel, by decide +kernel, by decide +kernel⟩, by decide, TG_t5 87 (by decide +kernel) rfl, TG_p 34 (by decide +kernel) rfl⟩
set_option maxRecDepth 100000 in
theorem cmv_X11_isSome : CMV miX11_isSome 1 := ⟨TG_t5 97 rfl rfl, TG_t1 1 (by decide +kernel) rfl, ⟨by decide +kernel, by decide +kernel, by decide +kernel⟩, by decide, TG_t5 96 (by decide +kernel) rfl, TG_p 35 (by decide +kernel) rfl⟩
set_option maxRecDepth 100000 in
theorem cmv_X11_fillGains : CMV miX11_fillGains 1 := ⟨TG_t6 26 rfl rfl, TG_t1 1 (by decide +kernel) rfl, ⟨by decide +kernel, by decide +kernel, by decide +kernel⟩, by decide, TG_t6 25 (by decide +kernel) rfl, TG_p 41 (by decide +kernel) rfl⟩
set_option maxRecDepth 100000 in
theorem cmv_X11_isAtRest : CMV miX11_isAtRest 2 := ⟨TG_t6 30 rfl rfl, TG_t1 1 (by decide +kernel) rfl, ⟨by decide +kernel, by decide +kernel, by decide +kernel⟩, by decide, TG_t6 29 (by decide +kernel) rfl, TG_p 42 (by decide +kernel) rfl⟩
set_option maxRecDepth 100000 in
theorem cmv_X11_errandSecond : CMV miX11_errandSecond 2 := ⟨TG_t5 101 rfl rfl, TG_t1 1 (by decide +kernel) rfl, ⟨by decide +kernel, by decide +kernel, by decide +kernel⟩, by decide, TG_t5 100 (by decide +kernel) rfl, TG_p 36 (by decide +kernel) rfl⟩
set_option maxRecDepth 100000 in
theorem cmv_X6_layOut : CMV miX6_layOut 2 := ⟨TG_t4 210 rfl rfl, TG_t1 11 (by decide +kernel) rfl, ⟨by decide +kernel, by decide +kernel, by decide +kernel⟩, by decide, TG_t4 208 (by decide +kernel) rfl, TG_t4 209 (by decide +kernel) rfl⟩
set_option maxRecDepth 100000 in
theorem cmv_X6_play : CMV miX6_play 0 := ⟨TG_t4 214 rfl rfl, TG_t1 11 (by decide +kernel) rfl, ⟨by decide +kernel, by decide +kernel, by decide +kernel⟩, by decide, TG_t4 212 (by decide +kernel) rfl, TG_t4 213 (by decide +kernel) rfl⟩
set_option maxRecDepth 100000 in
theorem cmv_X11_isPoured : CMV miX11_isPoured 1 := ⟨TG_t5 121 rfl rfl, TG_t1 1 (by decide +kernel) rfl, ⟨by decide +kernel, by decide +kernel, by decide +kernel⟩, by decide, TG_t5 120 (by decide +kernel) rfl, TG_p 37 (by decide +kernel) rfl⟩
set_option maxRecDepth 100000 in
theorem cmv_X6_pouredBack : CMV miX6_pouredBack 0 := ⟨TG_t5 125 rfl rfl, TG_t1 11 (by decide +kernel) rfl, ⟨by decide +kernel, by decide +kernel, by decide +kernel⟩, by decide, TG_t5 123 (by decide +kernel) rfl, TG_t5 124 (by decide +kernel) rfl⟩
set_option maxRecDepth 100000 in
theorem cmv_X11_trayPence : CMV miX11_trayPence 2 := ⟨TG_t5 133 rfl rfl, TG_t1 1 (by decide +kernel) rfl, ⟨by decide +kernel, by decide +kernel, by decide +kernel⟩, by decide, TG_t5 132 (by decide +kernel) rfl, TG_p 38 (by decide +kernel) rfl⟩
set_option maxRecDepth 100000 in
theorem cmv_X11_meanAhead : CMV miX11_meanAhead 2 := ⟨TG_t5 146 rfl rfl, TG_t1 1 (by decide +kernel) rfl, ⟨by decide +kernel, by decide +kernel, by decide +kernel⟩, by decide, TG_t5 145 (by decide +kernel) rfl, TG_p 39 (by decide +kernel) rfl⟩
set_option maxRecDepth 100000 in
theorem cmv_X7_isLaw : CMV miX7_isLaw 2 := ⟨TG_t5 162 rfl rfl, TG_t1 6 (by decide +kernel) rfl, ⟨by decide +kernel, by decide +kernel, by decide +kernel⟩, by decide, TG_t5 160 (by decide +kernel) rfl, TG_t5 161 (by decide +kernel) rfl⟩
set_option maxRecDepth 100000 in
theorem cmv_X7_copyAll : CMV miX7_copyAll 1 := ⟨TG_t5 187 rfl rfl, TG_t1 6 (by decide +kernel) rfl, ⟨by decide +kernel, by decide +kernel, by decide +kernel⟩, by decide, TG_t5 185 (by decide +kernel) rfl, TG_t5 186 (by decide +kernel) rfl⟩
set_option maxRecDepth 100000 in
theorem cmv_X12_plain : CMV miX12_plain 1 := ⟨TG_t6 40 rfl rfl, TG_t1 12 (by decide +kernel) rfl, ⟨by decide +kernel, by decide +kernel, by decide +kernel⟩, by decide, TG_t6 39 (by decide +kernel) rfl, TG_p 43 (by decide +kernel) rfl⟩
set_option maxRecDepth 100000 in
theorem cmv_X12_fresh : CMV miX12_fresh 0 := ⟨TG_t6 44 rfl rfl, TG_t1 12 (by decide +kernel) rfl, ⟨by decide +kernel, by decide +kernel, by decide +kernel⟩, by decide, TG_t6 43 (by decide +kernel) rfl, TG_p 44 (by decide +kernel) rfl⟩
set_option maxRecDepth 100000 in
theorem cmv_X12_signAt : CMV miX12_signAt 1 := ⟨TG_t7 69 rfl rfl, TG_t1 12 (by decide +kernel) rfl, ⟨by decide +kernel, by decide +kernel, by decide +kernel⟩, by decide, TG_t7 68 (by decide +kernel) rfl, TG_p 48 (by decide +kernel) rfl⟩
set_option maxRecDepth 100000 in
theorem cmv_X12_fact : CMV miX12_fact 0 := ⟨TG_t7 206 rfl rfl, TG_t1 12 (by decide +kernel) rfl, ⟨by decide +kernel, by decide +kernel, by decide +kernel⟩, by decide, TG_t7 205 (by decide +kernel) rfl, TG_p 72 (by decide +kernel) rfl⟩
set_option maxRecDepth 100000 in
theorem cmv_X12_isWord : CMV miX12_isWord 1 := ⟨TG_t7 76 rfl rfl, TG_t1 12 (by decide +kernel) rfl, ⟨by decide +kernel, by decide +kernel, by decide +kernel⟩, by decide, TG_t7 75 (by decide +kernel) rfl, TG_p 49 (by decide +kernel) rfl⟩
set_option maxRecDepth 100000 in
theorem cmv_X12_isSign : CMV miX12_isSign 1 := ⟨TG_t7 112 rfl rfl, TG_t1 12 (by decide +kernel) rfl, ⟨by decide +kernel, by decide +kernel, by decide +kernel⟩, by decide, TG_t7 111 (by decide +kernel) rfl, TG_p 57 (by decide +kernel) rfl⟩
set_option maxRecDepth 100000 in
theorem cmv_X12_fails : CMV miX12_fails 1 := ⟨TG_t7 88 rfl rfl, TG_t1 12 (by decide +kernel) rfl, ⟨by decide +kernel, by decide +kernel, by decide +kernel⟩, by decide, TG_t7 87 (by decide +kernel) rfl, TG_p 52 (by decide +kernel) rfl⟩
set_option maxRecDepth 100000 in
theorem cmv_X12_puts : CMV miX12_puts 1 := ⟨TG_t7 214 rfl rfl, TG_t1 12 (by decide +kernel) rfl, ⟨by decide +kernel, by decide +kernel, by decide +kernel⟩, by decide, TG_t7 213 (by decide +kernel) rfl, TG_p 73 (by decide +kernel) rfl⟩
set_option maxRecDepth 100000 in
theorem cmv_X12_nextToken : CMV miX12_nextToken 0 := ⟨TG_t7 65 rfl rfl, TG_t1 12 (by decide +kernel) rfl, ⟨by decide +kernel, by decide +kernel, by decide +kernel⟩, by decide, TG_t7 64 (by decide +kernel) rfl, TG_p 47 (by decide +kernel) rfl⟩
set_option maxRecDepth 100000 in
theorem cmv_X12_sums : CMV miX12_sums 1 := ⟨TG_t8 96 rfl rfl, TG_t1 12 (by decide +kernel) rfl, ⟨by decide +kernel, by decide +kernel, by decide +kernel⟩, by decide, TG_t8 95 (by decide +kernel) rfl, TG_p 92 (by decide +kernel) rfl⟩
set_option maxRecDepth 100000 in
theorem cmv_X12_opens : CMV miX12_opens 1 := ⟨TG_t8 92 rfl rfl, TG_t1 12 (by decide +kernel) rfl, ⟨by decide +kernel, by decide +kernel, by decide +kernel⟩, by decide, TG_t8 91 (by decide +kernel) rfl, TG_p 91 (by decide +kernel) rfl⟩
set_option maxRecDepth 100000 in
theorem cmv_X12_tests : CMV miX12_tests 1 := ⟨TG_t8 100 rfl rfl, TG_t1 12 (by decide +kernel) rfl, ⟨by decide +kernel, by decide +kernel, by decide +kernel⟩, by decide, TG_t8 99 (by decide +kernel) rfl, TG_p 93 (by decide +kernel) rfl⟩
set_option maxRecDepth 100000 in
theorem cms_X12_named : CMS miX12_named 4 := ⟨TG_t7 162 rfl rfl, TG_t1 12 (by decide +kernel) rfl, ⟨by decide +kernel, by decide +kernel, by decide +kernel⟩, by decide, TG_t7 161 (by decide +kernel) rfl⟩
set_option maxRecDepth 100000 in
theorem cms_X12_within : CMS miX12_within 3 := ⟨TG_t7 95 rfl rfl, TG_t1 12 (by decide +kernel) rfl, ⟨by decide +kernel, by decide +kernel, by decide +kernel⟩, by decide, TG_t7 94 (by decide +kernel) rfl⟩
set_option maxRecDepth 100000 in
theorem cmv_X12_needsWord : CMV miX12_needsWord 1 := ⟨TG_t7 104 rfl rfl, TG_t1 12 (by decide +kernel) rfl, ⟨by decide +kernel, by decide +kernel, by decide +kernel⟩, by decide, TG_t7 103 (by decide +kernel) rfl, TG_p 55 (by decide +kernel) rfl⟩
set_option maxRecDepth 100000 in
theorem cmv_X12_needsNumber : CMV miX12_needsNumber 2 := ⟨TG_t7 92 rfl rfl, TG_t1 12 (by decide +kernel) rfl, ⟨by decide +kernel, by decide +kernel, by decide +kernel⟩, by decide, TG_t7 91 (by decide +kernel) rfl, TG_p 53 (by decide +kernel) rfl⟩
set_option maxRecDepth 100000 in
theorem cmv_X12_isKept : CMV miX12_isKept 0 := ⟨TG_t7 125 rfl rfl, TG_t1 12 (by decide +kernel) rfl, ⟨by decide +kernel, by decide +kernel, by decide +kernel⟩, by decide, TG_t7 124 (by decide +kernel) rfl, TG_p 60 (by decide +kernel) rfl⟩
set_option maxRecDepth 100000 in
theorem cmv_X12_coachNamed : CMV miX12_coachNamed 0 := ⟨TG_t7 159 rfl rfl, TG_t1 12 (by decide +kernel) rfl, ⟨by decide +kernel, by decide +kernel, by decide +kernel⟩, by decide, TG_t7 158 (by decide +kernel) rfl, TG_p 61 (by decide +kernel) rfl⟩
set_option maxRecDepth 100000 in
theorem cmv_X12_thingNamed : CMV miX12_thingNamed 1 := ⟨TG_t7 166 rfl rfl, TG_t1 12 (by decide +kernel) rfl, ⟨by decide +kernel, by decide +kernel, by decide +kernel⟩, by decide, TG_t7 165 (by decide +kernel) rfl, TG_p 62 (by decide +kernel) rfl⟩
set_option maxRecDepth 100000 in
theorem cmv_X12_buyerNamed : CMV miX12_buyerNamed 1 := ⟨TG_t7 170 rfl rfl, TG_t1 12 (by decide +kernel) rfl, ⟨by decide +kernel, by decide +kernel, by decide +kernel⟩, by decide, TG_t7 169 (by decide +kernel) rfl, TG_p 63 (by decide +kernel) rfl⟩
set_option maxRecDepth 100000 in
theorem cmv_X12_isTwice : CMV miX12_isTwice 1 := ⟨TG_t7 84 rfl rfl, TG_t1 12 (by decide +kernel) rfl, ⟨by decide +kernel, by decide +kernel, by decide +kernel⟩, by decide, TG_t7 83 (by decide +kernel) rfl, TG_p 51 (by decide +kernel) rfl⟩
set_option maxRecDepth 100000 in
theorem cmv_X12_needsBoth : CMV miX12_needsBoth 3 := ⟨TG_t7 100 rfl rfl, TG_t1 12 (by decide +kernel) rfl, ⟨by decide +kernel, by decide +kernel, by decide +kernel⟩, by decide, TG_t7 99 (by decide +kernel) rfl, TG_p 54 (by decide +kernel) rfl⟩
set_option maxRecDepth 100000 in
theorem cmv_X12_closes : CMV miX12_closes 0 := ⟨TG_t7 108 rfl rfl, TG_t1 12 (by decide +kernel) rfl, ⟨by decide +kernel, by decide +kernel, by decide +kernel⟩, by decide, TG_t7 107 (by decide +kernel) rfl, TG_p 56 (by decide +kernel) rfl⟩
set_option maxRecDepth 100000 in
theorem cmv_X12_isNew : CMV miX12_isNew 0 := ⟨TG_t7 121 rfl rfl, TG_t1 12 (by decide +kernel) rfl, ⟨by decide +kernel, by decide +kernel, by decide +kernel⟩, by decide, TG_t7 120 (by decide +kernel) rfl, TG_p 59 (by decide +kernel) rfl⟩
set_option maxRecDepth 100000 in
theorem cmv_X12_needsThing : CMV miX12_needsThing 1 := ⟨TG_t7 186 rfl rfl, TG_t1 12 (by decide +kernel) rfl, ⟨by decide +kernel, by decide +kernel, by decide +kernel⟩, by decide, TG_t7 185 (by decide +kernel) rfl, TG_p 67 (by decide +kernel) rfl⟩
set_option maxRecDepth 100000 in
theorem cmv_X12_readsWants : CMV miX12_readsWants 1 := ⟨TG_t7 182 rfl rfl, TG_t1 12 (by decide +kernel) rfl, ⟨by decide +kernel, by decide +kernel, by decide +kernel⟩, by decide, TG_t7 181 (by decide +kernel) rfl, TG_p 66 (by decide +kernel) rfl⟩
set_option maxRecDepth 100000 in
theorem cmv_X12_reads : CMV miX12_reads 0 := ⟨TG_t7 202 rfl rfl, TG_t1 12 (by decide +kernel) rfl, ⟨by decide +kernel, by decide +kernel, by decide +kernel⟩, by decide, TG_t7 201 (by decide +kernel) rfl, TG_p 71 (by decide +kernel) rfl⟩
set_option maxRecDepth 100000 in
theorem cmv_X12_starts : CMV miX12_starts 0 := ⟨TG_t7 61 rfl rfl, TG_t1 12 (by decide +kernel) rfl, ⟨by decide +kernel, by decide +kernel, by decide +kernel⟩, by decide, TG_t7 60 (by decide +kernel) rfl, TG_p 46 (by decide +kernel) rfl⟩
set_option maxRecDepth 100000 in
theorem cmv_X12_readsStop : CMV miX12_readsStop 0 := ⟨TG_t7 80 rfl rfl, TG_t1 12 (by decide +kernel) rfl, ⟨by decide +kernel, by decide +kernel, by decide +kernel⟩, by decide, TG_t7 79 (by decide +kernel) rfl, TG_p 50 (by decide +kernel) rfl⟩
set_option maxRecDepth 100000 in
theorem cmv_X12_readsCoach : CMV miX12_readsCoach 0 := ⟨TG_t7 117 rfl rfl, TG_t1 12 (by decide +kernel) rfl, ⟨by decide +kernel, by decide +kernel, by decide +kernel⟩, by decide, TG_t7 116 (by decide +kernel) rfl, TG_p 58 (by decide +kernel) rfl⟩
set_option maxRecDepth 100000 in
theorem cmv_X12_readsThing : CMV miX12_readsThing 0 := ⟨TG_t7 174 rfl rfl, TG_t1 12 (by decide +kernel) rfl, ⟨by decide +kernel, by decide +kernel, by decide +kernel⟩, by decide, TG_t7 173 (by decide +kernel) rfl, TG_p 64 (by decide +kernel) rfl⟩
set_option maxRecDepth 100000 in
theorem cmv_X12_readsBuyer : CMV miX12_readsBuyer 0 := ⟨TG_t7 178 rfl rfl, TG_t1 12 (by decide +kernel) rfl, ⟨by decide +kernel, by decide +kernel, by decide +kernel⟩, by decide, TG_t7 177 (by decide +kernel) rfl, TG_p 65 (by decide +kernel) rfl⟩
set_option maxRecDepth 100000 in
theorem cmv_X12_readsOne : CMV miX12_readsOne 3 := ⟨TG_t7 190 rfl rfl, TG_t1 12 (by decide +kernel) rfl, ⟨by decide +kernel, by decide +kernel, by decide +kernel⟩, by decide, TG_t7 189 (by decide +kernel) rfl, TG_p 68 (by decide +kernel) rfl⟩
set_option maxRecDepth 100000 in
theorem cmv_X12_readsLate : CMV miX12_readsLate 0 := ⟨TG_t7 194 rfl rfl, TG_t1 12 (by decide +kernel) rfl, ⟨by decide +kernel, by decide +kernel, by decide +kernel⟩, by decide, TG_t7 193 (by decide +kernel) rfl, TG_p 69 (by decide +kernel) rfl⟩
set_option maxRecDepth 100000 in
theorem cmv_X12_readsOrder : CMV miX12_readsOrder 0 := ⟨TG_t7 198 rfl rfl, TG_t1 12 (by decide +kernel) rfl, ⟨by decide +kernel, by decide +kernel, by decide +kernel⟩, by decide, TG_t7 197 (by decide +kernel) rfl, TG_p 70 (by decide +kernel) rfl⟩
set_option maxRecDepth 100000 in
theorem cms_X12_moves : CMS miX12_moves 2 := ⟨TG_t7 221 rfl rfl, TG_t1 12 (by decide +kernel) rfl, ⟨by decide +kernel, by decide +kernel, by decide +kernel⟩, by decide, TG_t7 220 (by decide +kernel) rfl⟩
set_option maxRecDepth 100000 in
theorem cms_X12_movesNames : CMS miX12_movesNames 2 := ⟨TG_t7 224 rfl rfl, TG_t1 12 (by decide +kernel) rfl, ⟨by decide +kernel, by decide +kernel, by decide +kernel⟩, by decide, TG_t7 223 (by decide +kernel) rfl⟩
set_option maxRecDepth 100000 in
theorem cmv_X12_readsAll : CMV miX12_readsAll 0 := ⟨TG_t7 57 rfl rfl, TG_t1 12 (by decide +kernel) rfl, ⟨by decide +kernel, by decide +kernel, by decide +kernel⟩, by decide, TG_t7 56 (by decide +kernel) rfl, TG_p 45 (by decide +kernel) rfl⟩
set_option maxRecDepth 100000 in
theorem cmv_X12_lays : CMV miX12_lays 0 := ⟨TG_t7 218 rfl rfl, TG_t1 12 (by decide +kernel) rfl, ⟨by decide +kernel, by decide +kernel, by decide +kernel⟩, by decide, TG_t7 217 (by decide +kernel) rfl, TG_p 74 (by decide +kernel) rfl⟩
set_option maxRecDepth 100000 in
theorem cmv_X12_readsLine : CMV miX12_readsLine 0 := ⟨TG_t7 232 rfl rfl, TG_t1 12 (by decide +kernel) rfl, ⟨by decide +kernel, by decide +kernel, by decide +kernel⟩, by decide, TG_t7 231 (by decide +kernel) rfl, TG_p 75 (by decide +kernel) rfl⟩
set_option maxRecDepth 100000 in
theorem cmv_X12_laysLines : CMV miX12_laysLines 2 := ⟨TG_t7 236 rfl rfl, TG_t1 12 (by decide +kernel) rfl, ⟨by decide +kernel, by decide +kernel, by decide +kernel⟩, by decide, TG_t7 235 (by decide +kernel) rfl, TG_p 76 (by decide +kernel) rfl⟩
set_option maxRecDepth 100000 in
theorem cms_X12_away : CMS miX12_away 2 := ⟨TG_t8 19 rfl rfl, TG_t1 12 (by decide +kernel) rfl, ⟨by decide +kernel, by decide +kernel, by decide +kernel⟩, by decide, TG_t8 18 (by decide +kernel) rfl⟩
set_option maxRecDepth 100000 in
theorem cmv_X12_wayOf : CMV miX12_wayOf 1 := ⟨TG_t8 16 rfl rfl, TG_t1 12 (by decide +kernel) rfl, ⟨by decide +kernel, by decide +kernel, by decide +kernel⟩, by decide, TG_t8 15 (by decide +kernel) rfl, TG_p 79 (by decide +kernel) rfl⟩
set_option maxRecDepth 100000 in
theorem cmv_X12_secsOf : CMV miX12_secsOf 1 := ⟨TG_t8 108 rfl rfl, TG_t1 12 (by decide +kernel) rfl, ⟨by decide +kernel, by decide +kernel, by decide +kernel⟩, by decide, TG_t8 107 (by decide +kernel) rfl, TG_p 95 (by decide +kernel) rfl⟩
set_option maxRecDepth 100000 in
theorem cmv_X12_wants : CMV miX12_wants 2 := ⟨TG_t8 112 rfl rfl, TG_t1 12 (by decide +kernel) rfl, ⟨by decide +kernel, by decide +kernel, by decide +kernel⟩, by decide, TG_t8 111 (by decide +kernel) rfl, TG_p 96 (by decide +kernel) rfl⟩
set_option maxRecDepth 100000 in
theorem cmv_X12_comesAt : CMV miX12_comesAt 1 := ⟨TG_t8 76 rfl rfl, TG_t1 12 (by decide +kernel) rfl, ⟨by decide +kernel, by decide +kernel, by decide +kernel⟩, by decide, TG_t8 75 (by decide +kernel) rfl, TG_p 87 (by decide +kernel) rfl⟩
set_option maxRecDepth 100000 in
theorem cmv_X12_manyOf : CMV miX12_manyOf 1 := ⟨TG_t8 84 rfl rfl, TG_t1 12 (by decide +kernel) rfl, ⟨by decide +kernel, by decide +kernel, by decide +kernel⟩, by decide, TG_t8 83 (by decide +kernel) rfl, TG_p 89 (by decide +kernel) rfl⟩
set_option maxRecDepth 100000 in
theorem cmv_X12_worked : CMV miX12_worked 1 := ⟨TG_t8 88 rfl rfl, TG_t1 12 (by decide +kernel) rfl, ⟨by decide +kernel, by decide +kernel, by decide +kernel⟩, by decide, TG_t8 87 (by decide +kernel) rfl, TG_p 90 (by decide +kernel) rfl⟩
set_option maxRecDepth 100000 in
theorem cmv_X12_goesAt : CMV miX12_goesAt 1 := ⟨TG_t8 23 rfl rfl, TG_t1 12 (by decide +kernel) rfl, ⟨by decide +kernel, by decide +kernel, by decide +kernel⟩, by decide, TG_t8 22 (by decide +kernel) rfl, TG_p 80 (by decide +kernel) rfl⟩
set_option maxRecDepth 100000 in
theorem cmv_X12_orderOf : CMV miX12_orderOf 2 := ⟨TG_t8 80 rfl rfl, TG_t1 12 (by decide +kernel) rfl, ⟨by decide +kernel, by decide +kernel, by decide +kernel⟩, by decide, TG_t8 79 (by decide +kernel) rfl, TG_p 88 (by decide +kernel) rfl⟩
set_option maxRecDepth 100000 in
theorem cmv_X12_nextAt : CMV miX12_nextAt 1 := ⟨TG_t8 72 rfl rfl, TG_t1 12 (by decide +kernel) rfl, ⟨by decide +kernel, by decide +kernel, by decide +kernel⟩, by decide, TG_t8 71 (by decide +kernel) rfl, TG_p 86 (by decide +kernel) rfl⟩
set_option maxRecDepth 100000 in
theorem cmv_X12_lastsFor : CMV miX12_lastsFor 1 := ⟨TG_t8 104 rfl rfl, TG_t1 12 (by decide +kernel) rfl, ⟨by decide +kernel, by decide +kernel, by decide +kernel⟩, by decide, TG_t8 103 (by decide +kernel) rfl, TG_p 94 (by decide +kernel) rfl⟩
set_option maxRecDepth 100000 in
theorem cmv_X12_drinks : CMV miX12_drinks 1 := ⟨TG_t8 116 rfl rfl, TG_t1 12 (by decide +kernel) rfl, ⟨by decide +kernel, by decide +kernel, by decide +kernel⟩, by decide, TG_t8 115 (by decide +kernel) rfl, TG_p 97 (by decide +kernel) rfl⟩
set_option maxRecDepth 100000 in
theorem cmv_X12_heatAt : CMV miX12_heatAt 3 := ⟨TG_t8 120 rfl rfl, TG_t1 12 (by decide +kernel) rfl, ⟨by decide +kernel, by decide +kernel, by decide +kernel⟩, by decide, TG_t8 119 (by decide +kernel) rfl, TG_p 98 (by decide +kernel) rfl⟩
set_option maxRecDepth 100000 in
theorem cms_X12_bits : CMS miX12_bits 1 := ⟨TG_t8 131 rfl rfl, TG_t1 12 (by decide +kernel) rfl, ⟨by decide +kernel, by decide +kernel, by decide +kernel⟩, by decide, TG_t8 130 (by decide +kernel) rfl⟩
set_option maxRecDepth 100000 in
theorem cmv_X12_isThing : CMV miX12_isThing 1 := ⟨TG_t8 4 rfl rfl, TG_t1 12 (by decide +kernel) rfl, ⟨by decide +kernel, by decide +kernel, by decide +kernel⟩, by decide, TG_t8 3 (by decide +kernel) rfl, TG_p 77 (by decide +kernel) rfl⟩
set_option maxRecDepth 100000 in
theorem cmv_X12_isBuyer : CMV miX12_isBuyer 1 := ⟨TG_t8 12 rfl rfl, TG_t1 12 (by decide +kernel) rfl, ⟨by decide +kernel, by decide +kernel, by decide +kernel⟩, by decide, TG_t8 11 (by decide +kernel) rfl, TG_p 78 (by decide +kernel) rfl⟩
set_option maxRecDepth 100000 in
theorem cms_X12_copies : CMS miX12_copies 4 := ⟨TG_t8 44 rfl rfl, TG_t1 12 (by decide +kernel) rfl, ⟨by decide +kernel, by decide +kernel, by decide +kernel⟩, by decide, TG_t8 43 (by decide +kernel) rfl⟩
set_option maxRecDepth 100000 in
theorem cmv_X12_keeps : CMV miX12_keeps 0 := ⟨TG_t8 41 rfl rfl, TG_t1 12 (by decide +kernel) rfl, ⟨by decide +kernel, by decide +kernel, by decide +kernel⟩, by decide, TG_t8 40 (by decide +kernel) rfl, TG_p 83 (by decide +kernel) rfl⟩
set_option maxRecDepth 100000 in
theorem cmv_X12_outThen : CMV miX12_outThen 2 := ⟨TG_t8 33 rfl rfl, TG_t1 12 (by decide +kernel) rfl, ⟨by decide +kernel, by decide +kernel, by decide +kernel⟩, by decide, TG_t8 32 (by decide +kernel) rfl, TG_p 81 (by decide +kernel) rfl⟩
set_option maxRecDepth 100000 in
theorem cmv_X12_changes : CMV miX12_changes 3 := ⟨TG_t8 37 rfl rfl, TG_t1 12 (by decide +kernel) rfl, ⟨by decide +kernel, by decide +kernel, by decide +kernel⟩, by decide, TG_t8 36 (by decide +kernel) rfl, TG_p 82 (by decide +kernel) rfl⟩
set_option maxRecDepth 100000 in
theorem cmv_X12_runs : CMV miX12_runs 0 := ⟨TG_t8 68 rfl rfl, TG_t1 12 (by decide +kernel) rfl, ⟨by decide +kernel, by decide +kernel, by decide +kernel⟩, by decide, TG_t8 67 (by decide +kernel) rfl, TG_p 85 (by decide +kernel) rfl⟩
set_option maxRecDepth 100000 in
theorem cmv_X12_pence : CMV miX12_pence 0 := ⟨TG_t8 124 rfl rfl, TG_t1 12 (by decide +kernel) rfl, ⟨by decide +kernel, by decide +kernel, by decide +kernel⟩, by decide, TG_t8 123 (by decide +kernel) rfl, TG_p 99 (by decide +kernel) rfl⟩
set_option maxRecDepth 100000 in
theorem cmv_X12_drunkInAll : CMV miX12_drunkInAll 0 := ⟨TG_t8 128 rfl rfl, TG_t1 12 (by decide +kernel) rfl, ⟨by decide +kernel, by decide +kernel, by decide +kernel⟩, by decide, TG_t8 127 (by decide +kernel) rfl, TG_p 100 (by decide +kernel) rfl⟩
set_option maxRecDepth 100000 in
theorem cmv_X12_goes : CMV miX12_goes 1 := ⟨TG_t8 64 rfl rfl, TG_t1 12 (by decide +kernel) rfl, ⟨by decide +kernel, by decide +kernel, by decide +kernel⟩, by decide, TG_t8 63 (by decide +kernel) rfl, TG_p 84 (by decide +kernel) rfl⟩
set_option maxRecDepth 100000 in
theorem cmv_X12_leftInAll : CMV miX12_leftInAll 0 := ⟨TG_t8 143 rfl rfl, TG_t1 12 (by decide +kernel) rfl, ⟨by decide +kernel, by decide +kernel, by decide +kernel⟩, by decide, TG_t8 142 (by decide +kernel) rfl, TG_p 101 (by decide +kernel) rfl⟩
set_option maxRecDepth 100000 in
theorem cmv_X12_behindInAll : CMV miX12_behindInAll 0 := ⟨TG_t8 147 rfl rfl, TG_t1 12 (by decide +kernel) rfl, ⟨by decide +kernel, by decide +kernel, by decide +kernel⟩, by decide, TG_t8 146 (by decide +kernel) rfl, TG_p 102 (by decide +kernel) rfl⟩
set_option maxRecDepth 100000 in
theorem cmv_X12_servedBy : CMV miX12_servedBy 1 := ⟨TG_t8 152 rfl rfl, TG_t1 12 (by decide +kernel) rfl, ⟨by decide +kernel, by decide +kernel, by decide +kernel⟩, by decide, TG_t8 151 (by decide +kernel) rfl, TG_p 103 (by decide +kernel) rfl⟩
set_option maxRecDepth 100000 in
theorem cmv_X12_allBuyers : CMV miX12_allBuyers 0 := ⟨TG_t8 161 rfl rfl, TG_t1 12 (by decide +kernel) rfl, ⟨by decide +kernel, by decide +kernel, by decide +kernel⟩, by decide, TG_t8 160 (by decide +kernel) rfl, TG_p 104 (by decide +kernel) rfl⟩
set_option maxRecDepth 100000 in
theorem cmv_X12_hasAll : CMV miX12_hasAll 1 := ⟨TG_t8 165 rfl rfl, TG_t1 12 (by decide +kernel) rfl, ⟨by decide +kernel, by decide +kernel, by decide +kernel⟩, by decide, TG_t8 164 (by decide +kernel) rfl, TG_p 105 (by decide +kernel) rfl⟩
set_option maxRecDepth 100000 in
theorem cmv_X12_halves : CMV miX12_halves 0 := ⟨TG_t8 194 rfl rfl, TG_t1 12 (by decide +kernel) rfl, ⟨by decide +kernel, by decide +kernel, by decide +kernel⟩, by decide, TG_t8 193 (by decide +kernel) rfl, TG_p 106 (by decide +kernel) rfl⟩
set_option maxRecDepth 100000 in
theorem cmv_X12_trayOf : CMV miX12_trayOf 2 := ⟨TG_t8 202 rfl rfl, TG_t1 12 (by decide +kernel) rfl, ⟨by decide +kernel, by decide +kernel, by decide +kernel⟩, by decide, TG_t8 201 (by decide +kernel) rfl, TG_p 107 (by decide +kernel) rfl⟩
set_option maxRecDepth 100000 in
theorem cmv_X12_aheadOf : CMV miX12_aheadOf 2 := ⟨TG_t8 214 rfl rfl, TG_t1 12 (by decide +kernel) rfl, ⟨by decide +kernel, by decide +kernel, by decide +kernel⟩, by decide, TG_t8 213 (by decide +kernel) rfl, TG_p 108 (by decide +kernel) rfl⟩
set_option maxRecDepth 100000 in
theorem cmv_X12_isLaw : CMV miX12_isLaw 2 := ⟨TG_t8 230 rfl rfl, TG_t1 12 (by decide +kernel) rfl, ⟨by decide +kernel, by decide +kernel, by decide +kernel⟩, by decide, TG_t8 229 (by decide +kernel) rfl, TG_p 109 (by decide +kernel) rfl⟩
set_option maxRecDepth 100000 in
theorem cmv_X12_draws : CMV miX12_draws 1 := ⟨TG_t9 6 rfl rfl, TG_t1 12 (by decide +kernel) rfl, ⟨by decide +kernel, by decide +kernel, by decide +kernel⟩, by decide, TG_t9 5 (by decide +kernel) rfl, TG_p 110 (by decide +kernel) rfl⟩
set_option maxRecDepth 100000 in
theorem cmv_X12_laysTold : CMV miX12_laysTold 2 := ⟨TG_t9 18 rfl rfl, TG_t1 12 (by decide +kernel) rfl, ⟨by decide +kernel, by decide +kernel, by decide +kernel⟩, by decide, TG_t9 17 (by decide +kernel) rfl, TG_p 111 (by decide +kernel) rfl⟩
set_option maxRecDepth 100000 in
theorem cmv_X11_feed : CMV miX11_feed 3 := ⟨TG_t3 21 rfl rfl, TG_t1 1 (by decide +kernel) rfl, ⟨by decide +kernel, by decide +kernel, by decide +kernel⟩, by decide, TG_t3 19 (by decide +kernel) rfl, TG_t3 20 (by decide +kernel) rfl⟩
set_option maxRecDepth 100000 in
theorem cmv_X12_feed : CMV miX12_feed 3 := ⟨TG_t7 48 rfl rfl, TG_t1 12 (by decide +kernel) rfl, ⟨by decide +kernel, by decide +kernel, by decide +kernel⟩, by decide, TG_t7 46 (by decide +kernel) rfl, TG_t7 47 (by decide +kernel) rfl⟩
set_option maxRecDepth 100000 in
theorem cmv_X11_junction : CMV miX11_junction 0 := ⟨TG_t3 30 rfl rfl, TG_t1 1 (by decide +kernel) rfl, ⟨by decide +kernel, by decide +kernel, by decide +kernel⟩, by decide, TG_t3 28 (by decide +kernel) rfl, TG_t3 29 (by decide +kernel) rfl⟩
set_option maxRecDepth 100000 in
theorem cmv_X12_junction : CMV miX12_junction 0 := ⟨TG_t7 53 rfl rfl, TG_t1 12 (by decide +kernel) rfl, ⟨by decide +kernel, by decide +kernel, by decide +kernel⟩, by decide, TG_t7 51 (by decide +kernel) rfl, TG_t7 52 (by decide +kernel) rfl⟩
set_option maxRecDepth 100000 in
theorem cmv_X11_days : CMV miX11_days 0 := ⟨TG_t4 92 rfl rfl, TG_t1 1 (by decide +kernel) rfl, ⟨by decide +kernel, by decide +kernel, by decide +kernel⟩, by decide, TG_t4 90 (by decide +kernel) rfl, TG_t4 91 (by decide +kernel) rfl⟩
set_option maxRecDepth 100000 in
theorem cmv_X12_days : CMV miX12_days 0 := ⟨TG_t7 228 rfl rfl, TG_t1 12 (by decide +kernel) rfl, ⟨by decide +kernel, by decide +kernel, by decide +kernel⟩, by decide, TG_t7 226 (by decide +kernel) rfl, TG_t7 227 (by decide +kernel) rfl⟩
set_option maxRecDepth 100000 in
theorem cmv_X11_thing : CMV miX11_thing 2 := ⟨TG_t4 139 rfl rfl, TG_t1 1 (by decide +kernel) rfl, ⟨by decide +kernel, by decide +kernel, by decide +kernel⟩, by decide, TG_t4 137 (by decide +kernel) rfl, TG_t4 138 (by decide +kernel) rfl⟩
set_option maxRecDepth 100000 in
theorem cmv_X12_thing : CMV miX12_thing 2 := ⟨TG_t8 0 rfl rfl, TG_t1 12 (by decide +kernel) rfl, ⟨by decide +kernel, by decide +kernel, by decide +kernel⟩, by decide, TG_t7 238 (by decide +kernel) rfl, TG_t7 239 (by decide +kernel) rfl⟩
set_option maxRecDepth 100000 in
theorem cmv_X11_buyer : CMV miX11_buyer 2 := ⟨TG_t4 147 rfl rfl, TG_t1 1 (by decide +kernel) rfl, ⟨by decide +kernel, by decide +kernel, by decide +kernel⟩, by decide, TG_t4 145 (by decide +kernel) rfl, TG_t4 146 (by decide +kernel) rfl⟩
set_option maxRecDepth 100000 in
theorem cmv_X12_buyer : CMV miX12_buyer 2 := ⟨TG_t8 8 rfl rfl, TG_t1 12 (by decide +kernel) rfl, ⟨by decide +kernel, by decide +kernel, by decide +kernel⟩, by decide, TG_t8 6 (by decide +kernel) rfl, TG_t8 7 (by decide +kernel) rfl⟩
set_option maxRecDepth 100000 in
theorem cmv_X11_out : CMV miX11_out 2 := ⟨TG_t4 169 rfl rfl, TG_t1 1 (by decide +kernel) rfl, ⟨by decide +kernel, by decide +kernel, by decide +kernel⟩, by decide, TG_t4 167 (by decide +kernel) rfl, TG_t4 168 (by decide +kernel) rfl⟩
set_option maxRecDepth 100000 in
theorem cmv_X12_out : CMV miX12_out 2 := ⟨TG_t8 29 rfl rfl, TG_t1 12 (by decide +kernel) rfl, ⟨by decide +kernel, by decide +kernel, by decide +kernel⟩, by decide, TG_t8 27 (by decide +kernel) rfl, TG_t8 28 (by decide +kernel) rfl⟩
set_option maxRecDepth 100000 in
theorem cmv_X11_set : CMV miX11_set 2 := ⟨TG_t4 190 rfl rfl, TG_t1 1 (by decide +kernel) rfl, ⟨by decide +kernel, by decide +kernel, by decide +kernel⟩, by decide, TG_t4 188 (by decide +kernel) rfl, TG_t4 189 (by decide +kernel) rfl⟩
set_option maxRecDepth 100000 in
theorem cmv_X12_set : CMV miX12_set 2 := ⟨TG_t8 48 rfl rfl, TG_t1 12 (by decide +kernel) rfl, ⟨by decide +kernel, by decide +kernel, by decide +kernel⟩, by decide, TG_t8 46 (by decide +kernel) rfl, TG_t8 47 (by decide +kernel) rfl⟩
set_option maxRecDepth 100000 in
theorem cmv_X11_heats : CMV miX11_heats 2 := ⟨TG_t4 194 rfl rfl, TG_t1 1 (by decide +kernel) rfl, ⟨by decide +kernel, by decide +kernel, by decide +kernel⟩, by decide, TG_t4 192 (by decide +kernel) rfl, TG_t4 193 (by decide +kernel) rfl⟩
set_option maxRecDepth 100000 in
theorem cmv_X12_heats : CMV miX12_heats 2 := ⟨TG_t8 52 rfl rfl, TG_t1 12 (by decide +kernel) rfl, ⟨by decide +kernel, by decide +kernel, by decide +kernel⟩, by decide, TG_t8 50 (by decide +kernel) rfl, TG_t8 51 (by decide +kernel) rfl⟩
set_option maxRecDepth 100000 in
theorem cmv_X11_undo : CMV miX11_undo 0 := ⟨TG_t4 198 rfl rfl, TG_t1 1 (by decide +kernel) rfl, ⟨by decide +kernel, by decide +kernel, by decide +kernel⟩, by decide, TG_t4 196 (by decide +kernel) rfl, TG_t4 197 (by decide +kernel) rfl⟩
set_option maxRecDepth 100000 in
theorem cmv_X12_undo : CMV miX12_undo 0 := ⟨TG_t8 56 rfl rfl, TG_t1 12 (by decide +kernel) rfl, ⟨by decide +kernel, by decide +kernel, by decide +kernel⟩, by decide, TG_t8 54 (by decide +kernel) rfl, TG_t8 55 (by decide +kernel) rfl⟩
set_option maxRecDepth 100000 in
theorem cmv_X11_judged : CMV miX11_judged 1 := ⟨TG_t4 202 rfl rfl, TG_t1 1 (by decide +kernel) rfl, ⟨by decide +kernel, by decide +kernel, by decide +kernel⟩, by decide, TG_t4 200 (by decide +kernel) rfl, TG_t4 201 (by decide +kernel) rfl⟩
set_option maxRecDepth 100000 in
theorem cmv_X12_judged : CMV miX12_judged 1 := ⟨TG_t8 60 rfl rfl, TG_t1 12 (by decide +kernel) rfl, ⟨by decide +kernel, by decide +kernel, by decide +kernel⟩, by decide, TG_t8 58 (by decide +kernel) rfl, TG_t8 59 (by decide +kernel) rfl⟩
set_option maxRecDepth 100000 in
theorem cmv_X11_served : CMV miX11_served 2 := ⟨TG_t5 58 rfl rfl, TG_t1 1 (by decide +kernel) rfl, ⟨by decide +kernel, by decide +kernel, by decide +kernel⟩, by decide, TG_t5 56 (by decide +kernel) rfl, TG_t5 57 (by decide +kernel) rfl⟩
set_option maxRecDepth 100000 in
theorem cmv_X12_served : CMV miX12_served 2 := ⟨TG_t8 135 rfl rfl, TG_t1 12 (by decide +kernel) rfl, ⟨by decide +kernel, by decide +kernel, by decide +kernel⟩, by decide, TG_t8 133 (by decide +kernel) rfl, TG_t8 134 (by decide +kernel) rfl⟩
set_option maxRecDepth 100000 in
theorem cmv_X11_round : CMV miX11_round 1 := ⟨TG_t5 66 rfl rfl, TG_t1 1 (by decide +kernel) rfl, ⟨by decide +kernel, by decide +kernel, by decide +kernel⟩, by decide, TG_t5 64 (by decide +kernel) rfl, TG_t5 65 (by decide +kernel) rfl⟩
set_option maxRecDepth 100000 in
theorem cmv_X12_round : CMV miX12_round 1 := ⟨TG_t8 139 rfl rfl, TG_t1 12 (by decide +kernel) rfl, ⟨by decide +kernel, by decide +kernel, by decide +kernel⟩, by decide, TG_t8 137 (by decide +kernel) rfl, TG_t8 138 (by decide +kernel) rfl⟩
set_option maxRecDepth 100000 in
theorem cmv_X11_chance : CMV miX11_chance 1 := ⟨TG_t5 80 rfl rfl, TG_t1 1 (by decide +kernel) rfl, ⟨by decide +kernel, by decide +kernel, by decide +kernel⟩, by decide, TG_t5 78 (by decide +kernel) rfl, TG_t5 79 (by decide +kernel) rfl⟩
set_option maxRecDepth 100000 in
theorem cmv_X12_chance : CMV miX12_chance 1 := ⟨TG_t8 156 rfl rfl, TG_t1 12 (by decide +kernel) rfl, ⟨by decide +kernel, by decide +kernel, by decide +kernel⟩, by decide, TG_t8 154 (by decide +kernel) rfl, TG_t8 155 (by decide +kernel) rfl⟩
set_option maxRecDepth 100000 in
theorem cmv_X12_thrown : CMV miX12_thrown 0 := ⟨TG_t7 44 rfl rfl, TG_t1 12 (by decide +kernel) rfl, ⟨by decide +kernel, by decide +kernel, by decide +kernel⟩, by decide, TG_t7 42 (by decide +kernel) rfl, TG_t7 43 (by decide +kernel) rfl⟩
set_option maxRecDepth 100000 in
theorem cmv_X11_errand : CMV miX11_errand 2 := ⟨TG_t5 93 rfl rfl, TG_t1 1 (by decide +kernel) rfl, ⟨by decide +kernel, by decide +kernel, by decide +kernel⟩, by decide, TG_t5 91 (by decide +kernel) rfl, TG_t5 92 (by decide +kernel) rfl⟩
set_option maxRecDepth 100000 in
theorem cmv_X12_errand : CMV miX12_errand 2 := ⟨TG_t8 174 rfl rfl, TG_t1 12 (by decide +kernel) rfl, ⟨by decide +kernel, by decide +kernel, by decide +kernel⟩, by decide, TG_t8 172 (by decide +kernel) rfl, TG_t8 173 (by decide +kernel) rfl⟩
set_option maxRecDepth 100000 in
theorem cmv_X11_table : CMV miX11_table 2 := ⟨TG_t5 105 rfl rfl, TG_t1 1 (by decide +kernel) rfl, ⟨by decide +kernel, by decide +kernel, by decide +kernel⟩, by decide, TG_t5 103 (by decide +kernel) rfl, TG_t5 104 (by decide +kernel) rfl⟩
set_option maxRecDepth 100000 in
theorem cmv_X12_table : CMV miX12_table 2 := ⟨TG_t8 178 rfl rfl, TG_t1 12 (by decide +kernel) rfl, ⟨by decide +kernel, by decide +kernel, by decide +kernel⟩, by decide, TG_t8 176 (by decide +kernel) rfl, TG_t8 177 (by decide +kernel) rfl⟩
set_option maxRecDepth 100000 in
theorem cmv_X11_stand : CMV miX11_stand 0 := ⟨TG_t5 109 rfl rfl, TG_t1 1 (by decide +kernel) rfl, ⟨by decide +kernel, by decide +kernel, by decide +kernel⟩, by decide, TG_t5 107 (by decide +kernel) rfl, TG_t5 108 (by decide +kernel) rfl⟩
set_option maxRecDepth 100000 in
theorem cmv_X12_stand : CMV miX12_stand 0 := ⟨TG_t8 182 rfl rfl, TG_t1 12 (by decide +kernel) rfl, ⟨by decide +kernel, by decide +kernel, by decide +kernel⟩, by decide, TG_t8 180 (by decide +kernel) rfl, TG_t8 181 (by decide +kernel) rfl⟩
set_option maxRecDepth 100000 in
theorem cmv_X11_ring : CMV miX11_ring 0 := ⟨TG_t5 113 rfl rfl, TG_t1 1 (by decide +kernel) rfl, ⟨by decide +kernel, by decide +kernel, by decide +kernel⟩, by decide, TG_t5 111 (by decide +kernel) rfl, TG_t5 112 (by decide +kernel) rfl⟩
set_option maxRecDepth 100000 in
theorem cmv_X12_ring : CMV miX12_ring 0 := ⟨TG_t8 186 rfl rfl, TG_t1 12 (by decide +kernel) rfl, ⟨by decide +kernel, by decide +kernel, by decide +kernel⟩, by decide, TG_t8 184 (by decide +kernel) rfl, TG_t8 185 (by decide +kernel) rfl⟩
set_option maxRecDepth 100000 in
theorem cmv_X11_best : CMV miX11_best 2 := ⟨TG_t5 117 rfl rfl, TG_t1 1 (by decide +kernel) rfl, ⟨by decide +kernel, by decide +kernel, by decide +kernel⟩, by decide, TG_t5 115 (by decide +kernel) rfl, TG_t5 116 (by decide +kernel) rfl⟩
set_option maxRecDepth 100000 in
theorem cmv_X12_best : CMV miX12_best 2 := ⟨TG_t8 190 rfl rfl, TG_t1 12 (by decide +kernel) rfl, ⟨by decide +kernel, by decide +kernel, by decide +kernel⟩, by decide, TG_t8 188 (by decide +kernel) rfl, TG_t8 189 (by decide +kernel) rfl⟩
set_option maxRecDepth 100000 in
theorem cmv_X11_tray : CMV miX11_tray 2 := ⟨TG_t5 129 rfl rfl, TG_t1 1 (by decide +kernel) rfl, ⟨by decide +kernel, by decide +kernel, by decide +kernel⟩, by decide, TG_t5 127 (by decide +kernel) rfl, TG_t5 128 (by decide +kernel) rfl⟩
set_option maxRecDepth 100000 in
theorem cmv_X12_tray : CMV miX12_tray 2 := ⟨TG_t8 198 rfl rfl, TG_t1 12 (by decide +kernel) rfl, ⟨by decide +kernel, by decide +kernel, by decide +kernel⟩, by decide, TG_t8 196 (by decide +kernel) rfl, TG_t8 197 (by decide +kernel) rfl⟩
set_option maxRecDepth 100000 in
theorem cmv_X11_price : CMV miX11_price 1 := ⟨TG_t5 138 rfl rfl, TG_t1 1 (by decide +kernel) rfl, ⟨by decide +kernel, by decide +kernel, by decide +kernel⟩, by decide, TG_t5 136 (by decide +kernel) rfl, TG_t5 137 (by decide +kernel) rfl⟩
set_option maxRecDepth 100000 in
theorem cmv_X12_price : CMV miX12_price 1 := ⟨TG_t8 206 rfl rfl, TG_t1 12 (by decide +kernel) rfl, ⟨by decide +kernel, by decide +kernel, by decide +kernel⟩, by decide, TG_t8 204 (by decide +kernel) rfl, TG_t8 205 (by decide +kernel) rfl⟩
set_option maxRecDepth 100000 in
theorem cmv_X11_ahead : CMV miX11_ahead 2 := ⟨TG_t5 142 rfl rfl, TG_t1 1 (by decide +kernel) rfl, ⟨by decide +kernel, by decide +kernel, by decide +kernel⟩, by decide, TG_t5 140 (by decide +kernel) rfl, TG_t5 141 (by decide +kernel) rfl⟩
set_option maxRecDepth 100000 in
theorem cmv_X12_ahead : CMV miX12_ahead 2 := ⟨TG_t8 210 rfl rfl, TG_t1 12 (by decide +kernel) rfl, ⟨by decide +kernel, by decide +kernel, by decide +kernel⟩, by decide, TG_t8 208 (by decide +kernel) rfl, TG_t8 209 (by decide +kernel) rfl⟩
set_option maxRecDepth 100000 in
theorem cmv_X11_most : CMV miX11_most 1 := ⟨TG_t5 150 rfl rfl, TG_t1 1 (by decide +kernel) rfl, ⟨by decide +kernel, by decide +kernel, by decide +kernel⟩, by decide, TG_t5 148 (by decide +kernel) rfl, TG_t5 149 (by decide +kernel) rfl⟩
set_option maxRecDepth 100000 in
theorem cmv_X12_most : CMV miX12_most 1 := ⟨TG_t8 218 rfl rfl, TG_t1 12 (by decide +kernel) rfl, ⟨by decide +kernel, by decide +kernel, by decide +kernel⟩, by decide, TG_t8 216 (by decide +kernel) rfl, TG_t8 217 (by decide +kernel) rfl⟩
set_option maxRecDepth 100000 in
theorem cmv_X11_sell : CMV miX11_sell 2 := ⟨TG_t5 154 rfl rfl, TG_t1 1 (by decide +kernel) rfl, ⟨by decide +kernel, by decide +kernel, by decide +kernel⟩, by decide, TG_t5 152 (by decide +kernel) rfl, TG_t5 153 (by decide +kernel) rfl⟩
set_option maxRecDepth 100000 in
theorem cmv_X12_sell : CMV miX12_sell 2 := ⟨TG_t8 222 rfl rfl, TG_t1 12 (by decide +kernel) rfl, ⟨by decide +kernel, by decide +kernel, by decide +kernel⟩, by decide, TG_t8 220 (by decide +kernel) rfl, TG_t8 221 (by decide +kernel) rfl⟩
set_option maxRecDepth 100000 in
theorem cmv_X11_laws : CMV miX11_laws 1 := ⟨TG_t5 158 rfl rfl, TG_t1 1 (by decide +kernel) rfl, ⟨by decide +kernel, by decide +kernel, by decide +kernel⟩, by decide, TG_t5 156 (by decide +kernel) rfl, TG_t5 157 (by decide +kernel) rfl⟩
set_option maxRecDepth 100000 in
theorem cmv_X12_laws : CMV miX12_laws 1 := ⟨TG_t8 226 rfl rfl, TG_t1 12 (by decide +kernel) rfl, ⟨by decide +kernel, by decide +kernel, by decide +kernel⟩, by decide, TG_t8 224 (by decide +kernel) rfl, TG_t8 225 (by decide +kernel) rfl⟩
set_option maxRecDepth 100000 in
theorem cmv_X11_see : CMV miX11_see 2 := ⟨TG_t5 166 rfl rfl, TG_t1 1 (by decide +kernel) rfl, ⟨by decide +kernel, by decide +kernel, by decide +kernel⟩, by decide, TG_t5 164 (by decide +kernel) rfl, TG_t5 165 (by decide +kernel) rfl⟩
set_option maxRecDepth 100000 in
theorem cmv_X12_see : CMV miX12_see 2 := ⟨TG_t8 234 rfl rfl, TG_t1 12 (by decide +kernel) rfl, ⟨by decide +kernel, by decide +kernel, by decide +kernel⟩, by decide, TG_t8 232 (by decide +kernel) rfl, TG_t8 233 (by decide +kernel) rfl⟩
set_option maxRecDepth 100000 in
theorem cmv_X11_was : CMV miX11_was 0 := ⟨TG_t5 170 rfl rfl, TG_t1 1 (by decide +kernel) rfl, ⟨by decide +kernel, by decide +kernel, by decide +kernel⟩, by decide, TG_t5 168 (by decide +kernel) rfl, TG_t5 169 (by decide +kernel) rfl⟩
set_option maxRecDepth 100000 in
theorem cmv_X12_was : CMV miX12_was 0 := ⟨TG_t8 238 rfl rfl, TG_t1 12 (by decide +kernel) rfl, ⟨by decide +kernel, by decide +kernel, by decide +kernel⟩, by decide, TG_t8 236 (by decide +kernel) rfl, TG_t8 237 (by decide +kernel) rfl⟩
set_option maxRecDepth 100000 in
theorem cmv_X11_years : CMV miX11_years 3 := ⟨TG_t5 174 rfl rfl, TG_t1 1 (by decide +kernel) rfl, ⟨by decide +kernel, by decide +kernel, by decide +kernel⟩, by decide, TG_t5 172 (by decide +kernel) rfl, TG_t5 173 (by decide +kernel) rfl⟩
set_option maxRecDepth 100000 in
theorem cmv_X12_years : CMV miX12_years 3 := ⟨TG_t9 2 rfl rfl, TG_t1 12 (by decide +kernel) rfl, ⟨by decide +kernel, by decide +kernel, by decide +kernel⟩, by decide, TG_t9 0 (by decide +kernel) rfl, TG_t9 1 (by decide +kernel) rfl⟩
set_option maxRecDepth 100000 in
theorem cmv_X11_mark : CMV miX11_mark 2 := ⟨TG_t5 183 rfl rfl, TG_t1 1 (by decide +kernel) rfl, ⟨by decide +kernel, by decide +kernel, by decide +kernel⟩, by decide, TG_t5 181 (by decide +kernel) rfl, TG_t5 182 (by decide +kernel) rfl⟩
set_option maxRecDepth 100000 in
theorem cmv_X12_mark : CMV miX12_mark 2 := ⟨TG_t9 14 rfl rfl, TG_t1 12 (by decide +kernel) rfl, ⟨by decide +kernel, by decide +kernel, by decide +kernel⟩, by decide, TG_t9 12 (by decide +kernel) rfl, TG_t9 13 (by decide +kernel) rfl⟩
set_option maxRecDepth 100000 in
theorem cmv_X11_count : CMV miX11_count 1 := ⟨TG_t5 193 rfl rfl, TG_t1 1 (by decide +kernel) rfl, ⟨by decide +kernel, by decide +kernel, by decide +kernel⟩, by decide, TG_t5 191 (by decide +kernel) rfl, TG_t5 192 (by decide +kernel) rfl⟩
set_option maxRecDepth 100000 in
theorem cmv_X12_count : CMV miX12_count 1 := ⟨TG_t9 22 rfl rfl, TG_t1 12 (by decide +kernel) rfl, ⟨by decide +kernel, by decide +kernel, by decide +kernel⟩, by decide, TG_t9 20 (by decide +kernel) rfl, TG_t9 21 (by decide +kernel) rfl⟩
theorem cv_X1_23 : CV RX1 23 miX8_rewind 0 := CV.of cmv_X8_rewind (TG_t4 97 (by decide +kernel) rfl)
theorem cv_X1_28 : CV RX1 28 miX8_goesOn 0 := CV.of cmv_X8_goesOn (TG_t4 98 (by decide +kernel) rfl)
theorem cv_X1_32 : CV RX1 32 miX1_readLine 1 := CV.of cmv_X1_readLine (TG_t4 99 (by decide +kernel) rfl)
theorem cv_X1_36 : CV RX1 36 miX8_finish 0 := CV.of cmv_X8_finish (TG_t4 128 (by decide +kernel) rfl)
theorem cs_X1_44 : CS RX1 44 miX1_whatOf 1 := CS.of cms_X1_whatOf (TG_t4 103 (by decide +kernel) rfl)
theorem cv_X1_53 : CV RX1 53 miX8_fail 1 := CV.of cmv_X8_fail (TG_t4 117 (by decide +kernel) rfl)
theorem cv_X1_57 : CV RX1 57 miX8_step 0 := CV.of cmv_X8_step (TG_t4 118 (by decide +kernel) rfl)
theorem cv_X1_64 : CV RX1 64 miX4_buyerOf 1 := CV.of cmv_X4_buyerOf (TG_t4 119 (by decide +kernel) rfl)
theorem cv_X1_70 : CV RX1 70 miX8_takeKnown 1 := CV.of cmv_X8_takeKnown (TG_t4 120 (by decide +kernel) rfl)
theorem cv_X1_74 : CV RX1 74 miX4_thingOf 1 := CV.of cmv_X4_thingOf (TG_t4 121 (by decide +kernel) rfl)
theorem cv_X1_77 : CV RX1 77 miX8_takeNumber 2 := CV.of cmv_X8_takeNumber (TG_t4 122 (by decide +kernel) rfl)
theorem cv_X1_81 : CV RX1 81 miX1_keepLine 3 := CV.of cmv_X1_keepLine (TG_t4 123 (by decide +kernel) rfl)
theorem cv_X1_85 : CV RX1 85 miX8_takeSign 1 := CV.of cmv_X8_takeSign (TG_t4 127 (by decide +kernel) rfl)
theorem cv_X3_15 : CV RX3 15 miX3_readTest 2 := CV.of cmv_X3_readTest (TG_t4 16 (by decide +kernel) rfl)
theorem cv_X3_35 : CV RX3 35 miX8_step 0 := CV.of cmv_X8_step (TG_t4 39 (by decide +kernel) rfl)
theorem cv_X3_38 : CV RX3 38 miX2_add 1 := CV.of cmv_X2_add (TG_t4 40 (by decide +kernel) rfl)
theorem cv_X3_42 : CV RX3 42 miX3_readSum 2 := CV.of cmv_X3_readSum (TG_t4 20 (by decide +kernel) rfl)
theorem cv_X3_45 : CV RX3 45 miX8_isSign 1 := CV.of cmv_X8_isSign (TG_t4 34 (by decide +kernel) rfl)
theorem cv_X3_49 : CV RX3 49 miX3_readProduct 2 := CV.of cmv_X3_readProduct (TG_t4 24 (by decide +kernel) rfl)
theorem cv_X3_52 : CV RX3 52 miX3_readPart 2 := CV.of cmv_X3_readPart (TG_t4 28 (by decide +kernel) rfl)
theorem cv_X3_65 : CV RX3 65 miX8_fail 1 := CV.of cmv_X8_fail (TG_t4 38 (by decide +kernel) rfl)
theorem cv_X3_68 : CV RX3 68 miX3_readWhole 2 := CV.of cmv_X3_readWhole (TG_t4 44 (by decide +kernel) rfl)
theorem cv_X3_71 : CV RX3 71 miX8_takeSign 1 := CV.of cmv_X8_takeSign (TG_t4 45 (by decide +kernel) rfl)
theorem cs_X3_75 : CS RX3 75 miX3_factOf 1 := CS.of cms_X3_factOf (TG_t4 50 (by decide +kernel) rfl)
theorem cv_X4_41 : CV RX4 41 miX4_clear 0 := CV.of cmv_X4_clear (TG_t1 63 (by decide +kernel) rfl)
theorem cv_X4_88 : CV RX4 88 miX4_farOf 2 := CV.of cmv_X4_farOf (TG_t4 156 (by decide +kernel) rfl)
theorem cv_X5_24 : CV RX5 24 miX4_clear 0 := CV.of cmv_X4_clear (TG_t3 35 (by decide +kernel) rfl)
theorem cv_X5_33 : CV RX5 33 miX8_rewind 0 := CV.of cmv_X8_rewind (TG_t3 36 (by decide +kernel) rfl)
theorem cv_X5_38 : CV RX5 38 miX8_goesOn 0 := CV.of cmv_X8_goesOn (TG_t3 142 (by decide +kernel) rfl)
theorem cv_X5_42 : CV RX5 42 miX5_readLine 1 := CV.of cmv_X5_readLine (TG_t3 146 (by decide +kernel) rfl)
theorem cv_X5_46 : CV RX5 46 miX8_finish 0 := CV.of cmv_X8_finish (TG_t4 80 (by decide +kernel) rfl)
theorem cv_X5_59 : CV RX5 59 miX5_readCoach 1 := CV.of cmv_X5_readCoach (TG_t3 152 (by decide +kernel) rfl)
theorem cv_X5_65 : CV RX5 65 miX5_readThing 1 := CV.of cmv_X5_readThing (TG_t3 194 (by decide +kernel) rfl)
theorem cv_X5_71 : CV RX5 71 miX5_readBuyer 1 := CV.of cmv_X5_readBuyer (TG_t3 219 (by decide +kernel) rfl)
theorem cv_X5_77 : CV RX5 77 miX8_fail 1 := CV.of cmv_X8_fail (TG_t3 156 (by decide +kernel) rfl)
theorem cv_X5_81 : CV RX5 81 miX8_step 0 := CV.of cmv_X8_step (TG_t3 160 (by decide +kernel) rfl)
theorem cv_X5_87 : CV RX5 87 miX5_readLate 1 := CV.of cmv_X5_readLate (TG_t4 6 (by decide +kernel) rfl)
theorem cv_X5_101 : CV RX5 101 miX5_readOnce 2 := CV.of cmv_X5_readOnce (TG_t4 63 (by decide +kernel) rfl)
theorem cv_X5_105 : CV RX5 105 miX8_takeSign 1 := CV.of cmv_X8_takeSign (TG_t4 79 (by decide +kernel) rfl)
theorem cv_X5_112 : CV RX5 112 miX8_takeNumber 2 := CV.of cmv_X8_takeNumber (TG_t3 188 (by decide +kernel) rfl)
theorem cv_X5_122 : CV RX5 122 miX8_take 1 := CV.of cmv_X8_take (TG_t3 183 (by decide +kernel) rfl)
theorem cv_X5_167 : CV RX5 167 miX5_takeNewName 1 := CV.of cmv_X5_takeNewName (TG_t3 161 (by decide +kernel) rfl)
theorem cv_X5_199 : CV RX5 199 miX8_takeOneOf 3 := CV.of cmv_X8_takeOneOf (TG_t3 204 (by decide +kernel) rfl)
theorem cv_X5_255 : CV RX5 255 miX4_coachOf 1 := CV.of cmv_X4_coachOf (TG_t3 169 (by decide +kernel) rfl)
theorem cv_X5_259 : CV RX5 259 miX8_takeKnown 1 := CV.of cmv_X8_takeKnown (TG_t3 229 (by decide +kernel) rfl)
theorem cv_X5_281 : CV RX5 281 miX5_readWants 2 := CV.of cmv_X5_readWants (TG_t4 0 (by decide +kernel) rfl)
theorem cv_X5_292 : CV RX5 292 miX4_thingOf 1 := CV.of cmv_X4_thingOf (TG_t3 173 (by decide +kernel) rfl)
theorem cv_X5_295 : CV RX5 295 miX8_isName 0 := CV.of cmv_X8_isName (TG_t3 165 (by decide +kernel) rfl)
theorem cv_X5_301 : CV RX5 301 miX4_buyerOf 1 := CV.of cmv_X4_buyerOf (TG_t3 177 (by decide +kernel) rfl)
theorem cv_X6_60 : CV RX6 60 miX6_makeReady 0 := CV.of cmv_X6_makeReady (TG_t4 215 (by decide +kernel) rfl)
theorem cv_X6_68 : CV RX6 68 miX6_serveWaiting 1 := CV.of cmv_X6_serveWaiting (TG_t4 221 (by decide +kernel) rfl)
theorem cv_X6_72 : CV RX6 72 miX6_nextSecond 1 := CV.of cmv_X6_nextSecond (TG_t5 14 (by decide +kernel) rfl)
theorem cv_X6_79 : CV RX6 79 miX6_isOut 1 := CV.of cmv_X6_isOut (TG_t4 229 (by decide +kernel) rfl)
theorem cv_X6_83 : CV RX6 83 miX6_endFor 1 := CV.of cmv_X6_endFor (TG_t5 19 (by decide +kernel) rfl)
theorem cv_X6_100 : CV RX6 100 miX4_wayOf 2 := CV.of cmv_X4_wayOf (TG_t4 219 (by decide +kernel) rfl)
theorem cv_X6_116 : CV RX6 116 miX4_goesAt 2 := CV.of cmv_X4_goesAt (TG_t4 220 (by decide +kernel) rfl)
theorem cv_X6_127 : CV RX6 127 miX6_nextServed 1 := CV.of cmv_X6_nextServed (TG_t4 225 (by decide +kernel) rfl)
theorem cv_X6_130 : CV RX6 130 miX6_begin 2 := CV.of cmv_X6_begin (TG_t5 6 (by decide +kernel) rfl)
theorem cv_X6_134 : CV RX6 134 miX6_rankOf 2 := CV.of cmv_X6_rankOf (TG_t4 233 (by decide +kernel) rfl)
theorem cv_X6_137 : CV RX6 137 miX6_wantsToo 2 := CV.of cmv_X6_wantsToo (TG_t4 237 (by decide +kernel) rfl)
theorem cv_X6_148 : CV RX6 148 miX4_farOf 2 := CV.of cmv_X4_farOf (TG_t5 1 (by decide +kernel) rfl)
theorem cv_X6_151 : CV RX6 151 miX2_value 4 := CV.of cmv_X2_value (TG_t5 2 (by decide +kernel) rfl)
theorem cv_X6_160 : CV RX6 160 miX4_secsFor 1 := CV.of cmv_X4_secsFor (TG_t5 10 (by decide +kernel) rfl)
theorem cv_X6_175 : CV RX6 175 miX6_drink 1 := CV.of cmv_X6_drink (TG_t5 23 (by decide +kernel) rfl)
theorem cv_X6_181 : CV RX6 181 miX6_coolsWithin 1 := CV.of cmv_X6_coolsWithin (TG_t5 27 (by decide +kernel) rfl)
theorem cv_X6_190 : CV RX6 190 miX6_heatOf 2 := CV.of cmv_X6_heatOf (TG_t5 33 (by decide +kernel) rfl)
theorem cv_X6_206 : CV RX6 206 miX4_priceFor 1 := CV.of cmv_X4_priceFor (TG_t5 41 (by decide +kernel) rfl)
theorem cs_X6_215 : CS RX6 215 miJ6_bitCount_0f7a4 1 := CS.of cms_J6_bitCount_0f7a4 (TG_t5 49 (by decide +kernel) rfl)
theorem cv_X7_67 : CV RX7 67 miX7_copyHand 1 := CV.of cmv_X7_copyHand (TG_t5 188 (by decide +kernel) rfl)
theorem cv_X7_71 : CV RX7 71 miX7_takeLines 2 := CV.of cmv_X7_takeLines (TG_t5 189 (by decide +kernel) rfl)
theorem cv_X7_78 : CV RX7 78 miX7_valueOf 3 := CV.of cmv_X7_valueOf (TG_t4 182 (by decide +kernel) rfl)
theorem cs_X7_82 : CS RX7 82 miX7_isAllowed 3 := CS.of cms_X7_isAllowed (TG_t4 183 (by decide +kernel) rfl)
theorem cv_X8_27 : CV RX8 27 miX8_step 0 := CV.of cmv_X8_step (TG_t3 40 (by decide +kernel) rfl)
theorem cv_X8_44 : CV RX8 44 miX8_stepWord 0 := CV.of cmv_X8_stepWord (TG_t3 44 (by decide +kernel) rfl)
theorem cv_X8_47 : CV RX8 47 miX8_stepNumber 0 := CV.of cmv_X8_stepNumber (TG_t3 51 (by decide +kernel) rfl)
theorem cv_X8_56 : CV RX8 56 miJ0_indexOf_0f7a4 1 := CV.of cmv_J0_indexOf_0f7a4 (TG_t3 56 (by decide +kernel) rfl)
theorem cv_X8_77 : CV RX8 77 miX8_fail 1 := CV.of cmv_X8_fail (TG_t3 187 (by decide +kernel) rfl)
theorem cv_X8_81 : CV RX8 81 miX8_isSign 1 := CV.of cmv_X8_isSign (TG_t4 49 (by decide +kernel) rfl)
theorem cv_X8_85 : CV RX8 85 miX8_take 1 := CV.of cmv_X8_take (TG_t3 208 (by decide +kernel) rfl)
theorem cv_X8_89 : CV RX8 89 miX8_isName 0 := CV.of cmv_X8_isName (TG_t3 233 (by decide +kernel) rfl)
theorem cv_X11_37 : CV RX11 37 miX7_startWith 1 := CV.of cmv_X7_startWith (TG_t2 103 (by decide +kernel) rfl)
theorem cv_X11_76 : CV RX11 76 miX8_append 1 := CV.of cmv_X8_append (TG_t3 22 (by decide +kernel) rfl)
theorem cv_X11_84 : CV RX11 84 miX5_read 1 := CV.of cmv_X5_read (TG_t3 31 (by decide +kernel) rfl)
theorem cv_X11_88 : CV RX11 88 miX7_forget 0 := CV.of cmv_X7_forget (TG_t4 84 (by decide +kernel) rfl)
theorem cv_X11_98 : CV RX11 98 miX1_read 1 := CV.of cmv_X1_read (TG_t4 93 (by decide +kernel) rfl)
theorem cv_X11_105 : CV RX11 105 miX7_takeLines 2 := CV.of cmv_X7_takeLines (TG_t4 129 (by decide +kernel) rfl)
theorem cv_X11_109 : CV RX11 109 miX11_isThing 1 := CV.of cmv_X11_isThing (TG_t4 140 (by decide +kernel) rfl)
theorem cv_X11_134 : CV RX11 134 miX11_isBuyer 1 := CV.of cmv_X11_isBuyer (TG_t4 148 (by decide +kernel) rfl)
theorem cv_X11_164 : CV RX11 164 miX4_wayOf 2 := CV.of cmv_X4_wayOf (TG_t4 152 (by decide +kernel) rfl)
theorem cv_X11_171 : CV RX11 171 miX4_goesAt 2 := CV.of cmv_X4_goesAt (TG_t4 160 (by decide +kernel) rfl)
theorem cv_X11_174 : CV RX11 174 miX11_changeByHand 3 := CV.of cmv_X11_changeByHand (TG_t4 170 (by decide +kernel) rfl)
theorem cv_X11_178 : CV RX11 178 miX7_change 4 := CV.of cmv_X7_change (TG_t4 178 (by decide +kernel) rfl)
theorem cv_X11_184 : CV RX11 184 miX11_playTrial 0 := CV.of cmv_X11_playTrial (TG_t4 203 (by decide +kernel) rfl)
theorem cv_X11_187 : CV RX11 187 miX6_paid 0 := CV.of cmv_X6_paid (TG_t5 37 (by decide +kernel) rfl)
theorem cv_X11_191 : CV RX11 191 miX6_drunkInAll 0 := CV.of cmv_X6_drunkInAll (TG_t5 45 (by decide +kernel) rfl)
theorem cv_X11_194 : CV RX11 194 miX11_playNow 0 := CV.of cmv_X11_playNow (TG_t5 59 (by decide +kernel) rfl)
theorem cv_X11_212 : CV RX11 212 miX6_leftInAll 0 := CV.of cmv_X6_leftInAll (TG_t5 67 (by decide +kernel) rfl)
theorem cs_X11_215 : CS RX11 215 miJ6_bitCount_0f7a4 1 := CS.of cms_J6_bitCount_0f7a4 (TG_t5 71 (by decide +kernel) rfl)
theorem cv_X11_222 : CV RX11 222 miX6_servedBy 1 := CV.of cmv_X6_servedBy (TG_t5 73 (by decide +kernel) rfl)
theorem cv_X11_225 : CV RX11 225 miX7_copyHand 1 := CV.of cmv_X7_copyHand (TG_t5 81 (by decide +kernel) rfl)
theorem cv_X11_232 : CV RX11 232 miX11_weightOf 2 := CV.of cmv_X11_weightOf (TG_t5 85 (by decide +kernel) rfl)
theorem cv_X11_238 : CV RX11 238 miX11_isSome 1 := CV.of cmv_X11_isSome (TG_t5 94 (by decide +kernel) rfl)
theorem cv_X11_244 : CV RX11 244 miX11_fillGains 1 := CV.of cmv_X11_fillGains (TG_t6 23 (by decide +kernel) rfl)
theorem cv_X11_248 : CV RX11 248 miX11_isAtRest 2 := CV.of cmv_X11_isAtRest (TG_t6 27 (by decide +kernel) rfl)
theorem cv_X11_252 : CV RX11 252 miX11_errandSecond 2 := CV.of cmv_X11_errandSecond (TG_t5 98 (by decide +kernel) rfl)
theorem cv_X11_258 : CV RX11 258 miX6_layOut 2 := CV.of cmv_X6_layOut (TG_t4 207 (by decide +kernel) rfl)
theorem cv_X11_264 : CV RX11 264 miX6_play 0 := CV.of cmv_X6_play (TG_t4 211 (by decide +kernel) rfl)
theorem cv_X11_270 : CV RX11 270 miX11_isPoured 1 := CV.of cmv_X11_isPoured (TG_t5 118 (by decide +kernel) rfl)
theorem cv_X11_273 : CV RX11 273 miX6_pouredBack 0 := CV.of cmv_X6_pouredBack (TG_t5 122 (by decide +kernel) rfl)
theorem cv_X11_276 : CV RX11 276 miX11_trayPence 2 := CV.of cmv_X11_trayPence (TG_t5 130 (by decide +kernel) rfl)
theorem cv_X11_279 : CV RX11 279 miX11_meanAhead 2 := CV.of cmv_X11_meanAhead (TG_t5 143 (by decide +kernel) rfl)
theorem cv_X11_288 : CV RX11 288 miX7_isLaw 2 := CV.of cmv_X7_isLaw (TG_t5 159 (by decide +kernel) rfl)
theorem cv_X11_307 : CV RX11 307 miX7_copyAll 1 := CV.of cmv_X7_copyAll (TG_t5 184 (by decide +kernel) rfl)
theorem cv_X11_316 : CV RX11 316 miX7_valueOf 3 := CV.of cmv_X7_valueOf (TG_t4 174 (by decide +kernel) rfl)
theorem cv_X11_338 : CV RX11 338 miX4_priceFor 1 := CV.of cmv_X4_priceFor (TG_t5 134 (by decide +kernel) rfl)
theorem cv_X12_187 : CV RX12 187 miX12_plain 1 := CV.of cmv_X12_plain (TG_t6 37 (by decide +kernel) rfl)
theorem cv_X12_191 : CV RX12 191 miX12_fresh 0 := CV.of cmv_X12_fresh (TG_t6 41 (by decide +kernel) rfl)
theorem cv_X12_221 : CV RX12 221 miX12_signAt 1 := CV.of cmv_X12_signAt (TG_t7 66 (by decide +kernel) rfl)
theorem cv_X12_243 : CV RX12 243 miX12_fact 0 := CV.of cmv_X12_fact (TG_t7 203 (by decide +kernel) rfl)
theorem cv_X12_249 : CV RX12 249 miX12_isWord 1 := CV.of cmv_X12_isWord (TG_t7 73 (by decide +kernel) rfl)
theorem cv_X12_253 : CV RX12 253 miX12_isSign 1 := CV.of cmv_X12_isSign (TG_t7 109 (by decide +kernel) rfl)
theorem cv_X12_257 : CV RX12 257 miX12_fails 1 := CV.of cmv_X12_fails (TG_t7 85 (by decide +kernel) rfl)
theorem cv_X12_260 : CV RX12 260 miX12_puts 1 := CV.of cmv_X12_puts (TG_t7 211 (by decide +kernel) rfl)
theorem cv_X12_263 : CV RX12 263 miX12_nextToken 0 := CV.of cmv_X12_nextToken (TG_t7 62 (by decide +kernel) rfl)
theorem cv_X12_270 : CV RX12 270 miX12_sums 1 := CV.of cmv_X12_sums (TG_t8 93 (by decide +kernel) rfl)
theorem cv_X12_273 : CV RX12 273 miX12_opens 1 := CV.of cmv_X12_opens (TG_t8 89 (by decide +kernel) rfl)
theorem cv_X12_276 : CV RX12 276 miX12_tests 1 := CV.of cmv_X12_tests (TG_t8 97 (by decide +kernel) rfl)
theorem cs_X12_339 : CS RX12 339 miX12_named 4 := CS.of cms_X12_named (TG_t7 160 (by decide +kernel) rfl)
theorem cs_X12_343 : CS RX12 343 miX12_within 3 := CS.of cms_X12_within (TG_t7 93 (by decide +kernel) rfl)
theorem cv_X12_350 : CV RX12 350 miX12_needsWord 1 := CV.of cmv_X12_needsWord (TG_t7 101 (by decide +kernel) rfl)
theorem cv_X12_353 : CV RX12 353 miX12_needsNumber 2 := CV.of cmv_X12_needsNumber (TG_t7 89 (by decide +kernel) rfl)
theorem cv_X12_357 : CV RX12 357 miX12_isKept 0 := CV.of cmv_X12_isKept (TG_t7 122 (by decide +kernel) rfl)
theorem cv_X12_361 : CV RX12 361 miX12_coachNamed 0 := CV.of cmv_X12_coachNamed (TG_t7 156 (by decide +kernel) rfl)
theorem cv_X12_364 : CV RX12 364 miX12_thingNamed 1 := CV.of cmv_X12_thingNamed (TG_t7 163 (by decide +kernel) rfl)
theorem cv_X12_367 : CV RX12 367 miX12_buyerNamed 1 := CV.of cmv_X12_buyerNamed (TG_t7 167 (by decide +kernel) rfl)
theorem cv_X12_373 : CV RX12 373 miX12_isTwice 1 := CV.of cmv_X12_isTwice (TG_t7 81 (by decide +kernel) rfl)
theorem cv_X12_376 : CV RX12 376 miX12_needsBoth 3 := CV.of cmv_X12_needsBoth (TG_t7 97 (by decide +kernel) rfl)
theorem cv_X12_380 : CV RX12 380 miX12_closes 0 := CV.of cmv_X12_closes (TG_t7 105 (by decide +kernel) rfl)
theorem cv_X12_383 : CV RX12 383 miX12_isNew 0 := CV.of cmv_X12_isNew (TG_t7 118 (by decide +kernel) rfl)
theorem cv_X12_386 : CV RX12 386 miX12_needsThing 1 := CV.of cmv_X12_needsThing (TG_t7 183 (by decide +kernel) rfl)
theorem cv_X12_389 : CV RX12 389 miX12_readsWants 1 := CV.of cmv_X12_readsWants (TG_t7 179 (by decide +kernel) rfl)
theorem cv_X12_392 : CV RX12 392 miX12_reads 0 := CV.of cmv_X12_reads (TG_t7 199 (by decide +kernel) rfl)
theorem cv_X12_395 : CV RX12 395 miX12_starts 0 := CV.of cmv_X12_starts (TG_t7 58 (by decide +kernel) rfl)
theorem cv_X12_398 : CV RX12 398 miX12_readsStop 0 := CV.of cmv_X12_readsStop (TG_t7 77 (by decide +kernel) rfl)
theorem cv_X12_401 : CV RX12 401 miX12_readsCoach 0 := CV.of cmv_X12_readsCoach (TG_t7 114 (by decide +kernel) rfl)
theorem cv_X12_404 : CV RX12 404 miX12_readsThing 0 := CV.of cmv_X12_readsThing (TG_t7 171 (by decide +kernel) rfl)
theorem cv_X12_407 : CV RX12 407 miX12_readsBuyer 0 := CV.of cmv_X12_readsBuyer (TG_t7 175 (by decide +kernel) rfl)
theorem cv_X12_410 : CV RX12 410 miX12_readsOne 3 := CV.of cmv_X12_readsOne (TG_t7 187 (by decide +kernel) rfl)
theorem cv_X12_413 : CV RX12 413 miX12_readsLate 0 := CV.of cmv_X12_readsLate (TG_t7 191 (by decide +kernel) rfl)
theorem cv_X12_416 : CV RX12 416 miX12_readsOrder 0 := CV.of cmv_X12_readsOrder (TG_t7 195 (by decide +kernel) rfl)
theorem cs_X12_419 : CS RX12 419 miX12_moves 2 := CS.of cms_X12_moves (TG_t7 219 (by decide +kernel) rfl)
theorem cs_X12_423 : CS RX12 423 miX12_movesNames 2 := CS.of cms_X12_movesNames (TG_t7 222 (by decide +kernel) rfl)
theorem cv_X12_427 : CV RX12 427 miX12_readsAll 0 := CV.of cmv_X12_readsAll (TG_t7 54 (by decide +kernel) rfl)
theorem cv_X12_430 : CV RX12 430 miX12_lays 0 := CV.of cmv_X12_lays (TG_t7 215 (by decide +kernel) rfl)
theorem cv_X12_436 : CV RX12 436 miX12_readsLine 0 := CV.of cmv_X12_readsLine (TG_t7 229 (by decide +kernel) rfl)
theorem cv_X12_439 : CV RX12 439 miX12_laysLines 2 := CV.of cmv_X12_laysLines (TG_t7 233 (by decide +kernel) rfl)
theorem cs_X12_443 : CS RX12 443 miX12_away 2 := CS.of cms_X12_away (TG_t8 17 (by decide +kernel) rfl)
theorem cv_X12_447 : CV RX12 447 miX12_wayOf 1 := CV.of cmv_X12_wayOf (TG_t8 13 (by decide +kernel) rfl)
theorem cv_X12_461 : CV RX12 461 miX12_secsOf 1 := CV.of cmv_X12_secsOf (TG_t8 105 (by decide +kernel) rfl)
theorem cv_X12_467 : CV RX12 467 miX12_wants 2 := CV.of cmv_X12_wants (TG_t8 109 (by decide +kernel) rfl)
theorem cv_X12_473 : CV RX12 473 miX12_comesAt 1 := CV.of cmv_X12_comesAt (TG_t8 73 (by decide +kernel) rfl)
theorem cv_X12_476 : CV RX12 476 miX12_manyOf 1 := CV.of cmv_X12_manyOf (TG_t8 81 (by decide +kernel) rfl)
theorem cv_X12_479 : CV RX12 479 miX12_worked 1 := CV.of cmv_X12_worked (TG_t8 85 (by decide +kernel) rfl)
theorem cv_X12_482 : CV RX12 482 miX12_goesAt 1 := CV.of cmv_X12_goesAt (TG_t8 20 (by decide +kernel) rfl)
theorem cv_X12_485 : CV RX12 485 miX12_orderOf 2 := CV.of cmv_X12_orderOf (TG_t8 77 (by decide +kernel) rfl)
theorem cv_X12_488 : CV RX12 488 miX12_nextAt 1 := CV.of cmv_X12_nextAt (TG_t8 69 (by decide +kernel) rfl)
theorem cv_X12_491 : CV RX12 491 miX12_lastsFor 1 := CV.of cmv_X12_lastsFor (TG_t8 101 (by decide +kernel) rfl)
theorem cv_X12_494 : CV RX12 494 miX12_drinks 1 := CV.of cmv_X12_drinks (TG_t8 113 (by decide +kernel) rfl)
theorem cv_X12_500 : CV RX12 500 miX12_heatAt 3 := CV.of cmv_X12_heatAt (TG_t8 117 (by decide +kernel) rfl)
theorem cs_X12_504 : CS RX12 504 miX12_bits 1 := CS.of cms_X12_bits (TG_t8 129 (by decide +kernel) rfl)
theorem cv_X12_507 : CV RX12 507 miX12_isThing 1 := CV.of cmv_X12_isThing (TG_t8 1 (by decide +kernel) rfl)
theorem cv_X12_510 : CV RX12 510 miX12_isBuyer 1 := CV.of cmv_X12_isBuyer (TG_t8 9 (by decide +kernel) rfl)
theorem cs_X12_513 : CS RX12 513 miX12_copies 4 := CS.of cms_X12_copies (TG_t8 42 (by decide +kernel) rfl)
theorem cv_X12_517 : CV RX12 517 miX12_keeps 0 := CV.of cmv_X12_keeps (TG_t8 38 (by decide +kernel) rfl)
theorem cv_X12_520 : CV RX12 520 miX12_outThen 2 := CV.of cmv_X12_outThen (TG_t8 30 (by decide +kernel) rfl)
theorem cv_X12_524 : CV RX12 524 miX12_changes 3 := CV.of cmv_X12_changes (TG_t8 34 (by decide +kernel) rfl)
theorem cv_X12_528 : CV RX12 528 miX12_runs 0 := CV.of cmv_X12_runs (TG_t8 65 (by decide +kernel) rfl)
theorem cv_X12_534 : CV RX12 534 miX12_pence 0 := CV.of cmv_X12_pence (TG_t8 121 (by decide +kernel) rfl)
theorem cv_X12_540 : CV RX12 540 miX12_drunkInAll 0 := CV.of cmv_X12_drunkInAll (TG_t8 125 (by decide +kernel) rfl)
theorem cv_X12_543 : CV RX12 543 miX12_goes 1 := CV.of cmv_X12_goes (TG_t8 61 (by decide +kernel) rfl)
theorem cv_X12_546 : CV RX12 546 miX12_leftInAll 0 := CV.of cmv_X12_leftInAll (TG_t8 140 (by decide +kernel) rfl)
theorem cv_X12_549 : CV RX12 549 miX12_behindInAll 0 := CV.of cmv_X12_behindInAll (TG_t8 144 (by decide +kernel) rfl)
theorem cv_X12_553 : CV RX12 553 miX12_servedBy 1 := CV.of cmv_X12_servedBy (TG_t8 149 (by decide +kernel) rfl)
theorem cv_X12_558 : CV RX12 558 miX12_allBuyers 0 := CV.of cmv_X12_allBuyers (TG_t8 158 (by decide +kernel) rfl)
theorem cv_X12_561 : CV RX12 561 miX12_hasAll 1 := CV.of cmv_X12_hasAll (TG_t8 162 (by decide +kernel) rfl)
theorem cv_X12_566 : CV RX12 566 miX12_halves 0 := CV.of cmv_X12_halves (TG_t8 191 (by decide +kernel) rfl)
theorem cv_X12_569 : CV RX12 569 miX12_trayOf 2 := CV.of cmv_X12_trayOf (TG_t8 199 (by decide +kernel) rfl)
theorem cv_X12_572 : CV RX12 572 miX12_aheadOf 2 := CV.of cmv_X12_aheadOf (TG_t8 211 (by decide +kernel) rfl)
theorem cv_X12_575 : CV RX12 575 miX12_isLaw 2 := CV.of cmv_X12_isLaw (TG_t8 227 (by decide +kernel) rfl)
theorem cv_X12_589 : CV RX12 589 miX12_draws 1 := CV.of cmv_X12_draws (TG_t9 3 (by decide +kernel) rfl)
theorem cv_X12_592 : CV RX12 592 miX12_laysTold 2 := CV.of cmv_X12_laysTold (TG_t9 15 (by decide +kernel) rfl)
theorem cv_L_21 : CV RL 21 miX11_feed 3 := CV.of cmv_X11_feed (TG_t3 18 (by decide +kernel) rfl)
theorem cv_L_25 : CV RL 25 miX12_feed 3 := CV.of cmv_X12_feed (TG_t7 45 (by decide +kernel) rfl)
theorem cv_L_26 : CV RL 26 miX11_junction 0 := CV.of cmv_X11_junction (TG_t3 27 (by decide +kernel) rfl)
theorem cv_L_30 : CV RL 30 miX12_junction 0 := CV.of cmv_X12_junction (TG_t7 50 (by decide +kernel) rfl)
theorem cv_L_31 : CV RL 31 miX11_days 0 := CV.of cmv_X11_days (TG_t4 89 (by decide +kernel) rfl)
theorem cv_L_34 : CV RL 34 miX12_days 0 := CV.of cmv_X12_days (TG_t7 225 (by decide +kernel) rfl)
theorem cv_L_35 : CV RL 35 miX11_thing 2 := CV.of cmv_X11_thing (TG_t4 136 (by decide +kernel) rfl)
theorem cv_L_38 : CV RL 38 miX12_thing 2 := CV.of cmv_X12_thing (TG_t7 237 (by decide +kernel) rfl)
theorem cv_L_39 : CV RL 39 miX11_buyer 2 := CV.of cmv_X11_buyer (TG_t4 144 (by decide +kernel) rfl)
theorem cv_L_42 : CV RL 42 miX12_buyer 2 := CV.of cmv_X12_buyer (TG_t8 5 (by decide +kernel) rfl)
theorem cv_L_43 : CV RL 43 miX11_out 2 := CV.of cmv_X11_out (TG_t4 166 (by decide +kernel) rfl)
theorem cv_L_47 : CV RL 47 miX12_out 2 := CV.of cmv_X12_out (TG_t8 26 (by decide +kernel) rfl)
theorem cv_L_48 : CV RL 48 miX11_set 2 := CV.of cmv_X11_set (TG_t4 187 (by decide +kernel) rfl)
theorem cv_L_52 : CV RL 52 miX12_set 2 := CV.of cmv_X12_set (TG_t8 45 (by decide +kernel) rfl)
theorem cv_L_53 : CV RL 53 miX11_heats 2 := CV.of cmv_X11_heats (TG_t4 191 (by decide +kernel) rfl)
theorem cv_L_56 : CV RL 56 miX12_heats 2 := CV.of cmv_X12_heats (TG_t8 49 (by decide +kernel) rfl)
theorem cv_L_57 : CV RL 57 miX11_undo 0 := CV.of cmv_X11_undo (TG_t4 195 (by decide +kernel) rfl)
theorem cv_L_61 : CV RL 61 miX12_undo 0 := CV.of cmv_X12_undo (TG_t8 53 (by decide +kernel) rfl)
theorem cv_L_62 : CV RL 62 miX11_judged 1 := CV.of cmv_X11_judged (TG_t4 199 (by decide +kernel) rfl)
theorem cv_L_66 : CV RL 66 miX12_judged 1 := CV.of cmv_X12_judged (TG_t8 57 (by decide +kernel) rfl)
theorem cv_L_67 : CV RL 67 miX11_served 2 := CV.of cmv_X11_served (TG_t5 55 (by decide +kernel) rfl)
theorem cv_L_70 : CV RL 70 miX12_served 2 := CV.of cmv_X12_served (TG_t8 132 (by decide +kernel) rfl)
theorem cv_L_71 : CV RL 71 miX11_round 1 := CV.of cmv_X11_round (TG_t5 63 (by decide +kernel) rfl)
theorem cv_L_74 : CV RL 74 miX12_round 1 := CV.of cmv_X12_round (TG_t8 136 (by decide +kernel) rfl)
theorem cv_L_75 : CV RL 75 miX11_chance 1 := CV.of cmv_X11_chance (TG_t5 77 (by decide +kernel) rfl)
theorem cv_L_78 : CV RL 78 miX12_chance 1 := CV.of cmv_X12_chance (TG_t8 153 (by decide +kernel) rfl)
theorem cv_L_85 : CV RL 85 miX12_thrown 0 := CV.of cmv_X12_thrown (TG_t7 41 (by decide +kernel) rfl)
theorem cv_L_88 : CV RL 88 miX11_errand 2 := CV.of cmv_X11_errand (TG_t5 90 (by decide +kernel) rfl)
theorem cv_L_91 : CV RL 91 miX12_errand 2 := CV.of cmv_X12_errand (TG_t8 171 (by decide +kernel) rfl)
theorem cv_L_92 : CV RL 92 miX11_table 2 := CV.of cmv_X11_table (TG_t5 102 (by decide +kernel) rfl)
theorem cv_L_95 : CV RL 95 miX12_table 2 := CV.of cmv_X12_table (TG_t8 175 (by decide +kernel) rfl)
theorem cv_L_96 : CV RL 96 miX11_stand 0 := CV.of cmv_X11_stand (TG_t5 106 (by decide +kernel) rfl)
theorem cv_L_99 : CV RL 99 miX12_stand 0 := CV.of cmv_X12_stand (TG_t8 179 (by decide +kernel) rfl)
theorem cv_L_100 : CV RL 100 miX11_ring 0 := CV.of cmv_X11_ring (TG_t5 110 (by decide +kernel) rfl)
theorem cv_L_103 : CV RL 103 miX12_ring 0 := CV.of cmv_X12_ring (TG_t8 183 (by decide +kernel) rfl)
theorem cv_L_104 : CV RL 104 miX11_best 2 := CV.of cmv_X11_best (TG_t5 114 (by decide +kernel) rfl)
theorem cv_L_108 : CV RL 108 miX12_best 2 := CV.of cmv_X12_best (TG_t8 187 (by decide +kernel) rfl)
theorem cv_L_109 : CV RL 109 miX11_tray 2 := CV.of cmv_X11_tray (TG_t5 126 (by decide +kernel) rfl)
theorem cv_L_112 : CV RL 112 miX12_tray 2 := CV.of cmv_X12_tray (TG_t8 195 (by decide +kernel) rfl)
theorem cv_L_113 : CV RL 113 miX11_price 1 := CV.of cmv_X11_price (TG_t5 135 (by decide +kernel) rfl)
theorem cv_L_116 : CV RL 116 miX12_price 1 := CV.of cmv_X12_price (TG_t8 203 (by decide +kernel) rfl)
theorem cv_L_117 : CV RL 117 miX11_ahead 2 := CV.of cmv_X11_ahead (TG_t5 139 (by decide +kernel) rfl)
theorem cv_L_120 : CV RL 120 miX12_ahead 2 := CV.of cmv_X12_ahead (TG_t8 207 (by decide +kernel) rfl)
theorem cv_L_121 : CV RL 121 miX11_most 1 := CV.of cmv_X11_most (TG_t5 147 (by decide +kernel) rfl)
theorem cv_L_124 : CV RL 124 miX12_most 1 := CV.of cmv_X12_most (TG_t8 215 (by decide +kernel) rfl)
theorem cv_L_125 : CV RL 125 miX11_sell 2 := CV.of cmv_X11_sell (TG_t5 151 (by decide +kernel) rfl)
theorem cv_L_128 : CV RL 128 miX12_sell 2 := CV.of cmv_X12_sell (TG_t8 219 (by decide +kernel) rfl)
theorem cv_L_129 : CV RL 129 miX11_laws 1 := CV.of cmv_X11_laws (TG_t5 155 (by decide +kernel) rfl)
theorem cv_L_132 : CV RL 132 miX12_laws 1 := CV.of cmv_X12_laws (TG_t8 223 (by decide +kernel) rfl)
theorem cv_L_133 : CV RL 133 miX11_see 2 := CV.of cmv_X11_see (TG_t5 163 (by decide +kernel) rfl)
theorem cv_L_136 : CV RL 136 miX12_see 2 := CV.of cmv_X12_see (TG_t8 231 (by decide +kernel) rfl)
theorem cv_L_137 : CV RL 137 miX11_was 0 := CV.of cmv_X11_was (TG_t5 167 (by decide +kernel) rfl)
theorem cv_L_140 : CV RL 140 miX12_was 0 := CV.of cmv_X12_was (TG_t8 235 (by decide +kernel) rfl)
theorem cv_L_141 : CV RL 141 miX11_years 3 := CV.of cmv_X11_years (TG_t5 171 (by decide +kernel) rfl)
theorem cv_L_145 : CV RL 145 miX12_years 3 := CV.of cmv_X12_years (TG_t8 239 (by decide +kernel) rfl)
theorem cv_L_146 : CV RL 146 miX11_mark 2 := CV.of cmv_X11_mark (TG_t5 180 (by decide +kernel) rfl)
theorem cv_L_149 : CV RL 149 miX12_mark 2 := CV.of cmv_X12_mark (TG_t9 11 (by decide +kernel) rfl)
theorem cv_L_150 : CV RL 150 miX11_count 1 := CV.of cmv_X11_count (TG_t5 190 (by decide +kernel) rfl)
theorem cv_L_153 : CV RL 153 miX12_count 1 := CV.of cmv_X12_count (TG_t9 19 (by decide +kernel) rfl)
