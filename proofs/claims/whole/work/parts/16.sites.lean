theorem mX0_init : pm_MW yX0_init cX0_init 1 none 0 := ⟨pm_t2 69 rfl, pm_t1 9 rfl, ⟨by decide +kernel, by decide +kernel⟩, by decide +kernel⟩
theorem mX0_clear : pm_MW yX0_clear cX0_clear 1 none 0 := ⟨pm_t2 222 rfl, pm_t1 9 rfl, ⟨by decide +kernel, by decide +kernel⟩, by decide +kernel⟩
theorem mX0_addPlace : pm_MW yX0_addPlace cX0_addPlace 3 none 2 := ⟨pm_t3 143 rfl, pm_t1 9 rfl, ⟨by decide +kernel, by decide +kernel⟩, by decide +kernel⟩
theorem mX0_addTruck : pm_MW yX0_addTruck cX0_addTruck 3 none 2 := ⟨pm_t3 147 rfl, pm_t1 9 rfl, ⟨by decide +kernel, by decide +kernel⟩, by decide +kernel⟩
theorem mX0_addLoad : pm_MW yX0_addLoad cX0_addLoad 4 none 3 := ⟨pm_t3 151 rfl, pm_t1 9 rfl, ⟨by decide +kernel, by decide +kernel⟩, by decide +kernel⟩
theorem mX0_addTrip : pm_MW yX0_addTrip cX0_addTrip 4 none 3 := ⟨pm_t3 123 rfl, pm_t1 9 rfl, ⟨by decide +kernel, by decide +kernel⟩, by decide +kernel⟩
theorem mX0_addStep : pm_MW yX0_addStep cX0_addStep 3 none 2 := ⟨pm_t3 135 rfl, pm_t1 9 rfl, ⟨by decide +kernel, by decide +kernel⟩, by decide +kernel⟩
theorem mX0_firstStep : pm_MW yX0_firstStep cX0_firstStep 2 (some .int) 1 := ⟨pm_t3 171 rfl, pm_t1 9 rfl, ⟨by decide +kernel, by decide +kernel⟩, by decide +kernel⟩
theorem mX0_fuelTold : pm_MW yX0_fuelTold cX0_fuelTold 4 (some .int) 1 := ⟨pm_t3 227 rfl, pm_t1 9 rfl, ⟨by decide +kernel, by decide +kernel⟩, by decide +kernel⟩
theorem mX0_distance : pm_MW yX0_distance cX0_distance 3 (some .int) 2 := ⟨pm_t3 179 rfl, pm_t1 9 rfl, ⟨by decide +kernel, by decide +kernel⟩, by decide +kernel⟩
theorem mX1_init : pm_MW yX1_init cX1_init 1 none 0 := ⟨pm_t2 46 rfl, pm_t1 8 rfl, ⟨by decide +kernel, by decide +kernel⟩, by decide +kernel⟩
theorem mX1_keep : pm_MW yX1_keep cX1_keep 4 none 3 := ⟨pm_t4 125 rfl, pm_t1 8 rfl, ⟨by decide +kernel, by decide +kernel⟩, by decide +kernel⟩
theorem mX1_forgetOldest : pm_MW yX1_forgetOldest cX1_forgetOldest 2 none 0 := ⟨pm_t4 129 rfl, pm_t1 8 rfl, ⟨by decide +kernel, by decide +kernel⟩, by decide +kernel⟩
theorem mX2_init : pm_MW yX2_init cX2_init 1 none 0 := ⟨pm_t1 197 rfl, pm_t1 6 rfl, ⟨by decide +kernel, by decide +kernel⟩, by decide +kernel⟩
theorem mX2_takeLoads : pm_MW yX2_takeLoads cX2_takeLoads 3 none 1 := ⟨pm_t3 206 rfl, pm_t1 6 rfl, ⟨by decide +kernel, by decide +kernel⟩, by decide +kernel⟩
theorem mX2_splitLoad : pm_MW yX2_splitLoad cX2_splitLoad 3 none 2 := ⟨pm_t4 109 rfl, pm_t1 6 rfl, ⟨by decide +kernel, by decide +kernel⟩, by decide +kernel⟩
theorem mX2_settle : pm_MW yX2_settle cX2_settle 4 none 2 := ⟨pm_t3 210 rfl, pm_t1 6 rfl, ⟨by decide +kernel, by decide +kernel⟩, by decide +kernel⟩
theorem mX2_isIdle : pm_MW yX2_isIdle cX2_isIdle 2 (some .boolean) 1 := ⟨pm_t4 20 rfl, pm_t1 6 rfl, ⟨by decide +kernel, by decide +kernel⟩, by decide +kernel⟩
theorem mX2_estimateOf : pm_MW yX2_estimateOf cX2_estimateOf 2 (some .int) 1 := ⟨pm_t3 214 rfl, pm_t1 6 rfl, ⟨by decide +kernel, by decide +kernel⟩, by decide +kernel⟩
theorem mX2_measureParts : pm_MW yX2_measureParts cX2_measureParts 5 none 1 := ⟨pm_t3 218 rfl, pm_t1 6 rfl, ⟨by decide +kernel, by decide +kernel⟩, by decide +kernel⟩
theorem mX2_closeTruck : pm_MW yX2_closeTruck cX2_closeTruck 7 none 1 := ⟨pm_t3 223 rfl, pm_t1 6 rfl, ⟨by decide +kernel, by decide +kernel⟩, by decide +kernel⟩
theorem mX2_isParted : pm_MW yX2_isParted cX2_isParted 4 (some .boolean) 3 := ⟨pm_t3 239 rfl, pm_t1 6 rfl, ⟨by decide +kernel, by decide +kernel⟩, by decide +kernel⟩
theorem mX2_sumOfMissing : pm_MW yX2_sumOfMissing cX2_sumOfMissing 4 (some .int) 1 := ⟨pm_t3 231 rfl, pm_t1 6 rfl, ⟨by decide +kernel, by decide +kernel⟩, by decide +kernel⟩
theorem mX2_gatherIdle : pm_MW yX2_gatherIdle cX2_gatherIdle 3 none 0 := ⟨pm_t4 16 rfl, pm_t1 6 rfl, ⟨by decide +kernel, by decide +kernel⟩, by decide +kernel⟩
theorem mX2_heirOf : pm_MW yX2_heirOf cX2_heirOf 4 (some .int) 1 := ⟨pm_t4 24 rfl, pm_t1 6 rfl, ⟨by decide +kernel, by decide +kernel⟩, by decide +kernel⟩
theorem mX2_partTrip : pm_MW yX2_partTrip cX2_partTrip 4 none 1 := ⟨pm_t4 28 rfl, pm_t1 6 rfl, ⟨by decide +kernel, by decide +kernel⟩, by decide +kernel⟩
theorem mX2_partOpen : pm_MW yX2_partOpen cX2_partOpen 3 none 0 := ⟨pm_t4 32 rfl, pm_t1 6 rfl, ⟨by decide +kernel, by decide +kernel⟩, by decide +kernel⟩
theorem mX3_init : pm_MW yX3_init cX3_init 1 none 0 := ⟨pm_t1 203 rfl, pm_t1 7 rfl, ⟨by decide +kernel, by decide +kernel⟩, by decide +kernel⟩
theorem mX3_begin : pm_MW yX3_begin cX3_begin 1 none 0 := ⟨pm_t3 235 rfl, pm_t1 7 rfl, ⟨by decide +kernel, by decide +kernel⟩, by decide +kernel⟩
theorem mX3_add : pm_MW yX3_add cX3_add 2 none 1 := ⟨pm_t4 3 rfl, pm_t1 7 rfl, ⟨by decide +kernel, by decide +kernel⟩, by decide +kernel⟩
theorem mX3_divide : pm_MW yX3_divide cX3_divide 8 none 1 := ⟨pm_t4 7 rfl, pm_t1 7 rfl, ⟨by decide +kernel, by decide +kernel⟩, by decide +kernel⟩
theorem mX3_giveOne : pm_MW yX3_giveOne cX3_giveOne 3 none 0 := ⟨pm_t4 11 rfl, pm_t1 7 rfl, ⟨by decide +kernel, by decide +kernel⟩, by decide +kernel⟩
theorem mX4_init : pm_MW yX4_init cX4_init 2 none 1 := ⟨pm_t1 48 rfl, pm_t1 3 rfl, ⟨by decide +kernel, by decide +kernel⟩, by decide +kernel⟩
theorem mX4_read : pm_MW yX4_read cX4_read 3 (some .boolean) 1 := ⟨pm_t2 218 rfl, pm_t1 3 rfl, ⟨by decide +kernel, by decide +kernel⟩, by decide +kernel⟩
theorem mX4_refuse : pm_MW yX4_refuse cX4_refuse 2 (some .boolean) 1 := ⟨pm_t3 87 rfl, pm_t1 3 rfl, ⟨by decide +kernel, by decide +kernel⟩, by decide +kernel⟩
theorem mX4_takeToken : pm_MW yX4_takeToken cX4_takeToken 1 (some .boolean) 0 := ⟨pm_t3 79 rfl, pm_t1 3 rfl, ⟨by decide +kernel, by decide +kernel⟩, by decide +kernel⟩
theorem mX4_beginLine : pm_MW yX4_beginLine cX4_beginLine 2 (some .boolean) 0 := ⟨pm_t3 83 rfl, pm_t1 3 rfl, ⟨by decide +kernel, by decide +kernel⟩, by decide +kernel⟩
theorem mX4_beginLineOf : pm_MW yX4_beginLineOf cX4_beginLineOf 4 (some .boolean) 3 := ⟨pm_t3 91 rfl, pm_t1 3 rfl, ⟨by decide +kernel, by decide +kernel⟩, by decide +kernel⟩
theorem mX4_takeField : pm_MW yX4_takeField cX4_takeField 1 (some .boolean) 0 := ⟨pm_t3 95 rfl, pm_t1 3 rfl, ⟨by decide +kernel, by decide +kernel⟩, by decide +kernel⟩
theorem mX4_takeFieldOfLoad : pm_MW yX4_takeFieldOfLoad cX4_takeFieldOfLoad 2 (some .boolean) 0 := ⟨pm_t3 107 rfl, pm_t1 3 rfl, ⟨by decide +kernel, by decide +kernel⟩, by decide +kernel⟩
theorem mX4_takeFieldOfTrip : pm_MW yX4_takeFieldOfTrip cX4_takeFieldOfTrip 1 (some .boolean) 0 := ⟨pm_t3 119 rfl, pm_t1 3 rfl, ⟨by decide +kernel, by decide +kernel⟩, by decide +kernel⟩
theorem mX4_takeNumber : pm_MW yX4_takeNumber cX4_takeNumber 3 (some .boolean) 2 := ⟨pm_t3 99 rfl, pm_t1 3 rfl, ⟨by decide +kernel, by decide +kernel⟩, by decide +kernel⟩
theorem mX4_takeNumberTold : pm_MW yX4_takeNumberTold cX4_takeNumberTold 2 (some .boolean) 1 := ⟨pm_t3 111 rfl, pm_t1 3 rfl, ⟨by decide +kernel, by decide +kernel⟩, by decide +kernel⟩
theorem mX4_isNumberTold : pm_MW yX4_isNumberTold cX4_isNumberTold 2 (some .boolean) 1 := ⟨pm_t3 115 rfl, pm_t1 3 rfl, ⟨by decide +kernel, by decide +kernel⟩, by decide +kernel⟩
theorem mX4_keepField : pm_MW yX4_keepField cX4_keepField 2 (some .boolean) 1 := ⟨pm_t3 103 rfl, pm_t1 3 rfl, ⟨by decide +kernel, by decide +kernel⟩, by decide +kernel⟩
theorem mX4_takeStep : pm_MW yX4_takeStep cX4_takeStep 1 (some .boolean) 0 := ⟨pm_t3 127 rfl, pm_t1 3 rfl, ⟨by decide +kernel, by decide +kernel⟩, by decide +kernel⟩
theorem mX4_takeNumberOfStep : pm_MW yX4_takeNumberOfStep cX4_takeNumberOfStep 2 (some .boolean) 0 := ⟨pm_t3 131 rfl, pm_t1 3 rfl, ⟨by decide +kernel, by decide +kernel⟩, by decide +kernel⟩
theorem mX4_endLine : pm_MW yX4_endLine cX4_endLine 1 (some .boolean) 0 := ⟨pm_t3 139 rfl, pm_t1 3 rfl, ⟨by decide +kernel, by decide +kernel⟩, by decide +kernel⟩
theorem mX5_init : pm_MW yX5_init cX5_init 1 none 0 := ⟨pm_t1 123 rfl, pm_t1 5 rfl, ⟨by decide +kernel, by decide +kernel⟩, by decide +kernel⟩
theorem mX5_survey : pm_MW yX5_survey cX5_survey 3 none 1 := ⟨pm_t3 159 rfl, pm_t1 5 rfl, ⟨by decide +kernel, by decide +kernel⟩, by decide +kernel⟩
theorem mX5_clear : pm_MW yX5_clear cX5_clear 3 none 0 := ⟨pm_t3 163 rfl, pm_t1 5 rfl, ⟨by decide +kernel, by decide +kernel⟩, by decide +kernel⟩
theorem mX5_drive : pm_MW yX5_drive cX5_drive 7 none 1 := ⟨pm_t3 167 rfl, pm_t1 5 rfl, ⟨by decide +kernel, by decide +kernel⟩, by decide +kernel⟩
theorem mX5_driveLeg : pm_MW yX5_driveLeg cX5_driveLeg 7 none 4 := ⟨pm_t3 175 rfl, pm_t1 5 rfl, ⟨by decide +kernel, by decide +kernel⟩, by decide +kernel⟩
theorem mX5_findGapsOfTruck : pm_MW yX5_findGapsOfTruck cX5_findGapsOfTruck 4 none 1 := ⟨pm_t3 186 rfl, pm_t1 5 rfl, ⟨by decide +kernel, by decide +kernel⟩, by decide +kernel⟩
theorem mX5_followLoad : pm_MW yX5_followLoad cX5_followLoad 6 none 1 := ⟨pm_t3 194 rfl, pm_t1 5 rfl, ⟨by decide +kernel, by decide +kernel⟩, by decide +kernel⟩
theorem mX5_addGapOfLoad : pm_MW yX5_addGapOfLoad cX5_addGapOfLoad 4 none 3 := ⟨pm_t3 198 rfl, pm_t1 5 rfl, ⟨by decide +kernel, by decide +kernel⟩, by decide +kernel⟩
theorem mX5_addGap : pm_MW yX5_addGap cX5_addGap 4 none 3 := ⟨pm_t3 190 rfl, pm_t1 5 rfl, ⟨by decide +kernel, by decide +kernel⟩, by decide +kernel⟩
theorem mX6_init : pm_MW yX6_init cX6_init 2 none 1 := ⟨pm_t1 54 rfl, pm_t1 4 rfl, ⟨by decide +kernel, by decide +kernel⟩, by decide +kernel⟩
theorem mX6_begin : pm_MW yX6_begin cX6_begin 1 none 0 := ⟨pm_t2 226 rfl, pm_t1 4 rfl, ⟨by decide +kernel, by decide +kernel⟩, by decide +kernel⟩
theorem mX6_hasTooMany : pm_MW yX6_hasTooMany cX6_hasTooMany 1 (some .boolean) 0 := ⟨pm_t3 155 rfl, pm_t1 4 rfl, ⟨by decide +kernel, by decide +kernel⟩, by decide +kernel⟩
theorem mX6_next : pm_MW yX6_next cX6_next 1 none 0 := ⟨pm_t2 233 rfl, pm_t1 4 rfl, ⟨by decide +kernel, by decide +kernel⟩, by decide +kernel⟩
theorem mX6_readRun : pm_MW yX6_readRun cX6_readRun 4 (some .int) 0 := ⟨pm_t3 4 rfl, pm_t1 4 rfl, ⟨by decide +kernel, by decide +kernel⟩, by decide +kernel⟩
theorem mX6_wordKind : pm_MW yX6_wordKind cX6_wordKind 1 (some .int) 0 := ⟨pm_t3 14 rfl, pm_t1 4 rfl, ⟨by decide +kernel, by decide +kernel⟩, by decide +kernel⟩
theorem mX6_spells : pm_MW yX6_spells cX6_spells 3 (some .boolean) 1 := ⟨pm_t3 19 rfl, pm_t1 4 rfl, ⟨by decide +kernel, by decide +kernel⟩, by decide +kernel⟩
theorem mX6_isBlank : pm_MW yX6_isBlank cX6_isBlank 1 (some .boolean) 1 := ⟨pm_t3 0 rfl, pm_t1 4 rfl, ⟨by decide +kernel, by decide +kernel⟩, by decide +kernel⟩
theorem mX6_isLetter : pm_MW yX6_isLetter cX6_isLetter 1 (some .boolean) 1 := ⟨pm_t3 7 rfl, pm_t1 4 rfl, ⟨by decide +kernel, by decide +kernel⟩, by decide +kernel⟩
theorem mX6_isDigit : pm_MW yX6_isDigit cX6_isDigit 1 (some .boolean) 1 := ⟨pm_t3 10 rfl, pm_t1 4 rfl, ⟨by decide +kernel, by decide +kernel⟩, by decide +kernel⟩
theorem mX7_init : pm_MW yX7_init cX7_init 1 none 0 := ⟨pm_t1 32 rfl, pm_t1 2 rfl, ⟨by decide +kernel, by decide +kernel⟩, by decide +kernel⟩
theorem mX7_addNumber : pm_MW yX7_addNumber cX7_addNumber 2 none 1 := ⟨pm_t2 202 rfl, pm_t1 2 rfl, ⟨by decide +kernel, by decide +kernel⟩, by decide +kernel⟩
theorem mX7_addByte : pm_MW yX7_addByte cX7_addByte 2 none 1 := ⟨pm_t2 206 rfl, pm_t1 2 rfl, ⟨by decide +kernel, by decide +kernel⟩, by decide +kernel⟩
theorem mX7_byteAt : pm_MW yX7_byteAt cX7_byteAt 2 (some .int) 1 := ⟨pm_t2 237 rfl, pm_t1 2 rfl, ⟨by decide +kernel, by decide +kernel⟩, by decide +kernel⟩
theorem mX8_init : pm_MW yX8_init cX8_init 1 none 0 := ⟨pm_t1 24 rfl, pm_t1 1 rfl, ⟨by decide +kernel, by decide +kernel⟩, by decide +kernel⟩
theorem mX8_feed : pm_MW yX8_feed cX8_feed 6 (some .int) 5 := ⟨pm_t2 198 rfl, pm_t1 1 rfl, ⟨by decide +kernel, by decide +kernel⟩, by decide +kernel⟩
theorem mX8_end : pm_MW yX8_end cX8_end 2 (some .boolean) 1 := ⟨pm_t2 210 rfl, pm_t1 1 rfl, ⟨by decide +kernel, by decide +kernel⟩, by decide +kernel⟩
theorem mX8_text : pm_MW yX8_text cX8_text 3 (some .int) 0 := ⟨pm_t2 214 rfl, pm_t1 1 rfl, ⟨by decide +kernel, by decide +kernel⟩, by decide +kernel⟩
theorem mX8_fault : pm_MW yX8_fault cX8_fault 1 (some .int) 0 := ⟨pm_t4 36 rfl, pm_t1 1 rfl, ⟨by decide +kernel, by decide +kernel⟩, by decide +kernel⟩
theorem mX8_now : pm_MW yX8_now cX8_now 2 (some .int) 1 := ⟨pm_t4 40 rfl, pm_t1 1 rfl, ⟨by decide +kernel, by decide +kernel⟩, by decide +kernel⟩
theorem mX8_direct : pm_MW yX8_direct cX8_direct 3 (some .int) 2 := ⟨pm_t4 51 rfl, pm_t1 1 rfl, ⟨by decide +kernel, by decide +kernel⟩, by decide +kernel⟩
theorem mX8_truck : pm_MW yX8_truck cX8_truck 3 (some .int) 2 := ⟨pm_t4 59 rfl, pm_t1 1 rfl, ⟨by decide +kernel, by decide +kernel⟩, by decide +kernel⟩
theorem mX8_load : pm_MW yX8_load cX8_load 3 (some .int) 2 := ⟨pm_t4 153 rfl, pm_t1 1 rfl, ⟨by decide +kernel, by decide +kernel⟩, by decide +kernel⟩
theorem mX8_trip : pm_MW yX8_trip cX8_trip 3 (some .int) 2 := ⟨pm_t5 0 rfl, pm_t1 1 rfl, ⟨by decide +kernel, by decide +kernel⟩, by decide +kernel⟩
theorem mX8_share : pm_MW yX8_share cX8_share 3 (some .int) 2 := ⟨pm_t4 76 rfl, pm_t1 1 rfl, ⟨by decide +kernel, by decide +kernel⟩, by decide +kernel⟩
theorem mX8_gap : pm_MW yX8_gap cX8_gap 3 (some .int) 2 := ⟨pm_t4 80 rfl, pm_t1 1 rfl, ⟨by decide +kernel, by decide +kernel⟩, by decide +kernel⟩
theorem mX8_way : pm_MW yX8_way cX8_way 3 (some .int) 2 := ⟨pm_t4 84 rfl, pm_t1 1 rfl, ⟨by decide +kernel, by decide +kernel⟩, by decide +kernel⟩
theorem mX8_busiest : pm_MW yX8_busiest cX8_busiest 5 (some .int) 0 := ⟨pm_t4 88 rfl, pm_t1 1 rfl, ⟨by decide +kernel, by decide +kernel⟩, by decide +kernel⟩
theorem mX8_hub : pm_MW yX8_hub cX8_hub 4 (some .int) 1 := ⟨pm_t4 92 rfl, pm_t1 1 rfl, ⟨by decide +kernel, by decide +kernel⟩, by decide +kernel⟩
theorem mX8_dearest : pm_MW yX8_dearest cX8_dearest 3 (some .int) 0 := ⟨pm_t4 96 rfl, pm_t1 1 rfl, ⟨by decide +kernel, by decide +kernel⟩, by decide +kernel⟩
theorem mX8_split : pm_MW yX8_split cX8_split 5 (some .int) 3 := ⟨pm_t4 105 rfl, pm_t1 1 rfl, ⟨by decide +kernel, by decide +kernel⟩, by decide +kernel⟩
theorem mX8_without : pm_MW yX8_without cX8_without 3 (some .int) 2 := ⟨pm_t4 113 rfl, pm_t1 1 rfl, ⟨by decide +kernel, by decide +kernel⟩, by decide +kernel⟩
theorem mX8_fuel : pm_MW yX8_fuel cX8_fuel 3 (some .int) 2 := ⟨pm_t4 117 rfl, pm_t1 1 rfl, ⟨by decide +kernel, by decide +kernel⟩, by decide +kernel⟩
theorem mX8_buy : pm_MW yX8_buy cX8_buy 3 (some .int) 2 := ⟨pm_t4 133 rfl, pm_t1 1 rfl, ⟨by decide +kernel, by decide +kernel⟩, by decide +kernel⟩
theorem mX8_weigh : pm_MW yX8_weigh cX8_weigh 3 (some .int) 2 := ⟨pm_t4 137 rfl, pm_t1 1 rfl, ⟨by decide +kernel, by decide +kernel⟩, by decide +kernel⟩
theorem mX8_undo : pm_MW yX8_undo cX8_undo 2 (some .int) 0 := ⟨pm_t4 141 rfl, pm_t1 1 rfl, ⟨by decide +kernel, by decide +kernel⟩, by decide +kernel⟩
theorem mX8_isIn : pm_MW yX8_isIn cX8_isIn 2 (some .boolean) 2 := ⟨pm_t4 54 rfl, pm_t1 1 rfl, ⟨by decide +kernel, by decide +kernel⟩, by decide +kernel⟩
theorem mX8_sumOf : pm_MW yX8_sumOf cX8_sumOf 4 (some .int) 2 := ⟨pm_t4 43 rfl, pm_t1 1 rfl, ⟨by decide +kernel, by decide +kernel⟩, by decide +kernel⟩
theorem mX8_settle : pm_MW yX8_settle cX8_settle 1 none 0 := ⟨pm_t3 202 rfl, pm_t1 1 rfl, ⟨by decide +kernel, by decide +kernel⟩, by decide +kernel⟩
theorem mX8_change : pm_MW yX8_change cX8_change 6 (some .int) 4 := ⟨pm_t4 121 rfl, pm_t1 1 rfl, ⟨by decide +kernel, by decide +kernel⟩, by decide +kernel⟩
theorem mX8_rowOf : pm_MW yX8_rowOf cX8_rowOf 2 (some (.array .int)) 1 := ⟨pm_t4 145 rfl, pm_t1 1 rfl, ⟨by decide +kernel, by decide +kernel⟩, by decide +kernel⟩
theorem mX8_hubBits : pm_MW yX8_hubBits cX8_hubBits 4 (some .int) 0 := ⟨pm_t4 47 rfl, pm_t1 1 rfl, ⟨by decide +kernel, by decide +kernel⟩, by decide +kernel⟩
theorem mX8_tripBits : pm_MW yX8_tripBits cX8_tripBits 4 (some .int) 1 := ⟨pm_t4 63 rfl, pm_t1 1 rfl, ⟨by decide +kernel, by decide +kernel⟩, by decide +kernel⟩
theorem mX8_sumOverTrips : pm_MW yX8_sumOverTrips cX8_sumOverTrips 5 (some .int) 2 := ⟨pm_t4 67 rfl, pm_t1 1 rfl, ⟨by decide +kernel, by decide +kernel⟩, by decide +kernel⟩
theorem mX8_lastPlace : pm_MW yX8_lastPlace cX8_lastPlace 4 (some .int) 1 := ⟨pm_t4 72 rfl, pm_t1 1 rfl, ⟨by decide +kernel, by decide +kernel⟩, by decide +kernel⟩
theorem mX8_tripBitsOfLoad : pm_MW yX8_tripBitsOfLoad cX8_tripBitsOfLoad 4 (some .int) 1 := ⟨pm_t4 222 rfl, pm_t1 1 rfl, ⟨by decide +kernel, by decide +kernel⟩, by decide +kernel⟩
theorem mX8_partsOfLoad : pm_MW yX8_partsOfLoad cX8_partsOfLoad 4 (some .int) 1 := ⟨pm_t4 226 rfl, pm_t1 1 rfl, ⟨by decide +kernel, by decide +kernel⟩, by decide +kernel⟩
theorem mX8_due : pm_MW yX8_due cX8_due 4 (some .int) 1 := ⟨pm_t4 230 rfl, pm_t1 1 rfl, ⟨by decide +kernel, by decide +kernel⟩, by decide +kernel⟩
theorem mX8_isDearer : pm_MW yX8_isDearer cX8_isDearer 7 (some .boolean) 2 := ⟨pm_t4 101 rfl, pm_t1 1 rfl, ⟨by decide +kernel, by decide +kernel⟩, by decide +kernel⟩
theorem mX9_thrown : pm_MW yX9_thrown cX9_thrown 1 (some .int) 0 := ⟨pm_t5 6 rfl, pm_t1 10 rfl, ⟨by decide +kernel, by decide +kernel⟩, by decide +kernel⟩
theorem mX9_refuse : pm_MW yX9_refuse cX9_refuse 1 (some .int) 0 := ⟨pm_t6 68 rfl, pm_t1 10 rfl, ⟨by decide +kernel, by decide +kernel⟩, by decide +kernel⟩
theorem mX9_isIn : pm_MW yX9_isIn cX9_isIn 3 (some .boolean) 3 := ⟨pm_t5 161 rfl, pm_t1 10 rfl, ⟨by decide +kernel, by decide +kernel⟩, by decide +kernel⟩
theorem mX9_has : pm_MW yX9_has cX9_has 2 (some .boolean) 2 := ⟨pm_t5 191 rfl, pm_t1 10 rfl, ⟨by decide +kernel, by decide +kernel⟩, by decide +kernel⟩
theorem mX9_lays : pm_MW yX9_lays cX9_lays 3 none 1 := ⟨pm_t5 15 rfl, pm_t1 10 rfl, ⟨by decide +kernel, by decide +kernel⟩, by decide +kernel⟩
theorem mX9_feed : pm_MW yX9_feed cX9_feed 6 (some .int) 5 := ⟨pm_t5 10 rfl, pm_t1 10 rfl, ⟨by decide +kernel, by decide +kernel⟩, by decide +kernel⟩
theorem mX9_end : pm_MW yX9_end cX9_end 2 (some .boolean) 1 := ⟨pm_t5 19 rfl, pm_t1 10 rfl, ⟨by decide +kernel, by decide +kernel⟩, by decide +kernel⟩
theorem mX9_tapeAt : pm_MW yX9_tapeAt cX9_tapeAt 2 (some .int) 1 := ⟨pm_t5 136 rfl, pm_t1 10 rfl, ⟨by decide +kernel, by decide +kernel⟩, by decide +kernel⟩
theorem mX9_isDigit : pm_MW yX9_isDigit cX9_isDigit 1 (some .boolean) 1 := ⟨pm_t5 132 rfl, pm_t1 10 rfl, ⟨by decide +kernel, by decide +kernel⟩, by decide +kernel⟩
theorem mX9_isLetter : pm_MW yX9_isLetter cX9_isLetter 1 (some .boolean) 1 := ⟨pm_t5 129 rfl, pm_t1 10 rfl, ⟨by decide +kernel, by decide +kernel⟩, by decide +kernel⟩
theorem mX9_go : pm_MW yX9_go cX9_go 5 none 0 := ⟨pm_t5 126 rfl, pm_t1 10 rfl, ⟨by decide +kernel, by decide +kernel⟩, by decide +kernel⟩
theorem mX9_is : pm_MW yX9_is cX9_is 8 (some .boolean) 5 := ⟨pm_t5 146 rfl, pm_t1 10 rfl, ⟨by decide +kernel, by decide +kernel⟩, by decide +kernel⟩
theorem mX9_bad : pm_MW yX9_bad cX9_bad 2 (some .boolean) 1 := ⟨pm_t5 158 rfl, pm_t1 10 rfl, ⟨by decide +kernel, by decide +kernel⟩, by decide +kernel⟩
theorem mX9_init : pm_MW yX9_init cX9_init 1 none 0 := ⟨pm_t5 23 rfl, pm_t1 10 rfl, ⟨by decide +kernel, by decide +kernel⟩, by decide +kernel⟩
theorem mX9_told : pm_MW yX9_told cX9_told 5 (some .int) 3 := ⟨pm_t5 154 rfl, pm_t1 10 rfl, ⟨by decide +kernel, by decide +kernel⟩, by decide +kernel⟩
theorem mX9_toldPlace : pm_MW yX9_toldPlace cX9_toldPlace 1 (some .int) 0 := ⟨pm_t5 177 rfl, pm_t1 10 rfl, ⟨by decide +kernel, by decide +kernel⟩, by decide +kernel⟩
theorem mX9_readDesk : pm_MW yX9_readDesk cX9_readDesk 2 (some .boolean) 0 := ⟨pm_t5 150 rfl, pm_t1 10 rfl, ⟨by decide +kernel, by decide +kernel⟩, by decide +kernel⟩
theorem mX9_readPlace : pm_MW yX9_readPlace cX9_readPlace 4 (some .boolean) 0 := ⟨pm_t5 165 rfl, pm_t1 10 rfl, ⟨by decide +kernel, by decide +kernel⟩, by decide +kernel⟩
theorem mX9_readTruck : pm_MW yX9_readTruck cX9_readTruck 4 (some .boolean) 0 := ⟨pm_t5 169 rfl, pm_t1 10 rfl, ⟨by decide +kernel, by decide +kernel⟩, by decide +kernel⟩
theorem mX9_readLoad : pm_MW yX9_readLoad cX9_readLoad 5 (some .boolean) 0 := ⟨pm_t5 173 rfl, pm_t1 10 rfl, ⟨by decide +kernel, by decide +kernel⟩, by decide +kernel⟩
theorem mX9_directOf : pm_MW yX9_directOf cX9_directOf 5 (some .int) 3 := ⟨pm_t5 188 rfl, pm_t1 10 rfl, ⟨by decide +kernel, by decide +kernel⟩, by decide +kernel⟩
theorem mX9_goesTo : pm_MW yX9_goesTo cX9_goesTo 7 none 3 := ⟨pm_t5 185 rfl, pm_t1 10 rfl, ⟨by decide +kernel, by decide +kernel⟩, by decide +kernel⟩
theorem mX9_readTrip : pm_MW yX9_readTrip cX9_readTrip 9 (some .boolean) 0 := ⟨pm_t5 181 rfl, pm_t1 10 rfl, ⟨by decide +kernel, by decide +kernel⟩, by decide +kernel⟩
theorem mX9_readLine : pm_MW yX9_readLine cX9_readLine 2 (some .boolean) 1 := ⟨pm_t5 142 rfl, pm_t1 10 rfl, ⟨by decide +kernel, by decide +kernel⟩, by decide +kernel⟩
theorem mX9_readEnd : pm_MW yX9_readEnd cX9_readEnd 1 (some .boolean) 0 := ⟨pm_t5 195 rfl, pm_t1 10 rfl, ⟨by decide +kernel, by decide +kernel⟩, by decide +kernel⟩
theorem mX9_text : pm_MW yX9_text cX9_text 3 (some .int) 0 := ⟨pm_t5 122 rfl, pm_t1 10 rfl, ⟨by decide +kernel, by decide +kernel⟩, by decide +kernel⟩
theorem mX9_fault : pm_MW yX9_fault cX9_fault 1 (some .int) 0 := ⟨pm_t5 199 rfl, pm_t1 10 rfl, ⟨by decide +kernel, by decide +kernel⟩, by decide +kernel⟩
theorem mX9_loads : pm_MW yX9_loads cX9_loads 1 (some .int) 0 := ⟨pm_t5 207 rfl, pm_t1 10 rfl, ⟨by decide +kernel, by decide +kernel⟩, by decide +kernel⟩
theorem mX9_trips : pm_MW yX9_trips cX9_trips 1 (some .int) 0 := ⟨pm_t5 211 rfl, pm_t1 10 rfl, ⟨by decide +kernel, by decide +kernel⟩, by decide +kernel⟩
theorem mX9_isPlace : pm_MW yX9_isPlace cX9_isPlace 2 (some .boolean) 1 := ⟨pm_t6 48 rfl, pm_t1 10 rfl, ⟨by decide +kernel, by decide +kernel⟩, by decide +kernel⟩
theorem mX9_isTruck : pm_MW yX9_isTruck cX9_isTruck 2 (some .boolean) 1 := ⟨pm_t6 56 rfl, pm_t1 10 rfl, ⟨by decide +kernel, by decide +kernel⟩, by decide +kernel⟩
theorem mX9_isLoad : pm_MW yX9_isLoad cX9_isLoad 2 (some .boolean) 1 := ⟨pm_t6 64 rfl, pm_t1 10 rfl, ⟨by decide +kernel, by decide +kernel⟩, by decide +kernel⟩
theorem mX9_isTrip : pm_MW yX9_isTrip cX9_isTrip 2 (some .boolean) 1 := ⟨pm_t6 86 rfl, pm_t1 10 rfl, ⟨by decide +kernel, by decide +kernel⟩, by decide +kernel⟩
theorem mX9_its : pm_MW yX9_its cX9_its 3 (some .int) 2 := ⟨pm_t5 231 rfl, pm_t1 10 rfl, ⟨by decide +kernel, by decide +kernel⟩, by decide +kernel⟩
theorem mX9_laysWeights : pm_MW yX9_laysWeights cX9_laysWeights 2 none 0 := ⟨pm_t5 219 rfl, pm_t1 10 rfl, ⟨by decide +kernel, by decide +kernel⟩, by decide +kernel⟩
theorem mX9_partOf : pm_MW yX9_partOf cX9_partOf 4 (some .long) 2 := ⟨pm_t6 12 rfl, pm_t1 10 rfl, ⟨by decide +kernel, by decide +kernel⟩, by decide +kernel⟩
theorem mX9_partsOf : pm_MW yX9_partsOf cX9_partsOf 5 (some .long) 1 := ⟨pm_t6 8 rfl, pm_t1 10 rfl, ⟨by decide +kernel, by decide +kernel⟩, by decide +kernel⟩
theorem mX9_parts : pm_MW yX9_parts cX9_parts 8 none 2 := ⟨pm_t5 239 rfl, pm_t1 10 rfl, ⟨by decide +kernel, by decide +kernel⟩, by decide +kernel⟩
theorem mX9_estimateOf : pm_MW yX9_estimateOf cX9_estimateOf 3 (some .int) 1 := ⟨pm_t5 235 rfl, pm_t1 10 rfl, ⟨by decide +kernel, by decide +kernel⟩, by decide +kernel⟩
theorem mX9_closes : pm_MW yX9_closes cX9_closes 9 none 1 := ⟨pm_t5 227 rfl, pm_t1 10 rfl, ⟨by decide +kernel, by decide +kernel⟩, by decide +kernel⟩
theorem mX9_isIdle : pm_MW yX9_isIdle cX9_isIdle 2 (some .boolean) 1 := ⟨pm_t6 4 rfl, pm_t1 10 rfl, ⟨by decide +kernel, by decide +kernel⟩, by decide +kernel⟩
theorem mX9_nextOf : pm_MW yX9_nextOf cX9_nextOf 3 (some .int) 1 := ⟨pm_t6 16 rfl, pm_t1 10 rfl, ⟨by decide +kernel, by decide +kernel⟩, by decide +kernel⟩
theorem mX9_gives : pm_MW yX9_gives cX9_gives 4 none 3 := ⟨pm_t6 24 rfl, pm_t1 10 rfl, ⟨by decide +kernel, by decide +kernel⟩, by decide +kernel⟩
theorem mX9_laysAccount : pm_MW yX9_laysAccount cX9_laysAccount 3 none 0 := ⟨pm_t5 223 rfl, pm_t1 10 rfl, ⟨by decide +kernel, by decide +kernel⟩, by decide +kernel⟩
theorem mX9_laysTrip : pm_MW yX9_laysTrip cX9_laysTrip 4 none 1 := ⟨pm_t6 20 rfl, pm_t1 10 rfl, ⟨by decide +kernel, by decide +kernel⟩, by decide +kernel⟩
theorem mX9_account : pm_MW yX9_account cX9_account 1 none 0 := ⟨pm_t5 215 rfl, pm_t1 10 rfl, ⟨by decide +kernel, by decide +kernel⟩, by decide +kernel⟩
theorem mX9_adds : pm_MW yX9_adds cX9_adds 4 none 3 := ⟨pm_t6 40 rfl, pm_t1 10 rfl, ⟨by decide +kernel, by decide +kernel⟩, by decide +kernel⟩
theorem mX9_laysGaps : pm_MW yX9_laysGaps cX9_laysGaps 4 none 0 := ⟨pm_t6 36 rfl, pm_t1 10 rfl, ⟨by decide +kernel, by decide +kernel⟩, by decide +kernel⟩
theorem mX9_changed : pm_MW yX9_changed cX9_changed 7 (some .int) 2 := ⟨pm_t6 32 rfl, pm_t1 10 rfl, ⟨by decide +kernel, by decide +kernel⟩, by decide +kernel⟩
theorem mX9_hubs : pm_MW yX9_hubs cX9_hubs 3 (some .int) 0 := ⟨pm_t6 28 rfl, pm_t1 10 rfl, ⟨by decide +kernel, by decide +kernel⟩, by decide +kernel⟩
theorem mX9_now : pm_MW yX9_now cX9_now 4 (some .int) 1 := ⟨pm_t5 203 rfl, pm_t1 10 rfl, ⟨by decide +kernel, by decide +kernel⟩, by decide +kernel⟩
theorem mX9_direct : pm_MW yX9_direct cX9_direct 3 (some .int) 2 := ⟨pm_t6 44 rfl, pm_t1 10 rfl, ⟨by decide +kernel, by decide +kernel⟩, by decide +kernel⟩
theorem mX9_truck : pm_MW yX9_truck cX9_truck 5 (some .int) 2 := ⟨pm_t6 52 rfl, pm_t1 10 rfl, ⟨by decide +kernel, by decide +kernel⟩, by decide +kernel⟩
theorem mX9_dueOf : pm_MW yX9_dueOf cX9_dueOf 5 (some .int) 1 := ⟨pm_t6 72 rfl, pm_t1 10 rfl, ⟨by decide +kernel, by decide +kernel⟩, by decide +kernel⟩
theorem mX9_countsOf : pm_MW yX9_countsOf cX9_countsOf 5 (some .int) 2 := ⟨pm_t6 78 rfl, pm_t1 10 rfl, ⟨by decide +kernel, by decide +kernel⟩, by decide +kernel⟩
theorem mX9_load : pm_MW yX9_load cX9_load 3 (some .int) 2 := ⟨pm_t6 60 rfl, pm_t1 10 rfl, ⟨by decide +kernel, by decide +kernel⟩, by decide +kernel⟩
theorem mX9_trip : pm_MW yX9_trip cX9_trip 3 (some .int) 2 := ⟨pm_t6 82 rfl, pm_t1 10 rfl, ⟨by decide +kernel, by decide +kernel⟩, by decide +kernel⟩
theorem mX9_share : pm_MW yX9_share cX9_share 3 (some .int) 2 := ⟨pm_t6 90 rfl, pm_t1 10 rfl, ⟨by decide +kernel, by decide +kernel⟩, by decide +kernel⟩
theorem mX9_gap : pm_MW yX9_gap cX9_gap 3 (some .int) 2 := ⟨pm_t6 94 rfl, pm_t1 10 rfl, ⟨by decide +kernel, by decide +kernel⟩, by decide +kernel⟩
theorem mX9_way : pm_MW yX9_way cX9_way 3 (some .int) 2 := ⟨pm_t6 98 rfl, pm_t1 10 rfl, ⟨by decide +kernel, by decide +kernel⟩, by decide +kernel⟩
theorem mX9_busiest : pm_MW yX9_busiest cX9_busiest 3 (some .int) 0 := ⟨pm_t6 102 rfl, pm_t1 10 rfl, ⟨by decide +kernel, by decide +kernel⟩, by decide +kernel⟩
theorem mX9_hub : pm_MW yX9_hub cX9_hub 2 (some .int) 1 := ⟨pm_t6 106 rfl, pm_t1 10 rfl, ⟨by decide +kernel, by decide +kernel⟩, by decide +kernel⟩
theorem mX9_split : pm_MW yX9_split cX9_split 4 (some .int) 3 := ⟨pm_t6 110 rfl, pm_t1 10 rfl, ⟨by decide +kernel, by decide +kernel⟩, by decide +kernel⟩
theorem mX9_without : pm_MW yX9_without cX9_without 3 (some .int) 2 := ⟨pm_t6 114 rfl, pm_t1 10 rfl, ⟨by decide +kernel, by decide +kernel⟩, by decide +kernel⟩
theorem mX9_dearest : pm_MW yX9_dearest cX9_dearest 3 (some .int) 0 := ⟨pm_t6 118 rfl, pm_t1 10 rfl, ⟨by decide +kernel, by decide +kernel⟩, by decide +kernel⟩
theorem mX9_snap : pm_MW yX9_snap cX9_snap 2 none 0 := ⟨pm_t6 130 rfl, pm_t1 10 rfl, ⟨by decide +kernel, by decide +kernel⟩, by decide +kernel⟩
theorem mX9_tells : pm_MW yX9_tells cX9_tells 4 (some .int) 2 := ⟨pm_t6 126 rfl, pm_t1 10 rfl, ⟨by decide +kernel, by decide +kernel⟩, by decide +kernel⟩
theorem mX9_fuel : pm_MW yX9_fuel cX9_fuel 3 (some .int) 2 := ⟨pm_t6 122 rfl, pm_t1 10 rfl, ⟨by decide +kernel, by decide +kernel⟩, by decide +kernel⟩
theorem mX9_buy : pm_MW yX9_buy cX9_buy 3 (some .int) 2 := ⟨pm_t6 134 rfl, pm_t1 10 rfl, ⟨by decide +kernel, by decide +kernel⟩, by decide +kernel⟩
theorem mX9_weigh : pm_MW yX9_weigh cX9_weigh 3 (some .int) 2 := ⟨pm_t6 138 rfl, pm_t1 10 rfl, ⟨by decide +kernel, by decide +kernel⟩, by decide +kernel⟩
theorem mX9_undo : pm_MW yX9_undo cX9_undo 2 (some .int) 0 := ⟨pm_t6 142 rfl, pm_t1 10 rfl, ⟨by decide +kernel, by decide +kernel⟩, by decide +kernel⟩
theorem vL_22 : pm_CV RL 22 yX8_feed 10008908 := ⟨rfl, ⟨_, rfl, rfl⟩, pm_t2 195 rfl, pm_t2 196 rfl, pm_t2 197 rfl⟩
theorem vX8_66 : pm_CV RX8 66 yX7_addNumber 10007907 := ⟨rfl, ⟨_, rfl, rfl⟩, pm_t2 199 rfl, pm_t2 200 rfl, pm_t2 201 rfl⟩
theorem vX7_15 : pm_CV RX7 15 yX7_addByte 10007907 := ⟨rfl, ⟨_, rfl, rfl⟩, pm_t2 203 rfl, pm_t2 205 rfl, List.mem_append_left _ (List.mem_of_getElem? (i := 0) rfl)⟩
theorem vL_27 : pm_CV RL 27 yX8_end 10008908 := ⟨rfl, ⟨_, rfl, rfl⟩, pm_t2 207 rfl, pm_t2 208 rfl, pm_t2 209 rfl⟩
theorem vL_32 : pm_CV RL 32 yX8_text 10008908 := ⟨rfl, ⟨_, rfl, rfl⟩, pm_t2 211 rfl, pm_t2 212 rfl, pm_t2 213 rfl⟩
theorem vX8_70 : pm_CV RX8 70 yX4_read 10004904 := ⟨rfl, ⟨_, rfl, rfl⟩, pm_t2 215 rfl, pm_t2 216 rfl, pm_t2 217 rfl⟩
theorem vX4_28 : pm_CV RX4 28 yX0_clear 10000900 := ⟨rfl, ⟨_, rfl, rfl⟩, pm_t2 219 rfl, pm_t2 220 rfl, pm_t2 221 rfl⟩
theorem vX4_46 : pm_CV RX4 46 yX6_begin 10006906 := ⟨rfl, ⟨_, rfl, rfl⟩, pm_t2 223 rfl, pm_t2 224 rfl, pm_t2 225 rfl⟩
theorem jX6_24 : Cond.methodLink RX6 24 Lib.Math.min.name ∈ lw_tbl := pm_t2 227 rfl
theorem vX4_49 : pm_CV RX4 49 yX6_next 10006906 := ⟨rfl, ⟨_, rfl, rfl⟩, pm_t2 230 rfl, pm_t2 231 rfl, pm_t2 232 rfl⟩
theorem vX6_33 : pm_CV RX6 33 yX7_byteAt 10007907 := ⟨rfl, ⟨_, rfl, rfl⟩, pm_t2 234 rfl, pm_t2 235 rfl, pm_t2 236 rfl⟩
theorem sX6_37 : pm_CS RX6 37 yX6_isBlank := ⟨pm_t2 238 rfl, pm_t2 239 rfl⟩
theorem vX6_47 : pm_CV RX6 47 yX6_readRun 10006906 := ⟨rfl, ⟨_, rfl, rfl⟩, pm_t3 1 rfl, pm_t3 3 rfl, List.mem_append_left _ (List.mem_of_getElem? (i := 1) rfl)⟩
theorem sX6_54 : pm_CS RX6 54 yX6_isLetter := ⟨pm_t3 5 rfl, pm_t3 6 rfl⟩
theorem sX6_57 : pm_CS RX6 57 yX6_isDigit := ⟨pm_t3 8 rfl, pm_t3 9 rfl⟩
theorem vX6_60 : pm_CV RX6 60 yX6_wordKind 10006906 := ⟨rfl, ⟨_, rfl, rfl⟩, pm_t3 11 rfl, pm_t3 13 rfl, List.mem_append_left _ (List.mem_of_getElem? (i := 2) rfl)⟩
theorem vX6_65 : pm_CV RX6 65 yX6_spells 10006906 := ⟨rfl, ⟨_, rfl, rfl⟩, pm_t3 16 rfl, pm_t3 18 rfl, List.mem_append_left _ (List.mem_of_getElem? (i := 3) rfl)⟩
theorem vX4_55 : pm_CV RX4 55 yX4_takeToken 10004904 := ⟨rfl, ⟨_, rfl, rfl⟩, pm_t3 76 rfl, pm_t3 78 rfl, List.mem_append_left _ (List.mem_of_getElem? (i := 4) rfl)⟩
theorem vX4_69 : pm_CV RX4 69 yX4_beginLine 10004904 := ⟨rfl, ⟨_, rfl, rfl⟩, pm_t3 80 rfl, pm_t3 82 rfl, List.mem_append_left _ (List.mem_of_getElem? (i := 5) rfl)⟩
theorem vX4_62 : pm_CV RX4 62 yX4_refuse 10004904 := ⟨rfl, ⟨_, rfl, rfl⟩, pm_t3 84 rfl, pm_t3 86 rfl, List.mem_append_left _ (List.mem_of_getElem? (i := 6) rfl)⟩
theorem vX4_87 : pm_CV RX4 87 yX4_beginLineOf 10004904 := ⟨rfl, ⟨_, rfl, rfl⟩, pm_t3 88 rfl, pm_t3 90 rfl, List.mem_append_left _ (List.mem_of_getElem? (i := 7) rfl)⟩
theorem vX4_78 : pm_CV RX4 78 yX4_takeField 10004904 := ⟨rfl, ⟨_, rfl, rfl⟩, pm_t3 92 rfl, pm_t3 94 rfl, List.mem_append_left _ (List.mem_of_getElem? (i := 8) rfl)⟩
theorem vX4_112 : pm_CV RX4 112 yX4_takeNumber 10004904 := ⟨rfl, ⟨_, rfl, rfl⟩, pm_t3 96 rfl, pm_t3 98 rfl, List.mem_append_left _ (List.mem_of_getElem? (i := 9) rfl)⟩
theorem vX4_125 : pm_CV RX4 125 yX4_keepField 10004904 := ⟨rfl, ⟨_, rfl, rfl⟩, pm_t3 100 rfl, pm_t3 102 rfl, List.mem_append_left _ (List.mem_of_getElem? (i := 10) rfl)⟩
theorem vX4_116 : pm_CV RX4 116 yX4_takeFieldOfLoad 10004904 := ⟨rfl, ⟨_, rfl, rfl⟩, pm_t3 104 rfl, pm_t3 106 rfl, List.mem_append_left _ (List.mem_of_getElem? (i := 11) rfl)⟩
theorem vX4_122 : pm_CV RX4 122 yX4_takeNumberTold 10004904 := ⟨rfl, ⟨_, rfl, rfl⟩, pm_t3 108 rfl, pm_t3 110 rfl, List.mem_append_left _ (List.mem_of_getElem? (i := 12) rfl)⟩
theorem vX4_135 : pm_CV RX4 135 yX4_isNumberTold 10004904 := ⟨rfl, ⟨_, rfl, rfl⟩, pm_t3 112 rfl, pm_t3 114 rfl, List.mem_append_left _ (List.mem_of_getElem? (i := 13) rfl)⟩
theorem vX4_119 : pm_CV RX4 119 yX4_takeFieldOfTrip 10004904 := ⟨rfl, ⟨_, rfl, rfl⟩, pm_t3 116 rfl, pm_t3 118 rfl, List.mem_append_left _ (List.mem_of_getElem? (i := 14) rfl)⟩
theorem vX4_128 : pm_CV RX4 128 yX0_addTrip 10000900 := ⟨rfl, ⟨_, rfl, rfl⟩, pm_t3 120 rfl, pm_t3 121 rfl, pm_t3 122 rfl⟩
theorem vX4_81 : pm_CV RX4 81 yX4_takeStep 10004904 := ⟨rfl, ⟨_, rfl, rfl⟩, pm_t3 124 rfl, pm_t3 126 rfl, List.mem_append_left _ (List.mem_of_getElem? (i := 15) rfl)⟩
theorem vX4_138 : pm_CV RX4 138 yX4_takeNumberOfStep 10004904 := ⟨rfl, ⟨_, rfl, rfl⟩, pm_t3 128 rfl, pm_t3 130 rfl, List.mem_append_left _ (List.mem_of_getElem? (i := 16) rfl)⟩
theorem vX4_141 : pm_CV RX4 141 yX0_addStep 10000900 := ⟨rfl, ⟨_, rfl, rfl⟩, pm_t3 132 rfl, pm_t3 133 rfl, pm_t3 134 rfl⟩
theorem vX4_84 : pm_CV RX4 84 yX4_endLine 10004904 := ⟨rfl, ⟨_, rfl, rfl⟩, pm_t3 136 rfl, pm_t3 138 rfl, List.mem_append_left _ (List.mem_of_getElem? (i := 17) rfl)⟩
theorem vX4_148 : pm_CV RX4 148 yX0_addPlace 10000900 := ⟨rfl, ⟨_, rfl, rfl⟩, pm_t3 140 rfl, pm_t3 141 rfl, pm_t3 142 rfl⟩
theorem vX4_151 : pm_CV RX4 151 yX0_addTruck 10000900 := ⟨rfl, ⟨_, rfl, rfl⟩, pm_t3 144 rfl, pm_t3 145 rfl, pm_t3 146 rfl⟩
theorem vX4_154 : pm_CV RX4 154 yX0_addLoad 10000900 := ⟨rfl, ⟨_, rfl, rfl⟩, pm_t3 148 rfl, pm_t3 149 rfl, pm_t3 150 rfl⟩
theorem vX4_59 : pm_CV RX4 59 yX6_hasTooMany 10006906 := ⟨rfl, ⟨_, rfl, rfl⟩, pm_t3 152 rfl, pm_t3 153 rfl, pm_t3 154 rfl⟩
theorem vX8_83 : pm_CV RX8 83 yX5_survey 10005905 := ⟨rfl, ⟨_, rfl, rfl⟩, pm_t3 156 rfl, pm_t3 157 rfl, pm_t3 158 rfl⟩
theorem vX5_60 : pm_CV RX5 60 yX5_clear 10005905 := ⟨rfl, ⟨_, rfl, rfl⟩, pm_t3 160 rfl, pm_t3 162 rfl, List.mem_append_left _ (List.mem_of_getElem? (i := 18) rfl)⟩
theorem vX5_69 : pm_CV RX5 69 yX5_drive 10005905 := ⟨rfl, ⟨_, rfl, rfl⟩, pm_t3 164 rfl, pm_t3 166 rfl, List.mem_append_left _ (List.mem_of_getElem? (i := 19) rfl)⟩
theorem vX5_91 : pm_CV RX5 91 yX0_firstStep 10000900 := ⟨rfl, ⟨_, rfl, rfl⟩, pm_t3 168 rfl, pm_t3 169 rfl, pm_t3 170 rfl⟩
theorem vX5_104 : pm_CV RX5 104 yX5_driveLeg 10005905 := ⟨rfl, ⟨_, rfl, rfl⟩, pm_t3 172 rfl, pm_t3 174 rfl, List.mem_append_left _ (List.mem_of_getElem? (i := 20) rfl)⟩
theorem vX5_108 : pm_CV RX5 108 yX0_distance 10000900 := ⟨rfl, ⟨_, rfl, rfl⟩, pm_t3 176 rfl, pm_t3 177 rfl, pm_t3 178 rfl⟩
theorem jX0_70 : Cond.methodLink RX0 70 Lib.Math.abs.name ∈ lw_tbl := pm_t3 180 rfl
theorem vX5_76 : pm_CV RX5 76 yX5_findGapsOfTruck 10005905 := ⟨rfl, ⟨_, rfl, rfl⟩, pm_t3 183 rfl, pm_t3 185 rfl, List.mem_append_left _ (List.mem_of_getElem? (i := 21) rfl)⟩
theorem vX5_115 : pm_CV RX5 115 yX5_addGap 10005905 := ⟨rfl, ⟨_, rfl, rfl⟩, pm_t3 187 rfl, pm_t3 189 rfl, List.mem_append_left _ (List.mem_of_getElem? (i := 22) rfl)⟩
theorem vX5_82 : pm_CV RX5 82 yX5_followLoad 10005905 := ⟨rfl, ⟨_, rfl, rfl⟩, pm_t3 191 rfl, pm_t3 193 rfl, List.mem_append_left _ (List.mem_of_getElem? (i := 23) rfl)⟩
theorem vX5_122 : pm_CV RX5 122 yX5_addGapOfLoad 10005905 := ⟨rfl, ⟨_, rfl, rfl⟩, pm_t3 195 rfl, pm_t3 197 rfl, List.mem_append_left _ (List.mem_of_getElem? (i := 24) rfl)⟩
theorem vX8_87 : pm_CV RX8 87 yX8_settle 10008908 := ⟨rfl, ⟨_, rfl, rfl⟩, pm_t3 199 rfl, pm_t3 201 rfl, List.mem_append_left _ (List.mem_of_getElem? (i := 25) rfl)⟩
theorem vX8_256 : pm_CV RX8 256 yX2_takeLoads 10002902 := ⟨rfl, ⟨_, rfl, rfl⟩, pm_t3 203 rfl, pm_t3 204 rfl, pm_t3 205 rfl⟩
theorem vX8_263 : pm_CV RX8 263 yX2_settle 10002902 := ⟨rfl, ⟨_, rfl, rfl⟩, pm_t3 207 rfl, pm_t3 208 rfl, pm_t3 209 rfl⟩
theorem vX2_76 : pm_CV RX2 76 yX2_estimateOf 10002902 := ⟨rfl, ⟨_, rfl, rfl⟩, pm_t3 211 rfl, pm_t3 213 rfl, List.mem_append_left _ (List.mem_of_getElem? (i := 26) rfl)⟩
theorem vX2_80 : pm_CV RX2 80 yX2_measureParts 10002902 := ⟨rfl, ⟨_, rfl, rfl⟩, pm_t3 215 rfl, pm_t3 217 rfl, List.mem_append_left _ (List.mem_of_getElem? (i := 27) rfl)⟩
theorem vX2_122 : pm_CV RX2 122 yX0_distance 10000900 := ⟨rfl, ⟨_, rfl, rfl⟩, pm_t3 219 rfl, pm_t3 177 rfl, pm_t3 178 rfl⟩
theorem vX2_87 : pm_CV RX2 87 yX2_closeTruck 10002902 := ⟨rfl, ⟨_, rfl, rfl⟩, pm_t3 220 rfl, pm_t3 222 rfl, List.mem_append_left _ (List.mem_of_getElem? (i := 28) rfl)⟩
theorem vX2_129 : pm_CV RX2 129 yX0_fuelTold 10000900 := ⟨rfl, ⟨_, rfl, rfl⟩, pm_t3 224 rfl, pm_t3 225 rfl, pm_t3 226 rfl⟩
theorem vX2_132 : pm_CV RX2 132 yX2_sumOfMissing 10002902 := ⟨rfl, ⟨_, rfl, rfl⟩, pm_t3 228 rfl, pm_t3 230 rfl, List.mem_append_left _ (List.mem_of_getElem? (i := 29) rfl)⟩
theorem vX2_135 : pm_CV RX2 135 yX3_begin 10003903 := ⟨rfl, ⟨_, rfl, rfl⟩, pm_t3 232 rfl, pm_t3 233 rfl, pm_t3 234 rfl⟩
theorem vX2_138 : pm_CV RX2 138 yX2_isParted 10002902 := ⟨rfl, ⟨_, rfl, rfl⟩, pm_t3 236 rfl, pm_t3 238 rfl, List.mem_append_left _ (List.mem_of_getElem? (i := 30) rfl)⟩
theorem vX2_142 : pm_CV RX2 142 yX3_add 10003903 := ⟨rfl, ⟨_, rfl, rfl⟩, pm_t4 0 rfl, pm_t4 1 rfl, pm_t4 2 rfl⟩
theorem vX2_148 : pm_CV RX2 148 yX3_divide 10003903 := ⟨rfl, ⟨_, rfl, rfl⟩, pm_t4 4 rfl, pm_t4 5 rfl, pm_t4 6 rfl⟩
theorem vX3_26 : pm_CV RX3 26 yX3_giveOne 10003903 := ⟨rfl, ⟨_, rfl, rfl⟩, pm_t4 8 rfl, pm_t4 10 rfl, List.mem_append_left _ (List.mem_of_getElem? (i := 31) rfl)⟩
theorem vX2_90 : pm_CV RX2 90 yX2_gatherIdle 10002902 := ⟨rfl, ⟨_, rfl, rfl⟩, pm_t4 13 rfl, pm_t4 15 rfl, List.mem_append_left _ (List.mem_of_getElem? (i := 32) rfl)⟩
theorem vX2_154 : pm_CV RX2 154 yX2_isIdle 10002902 := ⟨rfl, ⟨_, rfl, rfl⟩, pm_t4 17 rfl, pm_t4 18 rfl, pm_t4 19 rfl⟩
theorem vX2_158 : pm_CV RX2 158 yX2_heirOf 10002902 := ⟨rfl, ⟨_, rfl, rfl⟩, pm_t4 21 rfl, pm_t4 23 rfl, List.mem_append_left _ (List.mem_of_getElem? (i := 33) rfl)⟩
theorem vX2_93 : pm_CV RX2 93 yX2_partTrip 10002902 := ⟨rfl, ⟨_, rfl, rfl⟩, pm_t4 25 rfl, pm_t4 27 rfl, List.mem_append_left _ (List.mem_of_getElem? (i := 34) rfl)⟩
theorem vX2_96 : pm_CV RX2 96 yX2_partOpen 10002902 := ⟨rfl, ⟨_, rfl, rfl⟩, pm_t4 29 rfl, pm_t4 31 rfl, List.mem_append_left _ (List.mem_of_getElem? (i := 35) rfl)⟩
theorem vL_37 : pm_CV RL 37 yX8_fault 10008908 := ⟨rfl, ⟨_, rfl, rfl⟩, pm_t4 33 rfl, pm_t4 34 rfl, pm_t4 35 rfl⟩
theorem vL_41 : pm_CV RL 41 yX8_now 10008908 := ⟨rfl, ⟨_, rfl, rfl⟩, pm_t4 37 rfl, pm_t4 38 rfl, pm_t4 39 rfl⟩
theorem sX8_112 : pm_CS RX8 112 yX8_sumOf := ⟨pm_t4 41 rfl, pm_t4 42 rfl⟩
theorem vX8_122 : pm_CV RX8 122 yX8_hubBits 10008908 := ⟨rfl, ⟨_, rfl, rfl⟩, pm_t4 44 rfl, pm_t4 46 rfl, List.mem_append_left _ (List.mem_of_getElem? (i := 36) rfl)⟩
theorem vL_46 : pm_CV RL 46 yX8_direct 10008908 := ⟨rfl, ⟨_, rfl, rfl⟩, pm_t4 48 rfl, pm_t4 49 rfl, pm_t4 50 rfl⟩
theorem sX8_129 : pm_CS RX8 129 yX8_isIn := ⟨pm_t4 52 rfl, pm_t4 53 rfl⟩
theorem vX8_133 : pm_CV RX8 133 yX0_distance 10000900 := ⟨rfl, ⟨_, rfl, rfl⟩, pm_t4 55 rfl, pm_t3 177 rfl, pm_t3 178 rfl⟩
theorem vL_50 : pm_CV RL 50 yX8_truck 10008908 := ⟨rfl, ⟨_, rfl, rfl⟩, pm_t4 56 rfl, pm_t4 57 rfl, pm_t4 58 rfl⟩
theorem vX8_140 : pm_CV RX8 140 yX8_tripBits 10008908 := ⟨rfl, ⟨_, rfl, rfl⟩, pm_t4 60 rfl, pm_t4 62 rfl, List.mem_append_left _ (List.mem_of_getElem? (i := 37) rfl)⟩
theorem vX8_147 : pm_CV RX8 147 yX8_sumOverTrips 10008908 := ⟨rfl, ⟨_, rfl, rfl⟩, pm_t4 64 rfl, pm_t4 66 rfl, List.mem_append_left _ (List.mem_of_getElem? (i := 38) rfl)⟩
theorem vX8_154 : pm_CV RX8 154 yX0_fuelTold 10000900 := ⟨rfl, ⟨_, rfl, rfl⟩, pm_t4 68 rfl, pm_t3 225 rfl, pm_t3 226 rfl⟩
theorem vX8_157 : pm_CV RX8 157 yX8_lastPlace 10008908 := ⟨rfl, ⟨_, rfl, rfl⟩, pm_t4 69 rfl, pm_t4 71 rfl, List.mem_append_left _ (List.mem_of_getElem? (i := 39) rfl)⟩
theorem vL_66 : pm_CV RL 66 yX8_share 10008908 := ⟨rfl, ⟨_, rfl, rfl⟩, pm_t4 73 rfl, pm_t4 74 rfl, pm_t4 75 rfl⟩
theorem vL_70 : pm_CV RL 70 yX8_gap 10008908 := ⟨rfl, ⟨_, rfl, rfl⟩, pm_t4 77 rfl, pm_t4 78 rfl, pm_t4 79 rfl⟩
theorem vL_74 : pm_CV RL 74 yX8_way 10008908 := ⟨rfl, ⟨_, rfl, rfl⟩, pm_t4 81 rfl, pm_t4 82 rfl, pm_t4 83 rfl⟩
theorem vL_78 : pm_CV RL 78 yX8_busiest 10008908 := ⟨rfl, ⟨_, rfl, rfl⟩, pm_t4 85 rfl, pm_t4 86 rfl, pm_t4 87 rfl⟩
theorem vL_82 : pm_CV RL 82 yX8_hub 10008908 := ⟨rfl, ⟨_, rfl, rfl⟩, pm_t4 89 rfl, pm_t4 90 rfl, pm_t4 91 rfl⟩
theorem vL_95 : pm_CV RL 95 yX8_dearest 10008908 := ⟨rfl, ⟨_, rfl, rfl⟩, pm_t4 93 rfl, pm_t4 94 rfl, pm_t4 95 rfl⟩
theorem vX8_249 : pm_CV RX8 249 yX2_isIdle 10002902 := ⟨rfl, ⟨_, rfl, rfl⟩, pm_t4 97 rfl, pm_t4 18 rfl, pm_t4 19 rfl⟩
theorem vX8_253 : pm_CV RX8 253 yX8_isDearer 10008908 := ⟨rfl, ⟨_, rfl, rfl⟩, pm_t4 98 rfl, pm_t4 100 rfl, List.mem_append_left _ (List.mem_of_getElem? (i := 40) rfl)⟩
theorem vL_86 : pm_CV RL 86 yX8_split 10008908 := ⟨rfl, ⟨_, rfl, rfl⟩, pm_t4 102 rfl, pm_t4 103 rfl, pm_t4 104 rfl⟩
theorem vX8_259 : pm_CV RX8 259 yX2_splitLoad 10002902 := ⟨rfl, ⟨_, rfl, rfl⟩, pm_t4 106 rfl, pm_t4 107 rfl, pm_t4 108 rfl⟩
theorem vL_91 : pm_CV RL 91 yX8_without 10008908 := ⟨rfl, ⟨_, rfl, rfl⟩, pm_t4 110 rfl, pm_t4 111 rfl, pm_t4 112 rfl⟩
theorem vL_99 : pm_CV RL 99 yX8_fuel 10008908 := ⟨rfl, ⟨_, rfl, rfl⟩, pm_t4 114 rfl, pm_t4 115 rfl, pm_t4 116 rfl⟩
theorem vX8_267 : pm_CV RX8 267 yX8_change 10008908 := ⟨rfl, ⟨_, rfl, rfl⟩, pm_t4 118 rfl, pm_t4 120 rfl, List.mem_append_left _ (List.mem_of_getElem? (i := 41) rfl)⟩
theorem vX8_284 : pm_CV RX8 284 yX1_keep 10001901 := ⟨rfl, ⟨_, rfl, rfl⟩, pm_t4 122 rfl, pm_t4 123 rfl, pm_t4 124 rfl⟩
theorem vX1_25 : pm_CV RX1 25 yX1_forgetOldest 10001901 := ⟨rfl, ⟨_, rfl, rfl⟩, pm_t4 126 rfl, pm_t4 128 rfl, List.mem_append_left _ (List.mem_of_getElem? (i := 42) rfl)⟩
theorem vL_103 : pm_CV RL 103 yX8_buy 10008908 := ⟨rfl, ⟨_, rfl, rfl⟩, pm_t4 130 rfl, pm_t4 131 rfl, pm_t4 132 rfl⟩
theorem vL_107 : pm_CV RL 107 yX8_weigh 10008908 := ⟨rfl, ⟨_, rfl, rfl⟩, pm_t4 134 rfl, pm_t4 135 rfl, pm_t4 136 rfl⟩
theorem vL_111 : pm_CV RL 111 yX8_undo 10008908 := ⟨rfl, ⟨_, rfl, rfl⟩, pm_t4 138 rfl, pm_t4 139 rfl, pm_t4 140 rfl⟩
theorem vX8_274 : pm_CV RX8 274 yX8_rowOf 10008908 := ⟨rfl, ⟨_, rfl, rfl⟩, pm_t4 142 rfl, pm_t4 144 rfl, List.mem_append_left _ (List.mem_of_getElem? (i := 43) rfl)⟩
theorem vL_7 : pm_CV RL 7 yX8_load 10008908 := ⟨rfl, ⟨_, rfl, rfl⟩, pm_t4 150 rfl, pm_t4 151 rfl, pm_t4 152 rfl⟩
theorem vX8_179 : pm_CV RX8 179 yX8_tripBitsOfLoad 10008908 := ⟨rfl, ⟨_, rfl, rfl⟩, pm_t4 219 rfl, pm_t4 221 rfl, List.mem_append_left _ (List.mem_of_getElem? (i := 45) rfl)⟩
theorem vX8_182 : pm_CV RX8 182 yX8_partsOfLoad 10008908 := ⟨rfl, ⟨_, rfl, rfl⟩, pm_t4 223 rfl, pm_t4 225 rfl, List.mem_append_left _ (List.mem_of_getElem? (i := 46) rfl)⟩
theorem vX8_185 : pm_CV RX8 185 yX8_due 10008908 := ⟨rfl, ⟨_, rfl, rfl⟩, pm_t4 227 rfl, pm_t4 229 rfl, List.mem_append_left _ (List.mem_of_getElem? (i := 47) rfl)⟩
theorem vL_15 : pm_CV RL 15 yX8_trip 10008908 := ⟨rfl, ⟨_, rfl, rfl⟩, pm_t4 237 rfl, pm_t4 238 rfl, pm_t4 239 rfl⟩
theorem vL_60 : pm_CV RL 60 yX9_thrown 10009909 := ⟨rfl, ⟨_, rfl, rfl⟩, pm_t5 3 rfl, pm_t5 4 rfl, pm_t5 5 rfl⟩
theorem vL_26 : pm_CV RL 26 yX9_feed 10009909 := ⟨rfl, ⟨_, rfl, rfl⟩, pm_t5 7 rfl, pm_t5 8 rfl, pm_t5 9 rfl⟩
theorem vX9_14 : pm_CV RX9 14 yX9_lays 10009909 := ⟨rfl, ⟨_, rfl, rfl⟩, pm_t5 11 rfl, pm_t5 13 rfl, List.mem_append_left _ (List.mem_of_getElem? (i := 48) rfl)⟩
theorem vL_31 : pm_CV RL 31 yX9_end 10009909 := ⟨rfl, ⟨_, rfl, rfl⟩, pm_t5 16 rfl, pm_t5 17 rfl, pm_t5 18 rfl⟩
theorem vL_36 : pm_CV RL 36 yX9_text 10009909 := ⟨rfl, ⟨_, rfl, rfl⟩, pm_t5 119 rfl, pm_t5 120 rfl, pm_t5 121 rfl⟩
theorem vX9_117 : pm_CV RX9 117 yX9_go 10009909 := ⟨rfl, ⟨_, rfl, rfl⟩, pm_t5 123 rfl, pm_t5 125 rfl, List.mem_append_left _ (List.mem_of_getElem? (i := 49) rfl)⟩
theorem sX9_30 : pm_CS RX9 30 yX9_isLetter := ⟨pm_t5 127 rfl, pm_t5 128 rfl⟩
theorem sX9_34 : pm_CS RX9 34 yX9_isDigit := ⟨pm_t5 130 rfl, pm_t5 131 rfl⟩
theorem vX9_44 : pm_CV RX9 44 yX9_tapeAt 10009909 := ⟨rfl, ⟨_, rfl, rfl⟩, pm_t5 133 rfl, pm_t5 135 rfl, List.mem_append_left _ (List.mem_of_getElem? (i := 50) rfl)⟩
theorem vX9_160 : pm_CV RX9 160 yX9_readLine 10009909 := ⟨rfl, ⟨_, rfl, rfl⟩, pm_t5 139 rfl, pm_t5 141 rfl, List.mem_append_left _ (List.mem_of_getElem? (i := 51) rfl)⟩
theorem vX9_136 : pm_CV RX9 136 yX9_is 10009909 := ⟨rfl, ⟨_, rfl, rfl⟩, pm_t5 143 rfl, pm_t5 145 rfl, List.mem_append_left _ (List.mem_of_getElem? (i := 52) rfl)⟩
theorem vX9_144 : pm_CV RX9 144 yX9_readDesk 10009909 := ⟨rfl, ⟨_, rfl, rfl⟩, pm_t5 147 rfl, pm_t5 149 rfl, List.mem_append_left _ (List.mem_of_getElem? (i := 53) rfl)⟩
theorem vX9_120 : pm_CV RX9 120 yX9_told 10009909 := ⟨rfl, ⟨_, rfl, rfl⟩, pm_t5 151 rfl, pm_t5 153 rfl, List.mem_append_left _ (List.mem_of_getElem? (i := 54) rfl)⟩
theorem vX9_110 : pm_CV RX9 110 yX9_bad 10009909 := ⟨rfl, ⟨_, rfl, rfl⟩, pm_t5 155 rfl, pm_t5 157 rfl, List.mem_append_left _ (List.mem_of_getElem? (i := 55) rfl)⟩
theorem sX9_113 : pm_CS RX9 113 yX9_isIn := ⟨pm_t5 159 rfl, pm_t5 160 rfl⟩
theorem vX9_148 : pm_CV RX9 148 yX9_readPlace 10009909 := ⟨rfl, ⟨_, rfl, rfl⟩, pm_t5 162 rfl, pm_t5 164 rfl, List.mem_append_left _ (List.mem_of_getElem? (i := 56) rfl)⟩
theorem vX9_151 : pm_CV RX9 151 yX9_readTruck 10009909 := ⟨rfl, ⟨_, rfl, rfl⟩, pm_t5 166 rfl, pm_t5 168 rfl, List.mem_append_left _ (List.mem_of_getElem? (i := 57) rfl)⟩
theorem vX9_154 : pm_CV RX9 154 yX9_readLoad 10009909 := ⟨rfl, ⟨_, rfl, rfl⟩, pm_t5 170 rfl, pm_t5 172 rfl, List.mem_append_left _ (List.mem_of_getElem? (i := 58) rfl)⟩
theorem vX9_124 : pm_CV RX9 124 yX9_toldPlace 10009909 := ⟨rfl, ⟨_, rfl, rfl⟩, pm_t5 174 rfl, pm_t5 176 rfl, List.mem_append_left _ (List.mem_of_getElem? (i := 59) rfl)⟩
theorem vX9_157 : pm_CV RX9 157 yX9_readTrip 10009909 := ⟨rfl, ⟨_, rfl, rfl⟩, pm_t5 178 rfl, pm_t5 180 rfl, List.mem_append_left _ (List.mem_of_getElem? (i := 60) rfl)⟩
theorem vX9_140 : pm_CV RX9 140 yX9_goesTo 10009909 := ⟨rfl, ⟨_, rfl, rfl⟩, pm_t5 182 rfl, pm_t5 184 rfl, List.mem_append_left _ (List.mem_of_getElem? (i := 61) rfl)⟩
theorem sX9_128 : pm_CS RX9 128 yX9_directOf := ⟨pm_t5 186 rfl, pm_t5 187 rfl⟩
theorem sX9_132 : pm_CS RX9 132 yX9_has := ⟨pm_t5 189 rfl, pm_t5 190 rfl⟩
theorem vX9_164 : pm_CV RX9 164 yX9_readEnd 10009909 := ⟨rfl, ⟨_, rfl, rfl⟩, pm_t5 192 rfl, pm_t5 194 rfl, List.mem_append_left _ (List.mem_of_getElem? (i := 62) rfl)⟩
theorem vL_40 : pm_CV RL 40 yX9_fault 10009909 := ⟨rfl, ⟨_, rfl, rfl⟩, pm_t5 196 rfl, pm_t5 197 rfl, pm_t5 198 rfl⟩
theorem vL_45 : pm_CV RL 45 yX9_now 10009909 := ⟨rfl, ⟨_, rfl, rfl⟩, pm_t5 200 rfl, pm_t5 201 rfl, pm_t5 202 rfl⟩
theorem vX9_170 : pm_CV RX9 170 yX9_loads 10009909 := ⟨rfl, ⟨_, rfl, rfl⟩, pm_t5 204 rfl, pm_t5 206 rfl, List.mem_append_left _ (List.mem_of_getElem? (i := 63) rfl)⟩
theorem vX9_173 : pm_CV RX9 173 yX9_trips 10009909 := ⟨rfl, ⟨_, rfl, rfl⟩, pm_t5 208 rfl, pm_t5 210 rfl, List.mem_append_left _ (List.mem_of_getElem? (i := 64) rfl)⟩
theorem vX9_237 : pm_CV RX9 237 yX9_account 10009909 := ⟨rfl, ⟨_, rfl, rfl⟩, pm_t5 212 rfl, pm_t5 214 rfl, List.mem_append_left _ (List.mem_of_getElem? (i := 65) rfl)⟩
theorem vX9_221 : pm_CV RX9 221 yX9_laysWeights 10009909 := ⟨rfl, ⟨_, rfl, rfl⟩, pm_t5 216 rfl, pm_t5 218 rfl, List.mem_append_left _ (List.mem_of_getElem? (i := 66) rfl)⟩
theorem vX9_224 : pm_CV RX9 224 yX9_laysAccount 10009909 := ⟨rfl, ⟨_, rfl, rfl⟩, pm_t5 220 rfl, pm_t5 222 rfl, List.mem_append_left _ (List.mem_of_getElem? (i := 67) rfl)⟩
theorem vX9_209 : pm_CV RX9 209 yX9_closes 10009909 := ⟨rfl, ⟨_, rfl, rfl⟩, pm_t5 224 rfl, pm_t5 226 rfl, List.mem_append_left _ (List.mem_of_getElem? (i := 68) rfl)⟩
theorem vX9_182 : pm_CV RX9 182 yX9_its 10009909 := ⟨rfl, ⟨_, rfl, rfl⟩, pm_t5 228 rfl, pm_t5 230 rfl, List.mem_append_left _ (List.mem_of_getElem? (i := 69) rfl)⟩
theorem vX9_192 : pm_CV RX9 192 yX9_estimateOf 10009909 := ⟨rfl, ⟨_, rfl, rfl⟩, pm_t5 232 rfl, pm_t5 234 rfl, List.mem_append_left _ (List.mem_of_getElem? (i := 70) rfl)⟩
theorem vX9_198 : pm_CV RX9 198 yX9_parts 10009909 := ⟨rfl, ⟨_, rfl, rfl⟩, pm_t5 236 rfl, pm_t5 238 rfl, List.mem_append_left _ (List.mem_of_getElem? (i := 71) rfl)⟩
theorem vX9_206 : pm_CV RX9 206 yX9_isIdle 10009909 := ⟨rfl, ⟨_, rfl, rfl⟩, pm_t6 1 rfl, pm_t6 3 rfl, List.mem_append_left _ (List.mem_of_getElem? (i := 72) rfl)⟩
theorem vX9_202 : pm_CV RX9 202 yX9_partsOf 10009909 := ⟨rfl, ⟨_, rfl, rfl⟩, pm_t6 5 rfl, pm_t6 7 rfl, List.mem_append_left _ (List.mem_of_getElem? (i := 73) rfl)⟩
theorem vX9_186 : pm_CV RX9 186 yX9_partOf 10009909 := ⟨rfl, ⟨_, rfl, rfl⟩, pm_t6 9 rfl, pm_t6 11 rfl, List.mem_append_left _ (List.mem_of_getElem? (i := 74) rfl)⟩
theorem vX9_212 : pm_CV RX9 212 yX9_nextOf 10009909 := ⟨rfl, ⟨_, rfl, rfl⟩, pm_t6 13 rfl, pm_t6 15 rfl, List.mem_append_left _ (List.mem_of_getElem? (i := 75) rfl)⟩
theorem vX9_215 : pm_CV RX9 215 yX9_laysTrip 10009909 := ⟨rfl, ⟨_, rfl, rfl⟩, pm_t6 17 rfl, pm_t6 19 rfl, List.mem_append_left _ (List.mem_of_getElem? (i := 76) rfl)⟩
theorem vX9_218 : pm_CV RX9 218 yX9_gives 10009909 := ⟨rfl, ⟨_, rfl, rfl⟩, pm_t6 21 rfl, pm_t6 23 rfl, List.mem_append_left _ (List.mem_of_getElem? (i := 77) rfl)⟩
theorem vX9_240 : pm_CV RX9 240 yX9_hubs 10009909 := ⟨rfl, ⟨_, rfl, rfl⟩, pm_t6 25 rfl, pm_t6 27 rfl, List.mem_append_left _ (List.mem_of_getElem? (i := 78) rfl)⟩
theorem vX9_233 : pm_CV RX9 233 yX9_changed 10009909 := ⟨rfl, ⟨_, rfl, rfl⟩, pm_t6 29 rfl, pm_t6 31 rfl, List.mem_append_left _ (List.mem_of_getElem? (i := 79) rfl)⟩
theorem vX9_243 : pm_CV RX9 243 yX9_laysGaps 10009909 := ⟨rfl, ⟨_, rfl, rfl⟩, pm_t6 33 rfl, pm_t6 35 rfl, List.mem_append_left _ (List.mem_of_getElem? (i := 80) rfl)⟩
theorem vX9_230 : pm_CV RX9 230 yX9_adds 10009909 := ⟨rfl, ⟨_, rfl, rfl⟩, pm_t6 37 rfl, pm_t6 39 rfl, List.mem_append_left _ (List.mem_of_getElem? (i := 81) rfl)⟩
theorem vL_49 : pm_CV RL 49 yX9_direct 10009909 := ⟨rfl, ⟨_, rfl, rfl⟩, pm_t6 41 rfl, pm_t6 42 rfl, pm_t6 43 rfl⟩
theorem vX9_246 : pm_CV RX9 246 yX9_isPlace 10009909 := ⟨rfl, ⟨_, rfl, rfl⟩, pm_t6 45 rfl, pm_t6 47 rfl, List.mem_append_left _ (List.mem_of_getElem? (i := 82) rfl)⟩
theorem vL_53 : pm_CV RL 53 yX9_truck 10009909 := ⟨rfl, ⟨_, rfl, rfl⟩, pm_t6 49 rfl, pm_t6 50 rfl, pm_t6 51 rfl⟩
theorem vX9_249 : pm_CV RX9 249 yX9_isTruck 10009909 := ⟨rfl, ⟨_, rfl, rfl⟩, pm_t6 53 rfl, pm_t6 55 rfl, List.mem_append_left _ (List.mem_of_getElem? (i := 83) rfl)⟩
theorem vL_59 : pm_CV RL 59 yX9_load 10009909 := ⟨rfl, ⟨_, rfl, rfl⟩, pm_t6 57 rfl, pm_t6 58 rfl, pm_t6 59 rfl⟩
theorem vX9_256 : pm_CV RX9 256 yX9_isLoad 10009909 := ⟨rfl, ⟨_, rfl, rfl⟩, pm_t6 61 rfl, pm_t6 63 rfl, List.mem_append_left _ (List.mem_of_getElem? (i := 84) rfl)⟩
theorem vX9_259 : pm_CV RX9 259 yX9_refuse 10009909 := ⟨rfl, ⟨_, rfl, rfl⟩, pm_t6 65 rfl, pm_t6 67 rfl, List.mem_append_left _ (List.mem_of_getElem? (i := 85) rfl)⟩
theorem vX9_262 : pm_CV RX9 262 yX9_dueOf 10009909 := ⟨rfl, ⟨_, rfl, rfl⟩, pm_t6 69 rfl, pm_t6 71 rfl, List.mem_append_left _ (List.mem_of_getElem? (i := 86) rfl)⟩
theorem vX9_265 : pm_CV RX9 265 yX9_countsOf 10009909 := ⟨rfl, ⟨_, rfl, rfl⟩, pm_t6 75 rfl, pm_t6 77 rfl, List.mem_append_left _ (List.mem_of_getElem? (i := 87) rfl)⟩
theorem vL_65 : pm_CV RL 65 yX9_trip 10009909 := ⟨rfl, ⟨_, rfl, rfl⟩, pm_t6 79 rfl, pm_t6 80 rfl, pm_t6 81 rfl⟩
theorem vX9_268 : pm_CV RX9 268 yX9_isTrip 10009909 := ⟨rfl, ⟨_, rfl, rfl⟩, pm_t6 83 rfl, pm_t6 85 rfl, List.mem_append_left _ (List.mem_of_getElem? (i := 88) rfl)⟩
theorem vL_69 : pm_CV RL 69 yX9_share 10009909 := ⟨rfl, ⟨_, rfl, rfl⟩, pm_t6 87 rfl, pm_t6 88 rfl, pm_t6 89 rfl⟩
theorem vL_73 : pm_CV RL 73 yX9_gap 10009909 := ⟨rfl, ⟨_, rfl, rfl⟩, pm_t6 91 rfl, pm_t6 92 rfl, pm_t6 93 rfl⟩
theorem vL_77 : pm_CV RL 77 yX9_way 10009909 := ⟨rfl, ⟨_, rfl, rfl⟩, pm_t6 95 rfl, pm_t6 96 rfl, pm_t6 97 rfl⟩
theorem vL_81 : pm_CV RL 81 yX9_busiest 10009909 := ⟨rfl, ⟨_, rfl, rfl⟩, pm_t6 99 rfl, pm_t6 100 rfl, pm_t6 101 rfl⟩
theorem vL_85 : pm_CV RL 85 yX9_hub 10009909 := ⟨rfl, ⟨_, rfl, rfl⟩, pm_t6 103 rfl, pm_t6 104 rfl, pm_t6 105 rfl⟩
theorem vL_90 : pm_CV RL 90 yX9_split 10009909 := ⟨rfl, ⟨_, rfl, rfl⟩, pm_t6 107 rfl, pm_t6 108 rfl, pm_t6 109 rfl⟩
theorem vL_94 : pm_CV RL 94 yX9_without 10009909 := ⟨rfl, ⟨_, rfl, rfl⟩, pm_t6 111 rfl, pm_t6 112 rfl, pm_t6 113 rfl⟩
theorem vL_98 : pm_CV RL 98 yX9_dearest 10009909 := ⟨rfl, ⟨_, rfl, rfl⟩, pm_t6 115 rfl, pm_t6 116 rfl, pm_t6 117 rfl⟩
theorem vL_102 : pm_CV RL 102 yX9_fuel 10009909 := ⟨rfl, ⟨_, rfl, rfl⟩, pm_t6 119 rfl, pm_t6 120 rfl, pm_t6 121 rfl⟩
theorem vX9_274 : pm_CV RX9 274 yX9_tells 10009909 := ⟨rfl, ⟨_, rfl, rfl⟩, pm_t6 123 rfl, pm_t6 125 rfl, List.mem_append_left _ (List.mem_of_getElem? (i := 89) rfl)⟩
theorem vX9_271 : pm_CV RX9 271 yX9_snap 10009909 := ⟨rfl, ⟨_, rfl, rfl⟩, pm_t6 127 rfl, pm_t6 129 rfl, List.mem_append_left _ (List.mem_of_getElem? (i := 90) rfl)⟩
theorem vL_106 : pm_CV RL 106 yX9_buy 10009909 := ⟨rfl, ⟨_, rfl, rfl⟩, pm_t6 131 rfl, pm_t6 132 rfl, pm_t6 133 rfl⟩
theorem vL_110 : pm_CV RL 110 yX9_weigh 10009909 := ⟨rfl, ⟨_, rfl, rfl⟩, pm_t6 135 rfl, pm_t6 136 rfl, pm_t6 137 rfl⟩
theorem vL_114 : pm_CV RL 114 yX9_undo 10009909 := ⟨rfl, ⟨_, rfl, rfl⟩, pm_t6 139 rfl, pm_t6 140 rfl, pm_t6 141 rfl⟩
theorem jm_abs_s : Cond.static Lib.Math.abs.name ∈ lw_tbl := pm_t3 181 rfl
theorem jm_abs_c : Cond.code Lib.Math.abs.name Lib.Math.abs.code 1 (some .int) ∈ lw_tbl := pm_t3 182 rfl
theorem jm_min_s : Cond.static Lib.Math.min.name ∈ lw_tbl := pm_t2 228 rfl
theorem jm_min_c : Cond.code Lib.Math.min.name Lib.Math.min.code 2 (some .int) ∈ lw_tbl := pm_t2 229 rfl
theorem jm_i : Cond.initialized "java/lang/Math" ∈ lw_tbl := pm_t1 11 rfl
