theorem tw_sub {ws : List Cond} (h : ws.all (fun w => decide (w ∈ lw_tbl) && goodWord w) = true) : ∀ w ∈ ws, w ∈ kg_U := fun w hw => by
  have h1 := List.all_eq_true.mp h w hw
  rw [Bool.and_eq_true] at h1
  exact List.mem_filter.mpr ⟨of_decide_eq_true h1.1, h1.2⟩
/-! what the tables say of each class and method -/
set_option maxRecDepth 100000 in
theorem cl_X0 : kgCl 1 3 RX0 TX0 := ⟨rfl, fun w hw => tw_sub (by decide +kernel) w hw, by decide⟩
set_option maxRecDepth 100000 in
theorem cl_X1 : kgCl 2 6 RX1 TX1 := ⟨rfl, fun w hw => tw_sub (by decide +kernel) w hw, by decide⟩
set_option maxRecDepth 100000 in
theorem cl_X2 : kgCl 3 3 RX2 TX2 := ⟨rfl, fun w hw => tw_sub (by decide +kernel) w hw, by decide⟩
set_option maxRecDepth 100000 in
theorem cl_X3 : kgCl 4 18 RX3 TX3 := ⟨rfl, fun w hw => tw_sub (by decide +kernel) w hw, by decide⟩
set_option maxRecDepth 100000 in
theorem cl_X4 : kgCl 5 7 RX4 TX4 := ⟨rfl, fun w hw => tw_sub (by decide +kernel) w hw, by decide⟩
set_option maxRecDepth 100000 in
theorem cl_J4 : kgCl 0 4 RJ4 TJ4 := ⟨rfl, fun w hw => tw_sub (by decide +kernel) w hw, by decide⟩
theorem vw_X0_begin : kgVW yX0_begin cX0_begin 2 none 1 := ⟨⟨tw_628, tw_629⟩, tw_26, tw_630, by decide +kernel, by decide +kernel⟩
theorem vw_X0_keepBegun : kgVW yX0_keepBegun cX0_keepBegun 1 none 0 := ⟨⟨tw_658, tw_659⟩, tw_26, tw_660, by decide +kernel, by decide +kernel⟩
theorem vw_X2_putAhead : kgVW yX2_putAhead cX2_putAhead 4 none 2 := ⟨⟨tw_649, tw_650⟩, tw_27, tw_651, by decide +kernel, by decide +kernel⟩
theorem vw_X3_copyFrom : kgVW yX3_copyFrom cX3_copyFrom 2 none 1 := ⟨⟨tw_632, tw_633⟩, tw_24, tw_634, by decide +kernel, by decide +kernel⟩
theorem vw_X3_copyRow : kgSW yX3_copyRow cX3_copyRow 2 none 2 := ⟨tw_636, tw_24, tw_637, by decide +kernel, by decide +kernel⟩
theorem vw_X3_addKettle : kgVW yX3_addKettle cX3_addKettle 5 (some .int) 3 := ⟨⟨tw_674, tw_675⟩, tw_24, tw_676, by decide +kernel, by decide +kernel⟩
theorem vw_X3_barLid : kgVW yX3_barLid cX3_barLid 2 none 1 := ⟨⟨tw_737, tw_738⟩, tw_24, tw_739, by decide +kernel, by decide +kernel⟩
theorem vw_X3_passMinute : kgVW yX3_passMinute cX3_passMinute 3 (some .int) 0 := ⟨⟨tw_749, tw_750⟩, tw_24, tw_751, by decide +kernel, by decide +kernel⟩
theorem vw_X3_passMinuteOver : kgVW yX3_passMinuteOver cX3_passMinuteOver 4 (some .boolean) 1 := ⟨⟨tw_754, tw_19⟩, tw_24, tw_755, by decide +kernel, by decide +kernel⟩
theorem vw_X3_boilDry : kgVW yX3_boilDry cX3_boilDry 3 none 1 := ⟨⟨tw_758, tw_20⟩, tw_24, tw_759, by decide +kernel, by decide +kernel⟩
theorem vw_X3_changeTemperature : kgVW yX3_changeTemperature cX3_changeTemperature 2 none 1 := ⟨⟨tw_762, tw_21⟩, tw_24, tw_763, by decide +kernel, by decide +kernel⟩
theorem vw_X3_holdHarmony : kgVW yX3_holdHarmony cX3_holdHarmony 5 none 0 := ⟨⟨tw_766, tw_767⟩, tw_24, tw_768, by decide +kernel, by decide +kernel⟩
theorem vw_X3_heatUnder : kgVW yX3_heatUnder cX3_heatUnder 3 (some .int) 1 := ⟨⟨tw_269, tw_270⟩, tw_24, tw_271, by decide +kernel, by decide +kernel⟩
theorem vw_X3_boils : kgVW yX3_boils cX3_boils 2 (some .boolean) 1 := ⟨⟨tw_265, tw_266⟩, tw_24, tw_267, by decide +kernel, by decide +kernel⟩
theorem vw_X3_whistles : kgVW yX3_whistles cX3_whistles 2 (some .boolean) 1 := ⟨⟨tw_273, tw_274⟩, tw_24, tw_275, by decide +kernel, by decide +kernel⟩
theorem vw_X3_whistlers : kgVW yX3_whistlers cX3_whistlers 3 (some .int) 0 := ⟨⟨tw_277, tw_278⟩, tw_24, tw_279, by decide +kernel, by decide +kernel⟩
theorem vw_X3_whistledPitches : kgVW yX3_whistledPitches cX3_whistledPitches 4 (some .int) 0 := ⟨⟨tw_324, tw_325⟩, tw_24, tw_326, by decide +kernel, by decide +kernel⟩
theorem vw_X3_kettleOn : kgVW yX3_kettleOn cX3_kettleOn 3 (some .int) 1 := ⟨⟨tw_298, tw_299⟩, tw_24, tw_300, by decide +kernel, by decide +kernel⟩
theorem vw_X3_stoveWithPitch : kgVW yX3_stoveWithPitch cX3_stoveWithPitch 3 (some .int) 1 := ⟨⟨tw_698, tw_699⟩, tw_24, tw_700, by decide +kernel, by decide +kernel⟩
theorem vw_X3_hasPitchOnTwoStoves : kgVW yX3_hasPitchOnTwoStoves cX3_hasPitchOnTwoStoves 3 (some .boolean) 0 := ⟨⟨tw_603, tw_604⟩, tw_24, tw_605, by decide +kernel, by decide +kernel⟩
theorem vw_X3_countPitchesOf : kgVW yX3_countPitchesOf cX3_countPitchesOf 4 (some .int) 1 := ⟨⟨tw_362, tw_363⟩, tw_24, tw_364, by decide +kernel, by decide +kernel⟩
theorem vw_X3_countKettlesOf : kgVW yX3_countKettlesOf cX3_countKettlesOf 4 (some .int) 1 := ⟨⟨tw_366, tw_367⟩, tw_24, tw_368, by decide +kernel, by decide +kernel⟩
theorem vw_X3_countWhistlersOf : kgVW yX3_countWhistlersOf cX3_countWhistlersOf 5 (some .int) 1 := ⟨⟨tw_370, tw_371⟩, tw_24, tw_372, by decide +kernel, by decide +kernel⟩
theorem vw_X3_countOnStoves : kgVW yX3_countOnStoves cX3_countOnStoves 3 (some .int) 0 := ⟨⟨tw_569, tw_570⟩, tw_24, tw_571, by decide +kernel, by decide +kernel⟩
theorem vw_X3_countBoiling : kgVW yX3_countBoiling cX3_countBoiling 3 (some .int) 0 := ⟨⟨tw_573, tw_574⟩, tw_24, tw_575, by decide +kernel, by decide +kernel⟩
theorem vw_X3_countLidsOn : kgVW yX3_countLidsOn cX3_countLidsOn 3 (some .int) 0 := ⟨⟨tw_577, tw_578⟩, tw_24, tw_579, by decide +kernel, by decide +kernel⟩
theorem vw_X3_countLidsBarred : kgVW yX3_countLidsBarred cX3_countLidsBarred 3 (some .int) 0 := ⟨⟨tw_581, tw_582⟩, tw_24, tw_583, by decide +kernel, by decide +kernel⟩
theorem vw_X3_sumWater : kgVW yX3_sumWater cX3_sumWater 3 (some .int) 0 := ⟨⟨tw_585, tw_586⟩, tw_24, tw_587, by decide +kernel, by decide +kernel⟩
theorem vw_X4_own : kgVW yX4_own cX4_own 3 (some .int) 2 := ⟨⟨tw_624, tw_625⟩, tw_23, tw_626, by decide +kernel, by decide +kernel⟩
theorem vw_X4_owner : kgVW yX4_owner cX4_owner 2 (some .int) 1 := ⟨⟨tw_247, tw_248⟩, tw_23, tw_249, by decide +kernel, by decide +kernel⟩
theorem vw_X4_kettle : kgVW yX4_kettle cX4_kettle 4 (some .int) 3 := ⟨⟨tw_666, tw_667⟩, tw_23, tw_668, by decide +kernel, by decide +kernel⟩
theorem vw_X4_fill : kgVW yX4_fill cX4_fill 3 (some .int) 2 := ⟨⟨tw_713, tw_714⟩, tw_23, tw_715, by decide +kernel, by decide +kernel⟩
theorem vw_X4_kettleOf : kgVW yX4_kettleOf cX4_kettleOf 3 (some .int) 2 := ⟨⟨tw_257, tw_258⟩, tw_23, tw_259, by decide +kernel, by decide +kernel⟩
theorem vw_X4_set : kgVW yX4_set cX4_set 3 (some .int) 2 := ⟨⟨tw_686, tw_687⟩, tw_23, tw_688, by decide +kernel, by decide +kernel⟩
theorem vw_X4_off : kgVW yX4_off cX4_off 2 (some .int) 1 := ⟨⟨tw_705, tw_706⟩, tw_23, tw_707, by decide +kernel, by decide +kernel⟩
theorem vw_X4_heat : kgVW yX4_heat cX4_heat 3 (some .int) 2 := ⟨⟨tw_678, tw_679⟩, tw_23, tw_680, by decide +kernel, by decide +kernel⟩
theorem vw_X4_lid : kgVW yX4_lid cX4_lid 3 (some .int) 2 := ⟨⟨tw_721, tw_722⟩, tw_23, tw_723, by decide +kernel, by decide +kernel⟩
theorem vw_X4_appeal : kgVW yX4_appeal cX4_appeal 3 (some .int) 2 := ⟨⟨tw_729, tw_730⟩, tw_23, tw_731, by decide +kernel, by decide +kernel⟩
theorem vw_X4_stoveOf : kgVW yX4_stoveOf cX4_stoveOf 3 (some .int) 2 := ⟨⟨tw_291, tw_292⟩, tw_23, tw_293, by decide +kernel, by decide +kernel⟩
theorem vw_X4_minute : kgVW yX4_minute cX4_minute 2 (some .int) 1 := ⟨⟨tw_741, tw_742⟩, tw_23, tw_743, by decide +kernel, by decide +kernel⟩
theorem vw_X4_whistling : kgVW yX4_whistling cX4_whistling 1 (some .int) 0 := ⟨⟨tw_302, tw_303⟩, tw_23, tw_304, by decide +kernel, by decide +kernel⟩
theorem vw_X4_harmony : kgVW yX4_harmony cX4_harmony 5 (some .int) 0 := ⟨⟨tw_307, tw_308⟩, tw_23, tw_309, by decide +kernel, by decide +kernel⟩
theorem vw_X4_harmonyAgain : kgVW yX4_harmonyAgain cX4_harmonyAgain 5 (some .int) 0 := ⟨⟨tw_320, tw_321⟩, tw_23, tw_322, by decide +kernel, by decide +kernel⟩
theorem vw_X4_boilsIn : kgVW yX4_boilsIn cX4_boilsIn 5 (some .int) 1 := ⟨⟨tw_328, tw_329⟩, tw_23, tw_330, by decide +kernel, by decide +kernel⟩
theorem vw_X4_boilsInAgain : kgVW yX4_boilsInAgain cX4_boilsInAgain 4 (some .int) 1 := ⟨⟨tw_336, tw_337⟩, tw_23, tw_338, by decide +kernel, by decide +kernel⟩
theorem vw_X4_dryIn : kgVW yX4_dryIn cX4_dryIn 3 (some .int) 1 := ⟨⟨tw_340, tw_341⟩, tw_23, tw_342, by decide +kernel, by decide +kernel⟩
theorem vw_X4_bestPitch : kgVW yX4_bestPitch cX4_bestPitch 6 (some .int) 0 := ⟨⟨tw_348, tw_349⟩, tw_23, tw_350, by decide +kernel, by decide +kernel⟩
theorem vw_X4_memberOf : kgVW yX4_memberOf cX4_memberOf 3 (some .int) 2 := ⟨⟨tw_355, tw_356⟩, tw_23, tw_357, by decide +kernel, by decide +kernel⟩
theorem vw_X4_ranked : kgVW yX4_ranked cX4_ranked 3 (some .int) 1 := ⟨⟨tw_374, tw_375⟩, tw_23, tw_376, by decide +kernel, by decide +kernel⟩
theorem vw_X4_hottest : kgVW yX4_hottest cX4_hottest 3 (some .int) 1 := ⟨⟨tw_389, tw_390⟩, tw_23, tw_391, by decide +kernel, by decide +kernel⟩
theorem vw_X4_tell : kgVW yX4_tell cX4_tell 2 (some .int) 1 := ⟨⟨tw_401, tw_402⟩, tw_23, tw_403, by decide +kernel, by decide +kernel⟩
theorem vw_X4_tellStoves : kgVW yX4_tellStoves cX4_tellStoves 3 (some .int) 0 := ⟨⟨tw_561, tw_562⟩, tw_23, tw_563, by decide +kernel, by decide +kernel⟩
theorem vw_X4_character : kgVW yX4_character cX4_character 2 (some .int) 1 := ⟨⟨tw_781, tw_782⟩, tw_23, tw_783, by decide +kernel, by decide +kernel⟩
theorem vw_X4_account : kgVW yX4_account cX4_account 2 (some .int) 1 := ⟨⟨tw_565, tw_566⟩, tw_23, tw_567, by decide +kernel, by decide +kernel⟩
theorem vw_X4_isBalanced : kgVW yX4_isBalanced cX4_isBalanced 3 (some .int) 0 := ⟨⟨tw_592, tw_593⟩, tw_23, tw_594, by decide +kernel, by decide +kernel⟩
theorem vw_X4_meanWater : kgVW yX4_meanWater cX4_meanWater 1 (some .double) 0 := ⟨⟨tw_607, tw_608⟩, tw_23, tw_609, by decide +kernel, by decide +kernel⟩
theorem vw_X4_whistleShare : kgVW yX4_whistleShare cX4_whistleShare 2 (some .float) 0 := ⟨⟨tw_611, tw_612⟩, tw_23, tw_613, by decide +kernel, by decide +kernel⟩
theorem vw_X4_isMember : kgSW yX4_isMember cX4_isMember 1 (some .boolean) 1 := ⟨tw_359, tw_23, tw_360, by decide +kernel, by decide +kernel⟩
theorem vw_X4_isPitch : kgSW yX4_isPitch cX4_isPitch 1 (some .boolean) 1 := ⟨tw_251, tw_23, tw_252, by decide +kernel, by decide +kernel⟩
theorem vw_X4_isStove : kgSW yX4_isStove cX4_isStove 1 (some .boolean) 1 := ⟨tw_295, tw_23, tw_296, by decide +kernel, by decide +kernel⟩
theorem vw_X4_isKettle : kgVW yX4_isKettle cX4_isKettle 2 (some .boolean) 1 := ⟨⟨tw_262, tw_0⟩, tw_23, tw_263, by decide +kernel, by decide +kernel⟩
theorem vw_X4_isIn : kgSW yX4_isIn cX4_isIn 2 (some .boolean) 2 := ⟨tw_282, tw_23, tw_283, by decide +kernel, by decide +kernel⟩
theorem vw_X4_orNothing : kgSW yX4_orNothing cX4_orNothing 1 (some .int) 1 := ⟨tw_254, tw_23, tw_255, by decide +kernel, by decide +kernel⟩
theorem vw_X4_sumOf : kgSW yX4_sumOf cX4_sumOf 6 (some .int) 1 := ⟨tw_589, tw_23, tw_590, by decide +kernel, by decide +kernel⟩
theorem vw_X4_soundOf : kgSW yX4_soundOf cX4_soundOf 3 (some .int) 2 := ⟨tw_312, tw_23, tw_313, by decide +kernel, by decide +kernel⟩
theorem vw_X4_fitOf : kgSW yX4_fitOf cX4_fitOf 4 (some .int) 2 := ⟨tw_352, tw_23, tw_353, by decide +kernel, by decide +kernel⟩
theorem vw_X4_isBoilingSame : kgVW yX4_isBoilingSame cX4_isBoilingSame 2 (some .boolean) 0 := ⟨⟨tw_599, tw_6⟩, tw_23, tw_600, by decide +kernel, by decide +kernel⟩
theorem vw_X4_countAheadOfMember : kgVW yX4_countAheadOfMember cX4_countAheadOfMember 4 (some .int) 1 := ⟨⟨tw_379, tw_1⟩, tw_23, tw_380, by decide +kernel, by decide +kernel⟩
theorem vw_X4_isMemberAhead : kgVW yX4_isMemberAhead cX4_isMemberAhead 5 (some .boolean) 2 := ⟨⟨tw_383, tw_2⟩, tw_23, tw_384, by decide +kernel, by decide +kernel⟩
theorem vw_X4_countAheadOfKettle : kgVW yX4_countAheadOfKettle cX4_countAheadOfKettle 4 (some .int) 1 := ⟨⟨tw_394, tw_3⟩, tw_23, tw_395, by decide +kernel, by decide +kernel⟩
theorem vw_X4_isKettleAhead : kgVW yX4_isKettleAhead cX4_isKettleAhead 5 (some .boolean) 2 := ⟨⟨tw_398, tw_4⟩, tw_23, tw_399, by decide +kernel, by decide +kernel⟩
theorem vw_X4_settle : kgVW yX4_settle cX4_settle 2 (some .int) 1 := ⟨⟨tw_655, tw_9⟩, tw_23, tw_656, by decide +kernel, by decide +kernel⟩
theorem vw_X4_takePitch : kgVW yX4_takePitch cX4_takePitch 4 (some .int) 2 := ⟨⟨tw_642, tw_7⟩, tw_23, tw_643, by decide +kernel, by decide +kernel⟩
theorem vw_X4_bringKettle : kgVW yX4_bringKettle cX4_bringKettle 4 (some .int) 3 := ⟨⟨tw_671, tw_10⟩, tw_23, tw_672, by decide +kernel, by decide +kernel⟩
theorem vw_X4_pourWater : kgVW yX4_pourWater cX4_pourWater 4 (some .int) 2 := ⟨⟨tw_718, tw_15⟩, tw_23, tw_719, by decide +kernel, by decide +kernel⟩
theorem vw_X4_putOnStove : kgVW yX4_putOnStove cX4_putOnStove 5 (some .int) 2 := ⟨⟨tw_691, tw_12⟩, tw_23, tw_692, by decide +kernel, by decide +kernel⟩
theorem vw_X4_takeOffStove : kgVW yX4_takeOffStove cX4_takeOffStove 3 (some .int) 1 := ⟨⟨tw_710, tw_14⟩, tw_23, tw_711, by decide +kernel, by decide +kernel⟩
theorem vw_X4_turnStove : kgVW yX4_turnStove cX4_turnStove 4 (some .int) 2 := ⟨⟨tw_683, tw_11⟩, tw_23, tw_684, by decide +kernel, by decide +kernel⟩
theorem vw_X4_moveLid : kgVW yX4_moveLid cX4_moveLid 3 (some .int) 2 := ⟨⟨tw_726, tw_16⟩, tw_23, tw_727, by decide +kernel, by decide +kernel⟩
theorem vw_X4_makeAppeal : kgVW yX4_makeAppeal cX4_makeAppeal 3 (some .int) 2 := ⟨⟨tw_734, tw_17⟩, tw_23, tw_735, by decide +kernel, by decide +kernel⟩
theorem vw_X4_passMinutes : kgVW yX4_passMinutes cX4_passMinutes 4 (some .int) 1 := ⟨⟨tw_746, tw_18⟩, tw_23, tw_747, by decide +kernel, by decide +kernel⟩
theorem vw_X4_refuse : kgVW yX4_refuse cX4_refuse 3 (some .int) 2 := ⟨⟨tw_646, tw_8⟩, tw_23, tw_647, by decide +kernel, by decide +kernel⟩
theorem vw_X4_refuseStove : kgVW yX4_refuseStove cX4_refuseStove 4 (some .int) 3 := ⟨⟨tw_695, tw_13⟩, tw_23, tw_696, by decide +kernel, by decide +kernel⟩
theorem vw_X4_tellSigns : kgVW yX4_tellSigns cX4_tellSigns 2 none 1 := ⟨⟨tw_551, tw_5⟩, tw_23, tw_552, by decide +kernel, by decide +kernel⟩
theorem vw_J6_getChars_ba4f3 : kgSW yJ6_getChars_ba4f3 cJ6_getChars_ba4f3 7 (some .int) 3 := ⟨tw_471, tw_36, tw_472, by decide +kernel, by decide +kernel⟩
theorem vw_J6_stringSize_0f7a4 : kgSW yJ6_stringSize_0f7a4 cJ6_stringSize_0f7a4 4 (some .int) 1 := ⟨tw_468, tw_36, tw_469, by decide +kernel, by decide +kernel⟩
theorem vw_J6_compare_7cf53 : kgSW yJ6_compare_7cf53 cJ6_compare_7cf53 2 (some .int) 2 := ⟨tw_386, tw_36, tw_387, by decide +kernel, by decide +kernel⟩
theorem vw_J6_bitCount_0f7a4 : kgSW yJ6_bitCount_0f7a4 cJ6_bitCount_0f7a4 1 (some .int) 1 := ⟨tw_285, tw_36, tw_286, by decide +kernel, by decide +kernel⟩
theorem vw_J9_abs_0f7a4 : kgSW yJ9_abs_0f7a4 cJ9_abs_0f7a4 1 (some .int) 1 := ⟨tw_315, tw_33, tw_316, by decide +kernel, by decide +kernel⟩
theorem vw_J9_max_7cf53 : kgSW yJ9_max_7cf53 cJ9_max_7cf53 2 (some .int) 2 := ⟨tw_345, tw_33, tw_346, by decide +kernel, by decide +kernel⟩
theorem vw_J9_min_7cf53 : kgSW yJ9_min_7cf53 cJ9_min_7cf53 2 (some .int) 2 := ⟨tw_333, tw_33, tw_334, by decide +kernel, by decide +kernel⟩
theorem vw_J0_length_8abf5 : kgVW yJ0_length_8abf5 cJ0_length_8abf5 1 (some .int) 0 := ⟨⟨tw_800, tw_801⟩, tw_31, tw_802, by decide +kernel, by decide +kernel⟩
theorem vw_J0_charAt_5068e : kgVW yJ0_charAt_5068e cJ0_charAt_5068e 2 (some .char) 1 := ⟨⟨tw_809, tw_810⟩, tw_31, tw_811, by decide +kernel, by decide +kernel⟩
theorem vw_J0_coder_7d493 : kgVW yJ0_coder_7d493 cJ0_coder_7d493 1 (some .byte) 0 := ⟨⟨tw_804, tw_805⟩, tw_31, tw_806, by decide +kernel, by decide +kernel⟩
theorem vw_J0_isLatin1_aae02 : kgVW yJ0_isLatin1_aae02 cJ0_isLatin1_aae02 1 (some .boolean) 0 := ⟨⟨tw_813, tw_814⟩, tw_31, tw_815, by decide +kernel, by decide +kernel⟩
theorem vw_J0_checkIndex_df160 : kgSW yJ0_checkIndex_df160 cJ0_checkIndex_df160 2 none 2 := ⟨tw_544, tw_31, tw_545, by decide +kernel, by decide +kernel⟩
theorem vw_J0_checkBoundsOffCount_cabcc : kgSW yJ0_checkBoundsOffCount_cabcc cJ0_checkBoundsOffCount_cabcc 3 (some .int) 3 := ⟨tw_532, tw_31, tw_533, by decide +kernel, by decide +kernel⟩
theorem vw_J0_checkBoundsBeginEnd_23922 : kgSW yJ0_checkBoundsBeginEnd_23922 cJ0_checkBoundsBeginEnd_23922 3 none 3 := ⟨tw_487, tw_31, tw_488, by decide +kernel, by decide +kernel⟩
theorem vw_J4_append_cf468 : kgVW yJ4_append_cf468 cJ4_append_cf468 2 (some (.object "java/lang/StringBuilder")) 1 := ⟨⟨tw_509, tw_510⟩, tw_30, tw_511, by decide +kernel, by decide +kernel⟩
theorem vw_J4_append_bf812 : kgVW yJ4_append_bf812 cJ4_append_bf812 2 (some (.object "java/lang/StringBuilder")) 1 := ⟨⟨tw_461, tw_462⟩, tw_30, tw_463, by decide +kernel, by decide +kernel⟩
theorem vw_J4_charAt_5068e : kgVW yJ4_charAt_5068e cJ4_charAt_5068e 2 (some .char) 1 := ⟨⟨tw_785, tw_786⟩, tw_30, tw_787, by decide +kernel, by decide +kernel⟩
theorem vw_J4_setLength_d00df : kgVW yJ4_setLength_d00df cJ4_setLength_d00df 2 none 1 := ⟨⟨tw_405, tw_406⟩, tw_30, tw_407, by decide +kernel, by decide +kernel⟩
theorem vw_J4_length_8abf5 : kgVW yJ4_length_8abf5 cJ4_length_8abf5 1 (some .int) 0 := ⟨⟨tw_554, tw_555⟩, tw_30, tw_556, by decide +kernel, by decide +kernel⟩
theorem vw_J1_charAt_3b067 : kgSW yJ1_charAt_3b067 cJ1_charAt_3b067 2 (some .char) 2 := ⟨tw_817, tw_38, tw_818, by decide +kernel, by decide +kernel⟩
theorem vw_J1_canEncode_fc78d : kgSW yJ1_canEncode_fc78d cJ1_canEncode_fc78d 1 (some .boolean) 1 := ⟨tw_516, tw_38, tw_517, by decide +kernel, by decide +kernel⟩
theorem vw_J1_fillNull_b72d1 : kgSW yJ1_fillNull_b72d1 cJ1_fillNull_b72d1 3 none 3 := ⟨tw_448, tw_38, tw_449, by decide +kernel, by decide +kernel⟩
theorem vw_J1_inflate_0e8fd : kgSW yJ1_inflate_0e8fd cJ1_inflate_0e8fd 5 none 5 := ⟨tw_523, tw_38, tw_524, by decide +kernel, by decide +kernel⟩
theorem vw_J2_newBytesFor_77867 : kgSW yJ2_newBytesFor_77867 cJ2_newBytesFor_77867 1 (some (.array .byte)) 1 := ⟨tw_204, tw_32, tw_205, by decide +kernel, by decide +kernel⟩
theorem vw_J2_newBytesLength_0f7a4 : kgSW yJ2_newBytesLength_0f7a4 cJ2_newBytesLength_0f7a4 1 (some .int) 1 := ⟨tw_207, tw_32, tw_208, by decide +kernel, by decide +kernel⟩
theorem vw_J2_putChar_b72d1 : kgSW yJ2_putChar_b72d1 cJ2_putChar_b72d1 3 none 3 := ⟨tw_499, tw_32, tw_500, by decide +kernel, by decide +kernel⟩
theorem vw_J2_getChar_3b067 : kgSW yJ2_getChar_3b067 cJ2_getChar_3b067 2 (some .char) 2 := ⟨tw_794, tw_32, tw_795, by decide +kernel, by decide +kernel⟩
theorem vw_J2_length_9d52b : kgSW yJ2_length_9d52b cJ2_length_9d52b 1 (some .int) 1 := ⟨tw_484, tw_32, tw_485, by decide +kernel, by decide +kernel⟩
theorem vw_J2_fillNull_b72d1 : kgSW yJ2_fillNull_b72d1 cJ2_fillNull_b72d1 3 none 3 := ⟨tw_457, tw_32, tw_458, by decide +kernel, by decide +kernel⟩
theorem vw_J2_putCharSB_b72d1 : kgSW yJ2_putCharSB_b72d1 cJ2_putCharSB_b72d1 3 none 3 := ⟨tw_538, tw_32, tw_539, by decide +kernel, by decide +kernel⟩
theorem vw_J2_getChars_46870 : kgSW yJ2_getChars_46870 cJ2_getChars_46870 5 (some .int) 4 := ⟨tw_478, tw_32, tw_479, by decide +kernel, by decide +kernel⟩
theorem vw_J2_charAt_3b067 : kgSW yJ2_charAt_3b067 cJ2_charAt_3b067 2 (some .char) 2 := ⟨tw_821, tw_32, tw_822, by decide +kernel, by decide +kernel⟩
theorem vw_J2_inflate_0e8fd : kgSW yJ2_inflate_0e8fd cJ2_inflate_0e8fd 6 none 5 := ⟨tw_526, tw_32, tw_527, by decide +kernel, by decide +kernel⟩
theorem vw_J2_getChars_ba4f3 : kgSW yJ2_getChars_ba4f3 cJ2_getChars_ba4f3 7 (some .int) 3 := ⟨tw_495, tw_32, tw_496, by decide +kernel, by decide +kernel⟩
theorem vw_J2_checkIndex_2214a : kgSW yJ2_checkIndex_2214a cJ2_checkIndex_2214a 2 none 2 := ⟨tw_541, tw_32, tw_542, by decide +kernel, by decide +kernel⟩
theorem vw_J2_checkBoundsBeginEnd_d044e : kgSW yJ2_checkBoundsBeginEnd_d044e cJ2_checkBoundsBeginEnd_d044e 3 none 3 := ⟨tw_481, tw_32, tw_482, by decide +kernel, by decide +kernel⟩
theorem vw_J2_checkBoundsOffCount_d044e : kgSW yJ2_checkBoundsOffCount_d044e cJ2_checkBoundsOffCount_d044e 3 none 3 := ⟨tw_529, tw_32, tw_530, by decide +kernel, by decide +kernel⟩
theorem vw_J7_rangeCheck_23922 : kgSW yJ7_rangeCheck_23922 cJ7_rangeCheck_23922 3 none 3 := ⟨tw_454, tw_25, tw_455, by decide +kernel, by decide +kernel⟩
theorem vw_J7_fill_53178 : kgSW yJ7_fill_53178 cJ7_fill_53178 4 none 2 := ⟨tw_55, tw_25, tw_56, by decide +kernel, by decide +kernel⟩
theorem vw_J7_fill_eb02e : kgSW yJ7_fill_eb02e cJ7_fill_eb02e 5 none 4 := ⟨tw_451, tw_25, tw_452, by decide +kernel, by decide +kernel⟩
theorem vw_J7_copyOf_9075b : kgSW yJ7_copyOf_9075b cJ7_copyOf_9075b 3 (some (.array .byte)) 2 := ⟨tw_429, tw_25, tw_430, by decide +kernel, by decide +kernel⟩
theorem vw_J8_newLength_cabcc : kgSW yJ8_newLength_cabcc cJ8_newLength_cabcc 4 (some .int) 3 := ⟨tw_420, tw_37, tw_421, by decide +kernel, by decide +kernel⟩
theorem vw_J8_hugeLength_7cf53 : kgSW yJ8_hugeLength_7cf53 cJ8_hugeLength_7cf53 3 (some .int) 2 := ⟨tw_425, tw_37, tw_426, by decide +kernel, by decide +kernel⟩
theorem vw_J3_checkIndex_8e157 : kgSW yJ3_checkIndex_8e157 cJ3_checkIndex_8e157 3 (some .int) 3 := ⟨tw_547, tw_39, tw_548, by decide +kernel, by decide +kernel⟩
theorem vw_J3_checkFromToIndex_8c36e : kgSW yJ3_checkFromToIndex_8c36e cJ3_checkFromToIndex_8c36e 4 (some .int) 4 := ⟨tw_492, tw_39, tw_493, by decide +kernel, by decide +kernel⟩
theorem vw_J3_checkFromIndexSize_8c36e : kgSW yJ3_checkFromIndexSize_8c36e cJ3_checkFromIndexSize_8c36e 4 (some .int) 4 := ⟨tw_535, tw_39, tw_536, by decide +kernel, by decide +kernel⟩

/-- a cell that is a guild's state, its rows behind it -/
abbrev kgSt (k : Nat) : Prop := k < 177 ∧ kgKD k = (4, 18) ∧ k + 15 < 176 ∧ ∀ j, j < 14 → kgKD (k + 1 + j) = kgKs (1 + j)
theorem kgSt_1 : kgSt 1 := by decide
theorem kgSt_16 : kgSt 16 := by decide
theorem kgSt_i : ∀ i, i < 9 → kgSt (33 + 15 * i) := by decide
theorem kgSt_h {i : Int32} (h : inb i 9 = true) : kgSt (33 + 15 * i.toNatClampNeg) := by
  obtain ⟨j, hj, rfl⟩ := vp_in_of (inb_in h) (by decide)
  rw [nI_clamp (by omega)]
  exact kgSt_i j hj

