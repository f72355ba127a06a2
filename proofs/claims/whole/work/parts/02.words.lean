set_option maxRecDepth 100000 in
def kg_U : List Cond := lw_tbl.filter goodWord
set_option maxRecDepth 100000 in
theorem tw_m {i : Nat} {w : Cond} (h : lw_tbl[i]? = some w) (g : goodWord w = true) : w ∈ kg_U := List.mem_filter.mpr ⟨List.mem_of_getElem? h, g⟩
set_option maxRecDepth 100000 in
theorem tw_t {w : Cond} (h : w ∈ kg_U) : w ∈ lw_tbl := (List.mem_filter.mp h).1
set_option maxRecDepth 100000 in
theorem tw_g {w : Cond} (h : w ∈ kg_U) : goodWord w = true := (List.mem_filter.mp h).2
set_option maxRecDepth 100000 in
theorem tw_G {a b : Cond} (hb : b ∈ kg_U) : GoodIn (a :: kg_U) (b :: kg_U) := fun w hw => (List.mem_cons.mp hw).elim (fun h => ⟨List.mem_cons_of_mem _ (h ▸ hb), good_of_word (tw_g (h ▸ hb))⟩) (fun h => ⟨List.mem_cons_of_mem _ h, good_of_word (tw_g h)⟩)
set_option maxRecDepth 100000 in
theorem tw_H {b : Cond} (hb : b ∈ kg_U) : GoodIn kg_U (b :: kg_U) := fun w hw => (List.mem_cons.mp hw).elim (fun h => ⟨h ▸ hb, good_of_word (tw_g (h ▸ hb))⟩) (fun h => ⟨h, good_of_word (tw_g h)⟩)
set_option maxRecDepth 100000 in
theorem tw_0 : Cond.selects RX4 yX4_takePitch yX4_takePitch ∈ kg_U := tw_m (i := 0) (by decide +kernel) (by decide +kernel)
set_option maxRecDepth 100000 in
theorem tw_1 : Cond.selects RX4 yX4_refuse yX4_refuse ∈ kg_U := tw_m (i := 1) (by decide +kernel) (by decide +kernel)
set_option maxRecDepth 100000 in
theorem tw_2 : Cond.selects RX4 yX4_settle yX4_settle ∈ kg_U := tw_m (i := 2) (by decide +kernel) (by decide +kernel)
set_option maxRecDepth 100000 in
theorem tw_3 : Cond.selects RX4 yX4_bringKettle yX4_bringKettle ∈ kg_U := tw_m (i := 3) (by decide +kernel) (by decide +kernel)
set_option maxRecDepth 100000 in
theorem tw_4 : Cond.selects RX4 yX4_pourWater yX4_pourWater ∈ kg_U := tw_m (i := 4) (by decide +kernel) (by decide +kernel)
set_option maxRecDepth 100000 in
theorem tw_5 : Cond.selects RX4 yX4_isKettle yX4_isKettle ∈ kg_U := tw_m (i := 5) (by decide +kernel) (by decide +kernel)
set_option maxRecDepth 100000 in
theorem tw_6 : Cond.selects RX4 yX4_putOnStove yX4_putOnStove ∈ kg_U := tw_m (i := 6) (by decide +kernel) (by decide +kernel)
set_option maxRecDepth 100000 in
theorem tw_7 : Cond.selects RX4 yX4_refuseStove yX4_refuseStove ∈ kg_U := tw_m (i := 7) (by decide +kernel) (by decide +kernel)
set_option maxRecDepth 100000 in
theorem tw_8 : Cond.selects RX4 yX4_takeOffStove yX4_takeOffStove ∈ kg_U := tw_m (i := 8) (by decide +kernel) (by decide +kernel)
set_option maxRecDepth 100000 in
theorem tw_9 : Cond.selects RX4 yX4_turnStove yX4_turnStove ∈ kg_U := tw_m (i := 9) (by decide +kernel) (by decide +kernel)
set_option maxRecDepth 100000 in
theorem tw_10 : Cond.selects RX4 yX4_moveLid yX4_moveLid ∈ kg_U := tw_m (i := 10) (by decide +kernel) (by decide +kernel)
set_option maxRecDepth 100000 in
theorem tw_11 : Cond.selects RX4 yX4_makeAppeal yX4_makeAppeal ∈ kg_U := tw_m (i := 11) (by decide +kernel) (by decide +kernel)
set_option maxRecDepth 100000 in
theorem tw_12 : Cond.selects RX4 yX4_passMinutes yX4_passMinutes ∈ kg_U := tw_m (i := 12) (by decide +kernel) (by decide +kernel)
set_option maxRecDepth 100000 in
theorem tw_13 : Cond.selects RX3 yX3_passMinuteOver yX3_passMinuteOver ∈ kg_U := tw_m (i := 13) (by decide +kernel) (by decide +kernel)
set_option maxRecDepth 100000 in
theorem tw_14 : Cond.selects RX3 yX3_boilDry yX3_boilDry ∈ kg_U := tw_m (i := 14) (by decide +kernel) (by decide +kernel)
set_option maxRecDepth 100000 in
theorem tw_15 : Cond.selects RX3 yX3_changeTemperature yX3_changeTemperature ∈ kg_U := tw_m (i := 15) (by decide +kernel) (by decide +kernel)
set_option maxRecDepth 100000 in
theorem tw_16 : Cond.selects RX4 yX4_countAheadOfMember yX4_countAheadOfMember ∈ kg_U := tw_m (i := 16) (by decide +kernel) (by decide +kernel)
set_option maxRecDepth 100000 in
theorem tw_17 : Cond.selects RX4 yX4_isMemberAhead yX4_isMemberAhead ∈ kg_U := tw_m (i := 17) (by decide +kernel) (by decide +kernel)
set_option maxRecDepth 100000 in
theorem tw_18 : Cond.selects RX4 yX4_countAheadOfKettle yX4_countAheadOfKettle ∈ kg_U := tw_m (i := 18) (by decide +kernel) (by decide +kernel)
set_option maxRecDepth 100000 in
theorem tw_19 : Cond.selects RX4 yX4_isKettleAhead yX4_isKettleAhead ∈ kg_U := tw_m (i := 19) (by decide +kernel) (by decide +kernel)
set_option maxRecDepth 100000 in
theorem tw_20 : Cond.selects RX1 yX1_readOrder yX1_readOrder ∈ kg_U := tw_m (i := 20) (by decide +kernel) (by decide +kernel)
set_option maxRecDepth 100000 in
theorem tw_21 : Cond.selects RX1 yX1_readForm yX1_readForm ∈ kg_U := tw_m (i := 21) (by decide +kernel) (by decide +kernel)
set_option maxRecDepth 100000 in
theorem tw_22 : Cond.selects RX1 yX1_readNumber yX1_readNumber ∈ kg_U := tw_m (i := 22) (by decide +kernel) (by decide +kernel)
set_option maxRecDepth 100000 in
theorem tw_23 : Cond.selects RX1 yX1_signAtPlace yX1_signAtPlace ∈ kg_U := tw_m (i := 23) (by decide +kernel) (by decide +kernel)
set_option maxRecDepth 100000 in
theorem tw_24 : Cond.selects RX1 yX1_isAtPlace yX1_isAtPlace ∈ kg_U := tw_m (i := 24) (by decide +kernel) (by decide +kernel)
set_option maxRecDepth 100000 in
theorem tw_25 : Cond.selects RX1 yX1_digitAtPlace yX1_digitAtPlace ∈ kg_U := tw_m (i := 25) (by decide +kernel) (by decide +kernel)
set_option maxRecDepth 100000 in
theorem tw_26 : Cond.selects RX4 yX4_carryOut yX4_carryOut ∈ kg_U := tw_m (i := 26) (by decide +kernel) (by decide +kernel)
set_option maxRecDepth 100000 in
theorem tw_27 : Cond.selects RX4 yX4_refuseOrder yX4_refuseOrder ∈ kg_U := tw_m (i := 27) (by decide +kernel) (by decide +kernel)
set_option maxRecDepth 100000 in
theorem tw_28 : Cond.selects RX4 yX4_tellSigns yX4_tellSigns ∈ kg_U := tw_m (i := 28) (by decide +kernel) (by decide +kernel)
set_option maxRecDepth 100000 in
theorem tw_29 : Cond.selects RX4 yX4_isBoilingSame yX4_isBoilingSame ∈ kg_U := tw_m (i := 29) (by decide +kernel) (by decide +kernel)
set_option maxRecDepth 100000 in
theorem tw_30 : Cond.selects RX5 yX5_begins yX5_begins ∈ kg_U := tw_m (i := 30) (by decide +kernel) (by decide +kernel)
set_option maxRecDepth 100000 in
theorem tw_31 : Cond.selects RX5 yX5_copies yX5_copies ∈ kg_U := tw_m (i := 31) (by decide +kernel) (by decide +kernel)
set_option maxRecDepth 100000 in
theorem tw_32 : Cond.selects RX5 yX5_owns yX5_owns ∈ kg_U := tw_m (i := 32) (by decide +kernel) (by decide +kernel)
set_option maxRecDepth 100000 in
theorem tw_33 : Cond.selects RX5 yX5_ownerOf yX5_ownerOf ∈ kg_U := tw_m (i := 33) (by decide +kernel) (by decide +kernel)
set_option maxRecDepth 100000 in
theorem tw_34 : Cond.selects RX5 yX5_refuses yX5_refuses ∈ kg_U := tw_m (i := 34) (by decide +kernel) (by decide +kernel)
set_option maxRecDepth 100000 in
theorem tw_35 : Cond.selects RX5 yX5_pitchesOf yX5_pitchesOf ∈ kg_U := tw_m (i := 35) (by decide +kernel) (by decide +kernel)
set_option maxRecDepth 100000 in
theorem tw_36 : Cond.selects RX5 yX5_ends yX5_ends ∈ kg_U := tw_m (i := 36) (by decide +kernel) (by decide +kernel)
set_option maxRecDepth 100000 in
theorem tw_37 : Cond.selects RX5 yX5_brings yX5_brings ∈ kg_U := tw_m (i := 37) (by decide +kernel) (by decide +kernel)
set_option maxRecDepth 100000 in
theorem tw_38 : Cond.selects RX5 yX5_puts yX5_puts ∈ kg_U := tw_m (i := 38) (by decide +kernel) (by decide +kernel)
set_option maxRecDepth 100000 in
theorem tw_39 : Cond.selects RX5 yX5_fills yX5_fills ∈ kg_U := tw_m (i := 39) (by decide +kernel) (by decide +kernel)
set_option maxRecDepth 100000 in
theorem tw_40 : Cond.selects RX5 yX5_isKettle yX5_isKettle ∈ kg_U := tw_m (i := 40) (by decide +kernel) (by decide +kernel)
set_option maxRecDepth 100000 in
theorem tw_41 : Cond.selects RX5 yX5_kt yX5_kt ∈ kg_U := tw_m (i := 41) (by decide +kernel) (by decide +kernel)
set_option maxRecDepth 100000 in
theorem tw_42 : Cond.selects RX5 yX5_sets yX5_sets ∈ kg_U := tw_m (i := 42) (by decide +kernel) (by decide +kernel)
set_option maxRecDepth 100000 in
theorem tw_43 : Cond.selects RX5 yX5_kettleOn yX5_kettleOn ∈ kg_U := tw_m (i := 43) (by decide +kernel) (by decide +kernel)
set_option maxRecDepth 100000 in
theorem tw_44 : Cond.selects RX5 yX5_stoveWith yX5_stoveWith ∈ kg_U := tw_m (i := 44) (by decide +kernel) (by decide +kernel)
set_option maxRecDepth 100000 in
theorem tw_45 : Cond.selects RX5 yX5_isOnStove yX5_isOnStove ∈ kg_U := tw_m (i := 45) (by decide +kernel) (by decide +kernel)
set_option maxRecDepth 100000 in
theorem tw_46 : Cond.selects RX5 yX5_causes yX5_causes ∈ kg_U := tw_m (i := 46) (by decide +kernel) (by decide +kernel)
set_option maxRecDepth 100000 in
theorem tw_47 : Cond.selects RX5 yX5_onStoves yX5_onStoves ∈ kg_U := tw_m (i := 47) (by decide +kernel) (by decide +kernel)
set_option maxRecDepth 100000 in
theorem tw_48 : Cond.selects RX5 yX5_takesOff yX5_takesOff ∈ kg_U := tw_m (i := 48) (by decide +kernel) (by decide +kernel)
set_option maxRecDepth 100000 in
theorem tw_49 : Cond.selects RX5 yX5_heats yX5_heats ∈ kg_U := tw_m (i := 49) (by decide +kernel) (by decide +kernel)
set_option maxRecDepth 100000 in
theorem tw_50 : Cond.selects RX5 yX5_putsLid yX5_putsLid ∈ kg_U := tw_m (i := 50) (by decide +kernel) (by decide +kernel)
set_option maxRecDepth 100000 in
theorem tw_51 : Cond.selects RX5 yX5_lidsOn yX5_lidsOn ∈ kg_U := tw_m (i := 51) (by decide +kernel) (by decide +kernel)
set_option maxRecDepth 100000 in
theorem tw_52 : Cond.selects RX5 yX5_appeals yX5_appeals ∈ kg_U := tw_m (i := 52) (by decide +kernel) (by decide +kernel)
set_option maxRecDepth 100000 in
theorem tw_53 : Cond.selects RX5 yX5_passes yX5_passes ∈ kg_U := tw_m (i := 53) (by decide +kernel) (by decide +kernel)
set_option maxRecDepth 100000 in
theorem tw_54 : Cond.selects RX5 yX5_goesBy yX5_goesBy ∈ kg_U := tw_m (i := 54) (by decide +kernel) (by decide +kernel)
set_option maxRecDepth 100000 in
theorem tw_55 : Cond.selects RX5 yX5_boils yX5_boils ∈ kg_U := tw_m (i := 55) (by decide +kernel) (by decide +kernel)
set_option maxRecDepth 100000 in
theorem tw_56 : Cond.selects RX5 yX5_heatUnder yX5_heatUnder ∈ kg_U := tw_m (i := 56) (by decide +kernel) (by decide +kernel)
set_option maxRecDepth 100000 in
theorem tw_57 : Cond.selects RX5 yX5_boilsOn yX5_boilsOn ∈ kg_U := tw_m (i := 57) (by decide +kernel) (by decide +kernel)
set_option maxRecDepth 100000 in
theorem tw_58 : Cond.selects RX5 yX5_sounds yX5_sounds ∈ kg_U := tw_m (i := 58) (by decide +kernel) (by decide +kernel)
set_option maxRecDepth 100000 in
theorem tw_59 : Cond.selects RX5 yX5_whistles yX5_whistles ∈ kg_U := tw_m (i := 59) (by decide +kernel) (by decide +kernel)
set_option maxRecDepth 100000 in
theorem tw_60 : Cond.selects RX5 yX5_minutesTo yX5_minutesTo ∈ kg_U := tw_m (i := 60) (by decide +kernel) (by decide +kernel)
set_option maxRecDepth 100000 in
theorem tw_61 : Cond.selects RX5 yX5_fits yX5_fits ∈ kg_U := tw_m (i := 61) (by decide +kernel) (by decide +kernel)
set_option maxRecDepth 100000 in
theorem tw_62 : Cond.selects RX5 yX5_m yX5_m ∈ kg_U := tw_m (i := 62) (by decide +kernel) (by decide +kernel)
set_option maxRecDepth 100000 in
theorem tw_63 : Cond.selects RX5 yX5_kettlesOf yX5_kettlesOf ∈ kg_U := tw_m (i := 63) (by decide +kernel) (by decide +kernel)
set_option maxRecDepth 100000 in
theorem tw_64 : Cond.selects RX5 yX5_parse yX5_parse ∈ kg_U := tw_m (i := 64) (by decide +kernel) (by decide +kernel)
set_option maxRecDepth 100000 in
theorem tw_65 : Cond.selects RX5 yX5_order yX5_order ∈ kg_U := tw_m (i := 65) (by decide +kernel) (by decide +kernel)
set_option maxRecDepth 100000 in
theorem tw_66 : Cond.selects RX5 yX5_sign yX5_sign ∈ kg_U := tw_m (i := 66) (by decide +kernel) (by decide +kernel)
set_option maxRecDepth 100000 in
theorem tw_67 : Cond.selects RX5 yX5_word yX5_word ∈ kg_U := tw_m (i := 67) (by decide +kernel) (by decide +kernel)
set_option maxRecDepth 100000 in
theorem tw_68 : Cond.selects RX5 yX5_signs yX5_signs ∈ kg_U := tw_m (i := 68) (by decide +kernel) (by decide +kernel)
set_option maxRecDepth 100000 in
theorem tw_69 : Cond.selects RX5 yX5_needs yX5_needs ∈ kg_U := tw_m (i := 69) (by decide +kernel) (by decide +kernel)
set_option maxRecDepth 100000 in
theorem tw_70 : Cond.selects RX5 yX5_number yX5_number ∈ kg_U := tw_m (i := 70) (by decide +kernel) (by decide +kernel)
set_option maxRecDepth 100000 in
theorem tw_71 : Cond.selects RX5 yX5_plusOrMinus yX5_plusOrMinus ∈ kg_U := tw_m (i := 71) (by decide +kernel) (by decide +kernel)
set_option maxRecDepth 100000 in
theorem tw_72 : Cond.selects RX5 yX5_does yX5_does ∈ kg_U := tw_m (i := 72) (by decide +kernel) (by decide +kernel)
set_option maxRecDepth 100000 in
theorem tw_73 : Cond.selects RX5 yX5_writesNumber yX5_writesNumber ∈ kg_U := tw_m (i := 73) (by decide +kernel) (by decide +kernel)
set_option maxRecDepth 100000 in
theorem tw_74 : Cond.selects RX5 yX5_writes yX5_writes ∈ kg_U := tw_m (i := 74) (by decide +kernel) (by decide +kernel)
set_option maxRecDepth 100000 in
theorem tw_75 : Cond.selects RX5 yX5_ofKettles yX5_ofKettles ∈ kg_U := tw_m (i := 75) (by decide +kernel) (by decide +kernel)
set_option maxRecDepth 100000 in
theorem tw_76 : Cond.selects RX5 yX5_allPoints yX5_allPoints ∈ kg_U := tw_m (i := 76) (by decide +kernel) (by decide +kernel)
set_option maxRecDepth 100000 in
theorem tw_77 : Cond.initialized RL ∈ kg_U := tw_m (i := 77) (by decide +kernel) (by decide +kernel)
set_option maxRecDepth 100000 in
theorem tw_78 : Cond.initialized RX4 ∈ kg_U := tw_m (i := 78) (by decide +kernel) (by decide +kernel)
set_option maxRecDepth 100000 in
theorem tw_79 : Cond.initialized RX3 ∈ kg_U := tw_m (i := 79) (by decide +kernel) (by decide +kernel)
set_option maxRecDepth 100000 in
theorem tw_80 : Cond.initialized RJ7 ∈ kg_U := tw_m (i := 80) (by decide +kernel) (by decide +kernel)
set_option maxRecDepth 100000 in
theorem tw_81 : Cond.initialized RX0 ∈ kg_U := tw_m (i := 81) (by decide +kernel) (by decide +kernel)
set_option maxRecDepth 100000 in
theorem tw_82 : Cond.initialized RX2 ∈ kg_U := tw_m (i := 82) (by decide +kernel) (by decide +kernel)
set_option maxRecDepth 100000 in
theorem tw_83 : Cond.initialized RX1 ∈ kg_U := tw_m (i := 83) (by decide +kernel) (by decide +kernel)
set_option maxRecDepth 100000 in
theorem tw_84 : Cond.initialized RJ5 ∈ kg_U := tw_m (i := 84) (by decide +kernel) (by decide +kernel)
set_option maxRecDepth 100000 in
theorem tw_85 : Cond.initialized RJ4 ∈ kg_U := tw_m (i := 85) (by decide +kernel) (by decide +kernel)
set_option maxRecDepth 100000 in
theorem tw_86 : Cond.initialized RJ0 ∈ kg_U := tw_m (i := 86) (by decide +kernel) (by decide +kernel)
set_option maxRecDepth 100000 in
theorem tw_87 : Cond.initialized RJ2 ∈ kg_U := tw_m (i := 87) (by decide +kernel) (by decide +kernel)
set_option maxRecDepth 100000 in
theorem tw_88 : Cond.initialized RX5 ∈ kg_U := tw_m (i := 88) (by decide +kernel) (by decide +kernel)
set_option maxRecDepth 100000 in
theorem tw_89 : Cond.initialized RJ9 ∈ kg_U := tw_m (i := 89) (by decide +kernel) (by decide +kernel)
set_option maxRecDepth 100000 in
theorem tw_90 : Cond.initialized RJ10 ∈ kg_U := tw_m (i := 90) (by decide +kernel) (by decide +kernel)
set_option maxRecDepth 100000 in
theorem tw_91 : Cond.initialized "java/lang/Number" ∈ kg_U := tw_m (i := 91) (by decide +kernel) (by decide +kernel)
set_option maxRecDepth 100000 in
theorem tw_92 : Cond.initialized RJ6 ∈ kg_U := tw_m (i := 92) (by decide +kernel) (by decide +kernel)
set_option maxRecDepth 100000 in
theorem tw_93 : Cond.initialized RJ1 ∈ kg_U := tw_m (i := 93) (by decide +kernel) (by decide +kernel)
set_option maxRecDepth 100000 in
theorem tw_94 : Cond.initialized RJ3 ∈ kg_U := tw_m (i := 94) (by decide +kernel) (by decide +kernel)
set_option maxRecDepth 100000 in
theorem tw_95 : Cond.initialized RJ8 ∈ kg_U := tw_m (i := 95) (by decide +kernel) (by decide +kernel)
set_option maxRecDepth 100000 in
theorem tw_96 : Cond.classLink RL 7 RX4 ∈ kg_U := tw_m (i := 96) (by decide +kernel) (by decide +kernel)
set_option maxRecDepth 100000 in
theorem tw_97 : Cond.instantiable RX4 7 ∈ kg_U := tw_m (i := 97) (by decide +kernel) (by decide +kernel)
set_option maxRecDepth 100000 in
theorem tw_98 : Cond.methodLink RL 9 yX4_init ∈ kg_U := tw_m (i := 98) (by decide +kernel) (by decide +kernel)
set_option maxRecDepth 100000 in
theorem tw_99 : Cond.instanceMethod yX4_init ∈ kg_U := tw_m (i := 99) (by decide +kernel) (by decide +kernel)
set_option maxRecDepth 100000 in
theorem tw_100 : Cond.code yX4_init cX4_init 1 none ∈ kg_U := tw_m (i := 100) (by decide +kernel) (by decide +kernel)
set_option maxRecDepth 100000 in
theorem tw_101 : Cond.methodLink RX4 1 (⟨"java/lang/Object", "<init>", "()V"⟩ : MethodName) ∈ kg_U := tw_m (i := 101) (by decide +kernel) (by decide +kernel)
set_option maxRecDepth 100000 in
theorem tw_102 : Cond.instanceMethod (⟨"java/lang/Object", "<init>", "()V"⟩ : MethodName) ∈ kg_U := tw_m (i := 102) (by decide +kernel) (by decide +kernel)
set_option maxRecDepth 100000 in
theorem tw_103 : Cond.code (⟨"java/lang/Object", "<init>", "()V"⟩ : MethodName) object_method_1_code 1 none ∈ kg_U := tw_m (i := 103) (by decide +kernel) (by decide +kernel)
set_option maxRecDepth 100000 in
theorem tw_104 : Cond.classLink RX4 7 RX3 ∈ kg_U := tw_m (i := 104) (by decide +kernel) (by decide +kernel)
set_option maxRecDepth 100000 in
theorem tw_105 : Cond.instantiable RX3 18 ∈ kg_U := tw_m (i := 105) (by decide +kernel) (by decide +kernel)
set_option maxRecDepth 100000 in
theorem tw_106 : Cond.methodLink RX4 9 yX3_init ∈ kg_U := tw_m (i := 106) (by decide +kernel) (by decide +kernel)
set_option maxRecDepth 100000 in
theorem tw_107 : Cond.instanceMethod yX3_init ∈ kg_U := tw_m (i := 107) (by decide +kernel) (by decide +kernel)
set_option maxRecDepth 100000 in
theorem tw_108 : Cond.code yX3_init cX3_init 1 none ∈ kg_U := tw_m (i := 108) (by decide +kernel) (by decide +kernel)
set_option maxRecDepth 100000 in
theorem tw_109 : Cond.methodLink RX3 3 (⟨"java/lang/Object", "<init>", "()V"⟩ : MethodName) ∈ kg_U := tw_m (i := 109) (by decide +kernel) (by decide +kernel)
set_option maxRecDepth 100000 in
theorem tw_110 : Cond.methodLink RX3 54 yJ7_fill_53178 ∈ kg_U := tw_m (i := 110) (by decide +kernel) (by decide +kernel)
set_option maxRecDepth 100000 in
theorem tw_111 : Cond.static yJ7_fill_53178 ∈ kg_U := tw_m (i := 111) (by decide +kernel) (by decide +kernel)
set_option maxRecDepth 100000 in
theorem tw_112 : Cond.code yJ7_fill_53178 cJ7_fill_53178 4 none ∈ kg_U := tw_m (i := 112) (by decide +kernel) (by decide +kernel)
set_option maxRecDepth 100000 in
theorem tw_113 : Cond.fieldLink RX3 9 "KettleGuild$State" "owners" "[I" ∈ kg_U := tw_m (i := 113) (by decide +kernel) (by decide +kernel)
set_option maxRecDepth 100000 in
theorem tw_114 : Cond.fieldLink RX4 63 "KettleGuild$State" "owners" "[I" ∈ kg_U := tw_m (i := 114) (by decide +kernel) (by decide +kernel)
set_option maxRecDepth 100000 in
theorem tw_115 : Cond.fieldLink RX3 15 "KettleGuild$State" "points" "[I" ∈ kg_U := tw_m (i := 115) (by decide +kernel) (by decide +kernel)
set_option maxRecDepth 100000 in
theorem tw_116 : Cond.fieldLink RX4 183 "KettleGuild$State" "points" "[I" ∈ kg_U := tw_m (i := 116) (by decide +kernel) (by decide +kernel)
set_option maxRecDepth 100000 in
theorem tw_117 : Cond.fieldLink RX3 18 "KettleGuild$State" "boiledDry" "[I" ∈ kg_U := tw_m (i := 117) (by decide +kernel) (by decide +kernel)
set_option maxRecDepth 100000 in
theorem tw_118 : Cond.fieldLink RX4 195 "KettleGuild$State" "boiledDry" "[I" ∈ kg_U := tw_m (i := 118) (by decide +kernel) (by decide +kernel)
set_option maxRecDepth 100000 in
theorem tw_119 : Cond.fieldLink RX3 21 "KettleGuild$State" "appealsMade" "[I" ∈ kg_U := tw_m (i := 119) (by decide +kernel) (by decide +kernel)
set_option maxRecDepth 100000 in
theorem tw_120 : Cond.fieldLink RX4 198 "KettleGuild$State" "appealsMade" "[I" ∈ kg_U := tw_m (i := 120) (by decide +kernel) (by decide +kernel)
set_option maxRecDepth 100000 in
theorem tw_121 : Cond.fieldLink RX3 24 "KettleGuild$State" "heats" "[I" ∈ kg_U := tw_m (i := 121) (by decide +kernel) (by decide +kernel)
set_option maxRecDepth 100000 in
theorem tw_122 : Cond.fieldLink RX4 133 "KettleGuild$State" "heats" "[I" ∈ kg_U := tw_m (i := 122) (by decide +kernel) (by decide +kernel)
set_option maxRecDepth 100000 in
theorem tw_123 : Cond.fieldLink RX3 27 "KettleGuild$State" "members" "[I" ∈ kg_U := tw_m (i := 123) (by decide +kernel) (by decide +kernel)
set_option maxRecDepth 100000 in
theorem tw_124 : Cond.fieldLink RX4 80 "KettleGuild$State" "members" "[I" ∈ kg_U := tw_m (i := 124) (by decide +kernel) (by decide +kernel)
set_option maxRecDepth 100000 in
theorem tw_125 : Cond.fieldLink RX3 30 "KettleGuild$State" "pitches" "[I" ∈ kg_U := tw_m (i := 125) (by decide +kernel) (by decide +kernel)
set_option maxRecDepth 100000 in
theorem tw_126 : Cond.fieldLink RX4 83 "KettleGuild$State" "pitches" "[I" ∈ kg_U := tw_m (i := 126) (by decide +kernel) (by decide +kernel)
set_option maxRecDepth 100000 in
theorem tw_127 : Cond.fieldLink RX3 33 "KettleGuild$State" "waters" "[I" ∈ kg_U := tw_m (i := 127) (by decide +kernel) (by decide +kernel)
set_option maxRecDepth 100000 in
theorem tw_128 : Cond.fieldLink RX4 86 "KettleGuild$State" "waters" "[I" ∈ kg_U := tw_m (i := 128) (by decide +kernel) (by decide +kernel)
set_option maxRecDepth 100000 in
theorem tw_129 : Cond.fieldLink RX3 36 "KettleGuild$State" "temperatures" "[I" ∈ kg_U := tw_m (i := 129) (by decide +kernel) (by decide +kernel)
set_option maxRecDepth 100000 in
theorem tw_130 : Cond.fieldLink RX4 89 "KettleGuild$State" "temperatures" "[I" ∈ kg_U := tw_m (i := 130) (by decide +kernel) (by decide +kernel)
set_option maxRecDepth 100000 in
theorem tw_131 : Cond.fieldLink RX3 39 "KettleGuild$State" "stoves" "[I" ∈ kg_U := tw_m (i := 131) (by decide +kernel) (by decide +kernel)
set_option maxRecDepth 100000 in
theorem tw_132 : Cond.fieldLink RX4 95 "KettleGuild$State" "stoves" "[I" ∈ kg_U := tw_m (i := 132) (by decide +kernel) (by decide +kernel)
set_option maxRecDepth 100000 in
theorem tw_133 : Cond.fieldLink RX3 42 "KettleGuild$State" "bans" "[I" ∈ kg_U := tw_m (i := 133) (by decide +kernel) (by decide +kernel)
set_option maxRecDepth 100000 in
theorem tw_134 : Cond.fieldLink RX4 104 "KettleGuild$State" "bans" "[I" ∈ kg_U := tw_m (i := 134) (by decide +kernel) (by decide +kernel)
set_option maxRecDepth 100000 in
theorem tw_135 : Cond.fieldLink RX3 45 "KettleGuild$State" "lids" "[I" ∈ kg_U := tw_m (i := 135) (by decide +kernel) (by decide +kernel)
set_option maxRecDepth 100000 in
theorem tw_136 : Cond.fieldLink RX4 92 "KettleGuild$State" "lids" "[I" ∈ kg_U := tw_m (i := 136) (by decide +kernel) (by decide +kernel)
set_option maxRecDepth 100000 in
theorem tw_137 : Cond.fieldLink RX3 48 "KettleGuild$State" "bars" "[I" ∈ kg_U := tw_m (i := 137) (by decide +kernel) (by decide +kernel)
set_option maxRecDepth 100000 in
theorem tw_138 : Cond.fieldLink RX4 341 "KettleGuild$State" "bars" "[I" ∈ kg_U := tw_m (i := 138) (by decide +kernel) (by decide +kernel)
set_option maxRecDepth 100000 in
theorem tw_139 : Cond.fieldLink RX3 51 "KettleGuild$State" "appealers" "[I" ∈ kg_U := tw_m (i := 139) (by decide +kernel) (by decide +kernel)
set_option maxRecDepth 100000 in
theorem tw_140 : Cond.fieldLink RX4 107 "KettleGuild$State" "appealers" "[I" ∈ kg_U := tw_m (i := 140) (by decide +kernel) (by decide +kernel)
set_option maxRecDepth 100000 in
theorem tw_141 : Cond.fieldLink RX3 64 "KettleGuild$State" "kettles" "I" ∈ kg_U := tw_m (i := 141) (by decide +kernel) (by decide +kernel)
set_option maxRecDepth 100000 in
theorem tw_142 : Cond.fieldLink RX4 146 "KettleGuild$State" "kettles" "I" ∈ kg_U := tw_m (i := 142) (by decide +kernel) (by decide +kernel)
set_option maxRecDepth 100000 in
theorem tw_143 : Cond.fieldLink RX3 68 "KettleGuild$State" "minutes" "I" ∈ kg_U := tw_m (i := 143) (by decide +kernel) (by decide +kernel)
set_option maxRecDepth 100000 in
theorem tw_144 : Cond.fieldLink RX4 271 "KettleGuild$State" "minutes" "I" ∈ kg_U := tw_m (i := 144) (by decide +kernel) (by decide +kernel)
set_option maxRecDepth 100000 in
theorem tw_145 : Cond.fieldLink RX3 71 "KettleGuild$State" "waterCome" "I" ∈ kg_U := tw_m (i := 145) (by decide +kernel) (by decide +kernel)
set_option maxRecDepth 100000 in
theorem tw_146 : Cond.fieldLink RX4 277 "KettleGuild$State" "waterCome" "I" ∈ kg_U := tw_m (i := 146) (by decide +kernel) (by decide +kernel)
set_option maxRecDepth 100000 in
theorem tw_147 : Cond.fieldLink RX3 74 "KettleGuild$State" "waterGone" "I" ∈ kg_U := tw_m (i := 147) (by decide +kernel) (by decide +kernel)
set_option maxRecDepth 100000 in
theorem tw_148 : Cond.fieldLink RX4 280 "KettleGuild$State" "waterGone" "I" ∈ kg_U := tw_m (i := 148) (by decide +kernel) (by decide +kernel)
set_option maxRecDepth 100000 in
theorem tw_185 : Cond.superclass RX3 "java/lang/Object" ∈ kg_U := tw_m (i := 185) (by decide +kernel) (by decide +kernel)
set_option maxRecDepth 100000 in
theorem tw_186 : Cond.arrayClass .int ∈ kg_U := tw_m (i := 186) (by decide +kernel) (by decide +kernel)
set_option maxRecDepth 100000 in
theorem tw_187 : Cond.classLink RX4 19 RX0 ∈ kg_U := tw_m (i := 187) (by decide +kernel) (by decide +kernel)
set_option maxRecDepth 100000 in
theorem tw_188 : Cond.instantiable RX0 3 ∈ kg_U := tw_m (i := 188) (by decide +kernel) (by decide +kernel)
set_option maxRecDepth 100000 in
theorem tw_189 : Cond.methodLink RX4 21 yX0_init ∈ kg_U := tw_m (i := 189) (by decide +kernel) (by decide +kernel)
set_option maxRecDepth 100000 in
theorem tw_190 : Cond.instanceMethod yX0_init ∈ kg_U := tw_m (i := 190) (by decide +kernel) (by decide +kernel)
set_option maxRecDepth 100000 in
theorem tw_191 : Cond.code yX0_init cX0_init 2 none ∈ kg_U := tw_m (i := 191) (by decide +kernel) (by decide +kernel)
set_option maxRecDepth 100000 in
theorem tw_192 : Cond.methodLink RX0 3 (⟨"java/lang/Object", "<init>", "()V"⟩ : MethodName) ∈ kg_U := tw_m (i := 192) (by decide +kernel) (by decide +kernel)
set_option maxRecDepth 100000 in
theorem tw_193 : Cond.classLink RX0 9 RX3 ∈ kg_U := tw_m (i := 193) (by decide +kernel) (by decide +kernel)
set_option maxRecDepth 100000 in
theorem tw_195 : Cond.methodLink RX0 17 yX3_init ∈ kg_U := tw_m (i := 195) (by decide +kernel) (by decide +kernel)
set_option maxRecDepth 100000 in
theorem tw_196 : Cond.fieldLink RX0 11 "KettleGuild$History" "states" "[LKettleGuild$State;" ∈ kg_U := tw_m (i := 196) (by decide +kernel) (by decide +kernel)
set_option maxRecDepth 100000 in
theorem tw_197 : Cond.fieldLink RX0 18 "KettleGuild$History" "begun" "I" ∈ kg_U := tw_m (i := 197) (by decide +kernel) (by decide +kernel)
set_option maxRecDepth 100000 in
theorem tw_198 : Cond.fieldLink RX0 26 "KettleGuild$History" "count" "I" ∈ kg_U := tw_m (i := 198) (by decide +kernel) (by decide +kernel)
set_option maxRecDepth 100000 in
theorem tw_199 : Cond.fieldLink RX4 287 "KettleGuild$History" "count" "I" ∈ kg_U := tw_m (i := 199) (by decide +kernel) (by decide +kernel)
set_option maxRecDepth 100000 in
theorem tw_206 : Cond.superclass RX0 "java/lang/Object" ∈ kg_U := tw_m (i := 206) (by decide +kernel) (by decide +kernel)
set_option maxRecDepth 100000 in
theorem tw_207 : Cond.classLink RX4 26 RX2 ∈ kg_U := tw_m (i := 207) (by decide +kernel) (by decide +kernel)
set_option maxRecDepth 100000 in
theorem tw_208 : Cond.instantiable RX2 3 ∈ kg_U := tw_m (i := 208) (by decide +kernel) (by decide +kernel)
set_option maxRecDepth 100000 in
theorem tw_210 : Cond.instanceMethod yX2_init ∈ kg_U := tw_m (i := 210) (by decide +kernel) (by decide +kernel)
set_option maxRecDepth 100000 in
theorem tw_211 : Cond.code yX2_init cX2_init 1 none ∈ kg_U := tw_m (i := 211) (by decide +kernel) (by decide +kernel)
set_option maxRecDepth 100000 in
theorem tw_212 : Cond.methodLink RX2 3 (⟨"java/lang/Object", "<init>", "()V"⟩ : MethodName) ∈ kg_U := tw_m (i := 212) (by decide +kernel) (by decide +kernel)
set_option maxRecDepth 100000 in
theorem tw_213 : Cond.fieldLink RX2 9 "KettleGuild$Reasons" "numbers" "[I" ∈ kg_U := tw_m (i := 213) (by decide +kernel) (by decide +kernel)
set_option maxRecDepth 100000 in
theorem tw_214 : Cond.fieldLink RX4 256 "KettleGuild$Reasons" "numbers" "[I" ∈ kg_U := tw_m (i := 214) (by decide +kernel) (by decide +kernel)
set_option maxRecDepth 100000 in
theorem tw_215 : Cond.fieldLink RX2 15 "KettleGuild$Reasons" "details" "[I" ∈ kg_U := tw_m (i := 215) (by decide +kernel) (by decide +kernel)
set_option maxRecDepth 100000 in
theorem tw_216 : Cond.fieldLink RX4 253 "KettleGuild$Reasons" "details" "[I" ∈ kg_U := tw_m (i := 216) (by decide +kernel) (by decide +kernel)
set_option maxRecDepth 100000 in
theorem tw_217 : Cond.fieldLink RX2 18 "KettleGuild$Reasons" "count" "I" ∈ kg_U := tw_m (i := 217) (by decide +kernel) (by decide +kernel)
set_option maxRecDepth 100000 in
theorem tw_218 : Cond.fieldLink RX4 252 "KettleGuild$Reasons" "count" "I" ∈ kg_U := tw_m (i := 218) (by decide +kernel) (by decide +kernel)
set_option maxRecDepth 100000 in
theorem tw_225 : Cond.superclass RX2 "java/lang/Object" ∈ kg_U := tw_m (i := 225) (by decide +kernel) (by decide +kernel)
set_option maxRecDepth 100000 in
theorem tw_226 : Cond.classLink RX4 33 RX1 ∈ kg_U := tw_m (i := 226) (by decide +kernel) (by decide +kernel)
set_option maxRecDepth 100000 in
theorem tw_227 : Cond.instantiable RX1 6 ∈ kg_U := tw_m (i := 227) (by decide +kernel) (by decide +kernel)
set_option maxRecDepth 100000 in
theorem tw_229 : Cond.instanceMethod yX1_init ∈ kg_U := tw_m (i := 229) (by decide +kernel) (by decide +kernel)
set_option maxRecDepth 100000 in
theorem tw_230 : Cond.code yX1_init cX1_init 1 none ∈ kg_U := tw_m (i := 230) (by decide +kernel) (by decide +kernel)
set_option maxRecDepth 100000 in
theorem tw_231 : Cond.methodLink RX1 3 (⟨"java/lang/Object", "<init>", "()V"⟩ : MethodName) ∈ kg_U := tw_m (i := 231) (by decide +kernel) (by decide +kernel)
set_option maxRecDepth 100000 in
theorem tw_232 : Cond.fieldLink RX1 9 "KettleGuild$Orders" "text" "[C" ∈ kg_U := tw_m (i := 232) (by decide +kernel) (by decide +kernel)
set_option maxRecDepth 100000 in
theorem tw_233 : Cond.fieldLink RX1 15 "KettleGuild$Orders" "kinds" "[I" ∈ kg_U := tw_m (i := 233) (by decide +kernel) (by decide +kernel)
set_option maxRecDepth 100000 in
theorem tw_234 : Cond.fieldLink RX1 19 "KettleGuild$Orders" "numbers" "[I" ∈ kg_U := tw_m (i := 234) (by decide +kernel) (by decide +kernel)
set_option maxRecDepth 100000 in
theorem tw_235 : Cond.fieldLink RX1 29 "KettleGuild$Orders" "place" "I" ∈ kg_U := tw_m (i := 235) (by decide +kernel) (by decide +kernel)
set_option maxRecDepth 100000 in
theorem tw_236 : Cond.fieldLink RX1 22 "KettleGuild$Orders" "length" "I" ∈ kg_U := tw_m (i := 236) (by decide +kernel) (by decide +kernel)
set_option maxRecDepth 100000 in
theorem tw_237 : Cond.fieldLink RX4 211 "KettleGuild$Orders" "length" "I" ∈ kg_U := tw_m (i := 237) (by decide +kernel) (by decide +kernel)
set_option maxRecDepth 100000 in
theorem tw_238 : Cond.fieldLink RX1 26 "KettleGuild$Orders" "count" "I" ∈ kg_U := tw_m (i := 238) (by decide +kernel) (by decide +kernel)
set_option maxRecDepth 100000 in
theorem tw_239 : Cond.fieldLink RX4 220 "KettleGuild$Orders" "count" "I" ∈ kg_U := tw_m (i := 239) (by decide +kernel) (by decide +kernel)
set_option maxRecDepth 100000 in
theorem tw_252 : Cond.superclass RX1 "java/lang/Object" ∈ kg_U := tw_m (i := 252) (by decide +kernel) (by decide +kernel)
set_option maxRecDepth 100000 in
theorem tw_253 : Cond.arrayClass .char ∈ kg_U := tw_m (i := 253) (by decide +kernel) (by decide +kernel)
set_option maxRecDepth 100000 in
theorem tw_254 : Cond.classLink RX4 40 RJ4 ∈ kg_U := tw_m (i := 254) (by decide +kernel) (by decide +kernel)
set_option maxRecDepth 100000 in
theorem tw_255 : Cond.instantiable RJ4 4 ∈ kg_U := tw_m (i := 255) (by decide +kernel) (by decide +kernel)
set_option maxRecDepth 100000 in
theorem tw_256 : Cond.methodLink RX4 42 yJ4_init_da8c8 ∈ kg_U := tw_m (i := 256) (by decide +kernel) (by decide +kernel)
set_option maxRecDepth 100000 in
theorem tw_257 : Cond.instanceMethod yJ4_init_da8c8 ∈ kg_U := tw_m (i := 257) (by decide +kernel) (by decide +kernel)
set_option maxRecDepth 100000 in
theorem tw_258 : Cond.code yJ4_init_da8c8 cJ4_init_da8c8 1 none ∈ kg_U := tw_m (i := 258) (by decide +kernel) (by decide +kernel)
set_option maxRecDepth 100000 in
theorem tw_259 : Cond.methodLink RJ4 1 yJ5_init_d00df ∈ kg_U := tw_m (i := 259) (by decide +kernel) (by decide +kernel)
set_option maxRecDepth 100000 in
theorem tw_260 : Cond.instanceMethod yJ5_init_d00df ∈ kg_U := tw_m (i := 260) (by decide +kernel) (by decide +kernel)
set_option maxRecDepth 100000 in
theorem tw_261 : Cond.code yJ5_init_d00df cJ5_init_d00df 2 none ∈ kg_U := tw_m (i := 261) (by decide +kernel) (by decide +kernel)
set_option maxRecDepth 100000 in
theorem tw_262 : Cond.methodLink RJ5 3 (⟨"java/lang/Object", "<init>", "()V"⟩ : MethodName) ∈ kg_U := tw_m (i := 262) (by decide +kernel) (by decide +kernel)
set_option maxRecDepth 100000 in
theorem tw_263 : Cond.fieldLink RJ5 18 "java/lang/String" "COMPACT_STRINGS" "Z" ∈ kg_U := tw_m (i := 263) (by decide +kernel) (by decide +kernel)
set_option maxRecDepth 100000 in
theorem tw_265 : Cond.methodLink RJ5 26 yJ2_newBytesFor_77867 ∈ kg_U := tw_m (i := 265) (by decide +kernel) (by decide +kernel)
set_option maxRecDepth 100000 in
theorem tw_266 : Cond.static yJ2_newBytesFor_77867 ∈ kg_U := tw_m (i := 266) (by decide +kernel) (by decide +kernel)
set_option maxRecDepth 100000 in
theorem tw_267 : Cond.code yJ2_newBytesFor_77867 cJ2_newBytesFor_77867 1 (some (.array .byte)) ∈ kg_U := tw_m (i := 267) (by decide +kernel) (by decide +kernel)
set_option maxRecDepth 100000 in
theorem tw_268 : Cond.methodLink RJ2 11 yJ2_newBytesLength_0f7a4 ∈ kg_U := tw_m (i := 268) (by decide +kernel) (by decide +kernel)
set_option maxRecDepth 100000 in
theorem tw_269 : Cond.static yJ2_newBytesLength_0f7a4 ∈ kg_U := tw_m (i := 269) (by decide +kernel) (by decide +kernel)
set_option maxRecDepth 100000 in
theorem tw_270 : Cond.code yJ2_newBytesLength_0f7a4 cJ2_newBytesLength_0f7a4 1 (some .int) ∈ kg_U := tw_m (i := 270) (by decide +kernel) (by decide +kernel)
set_option maxRecDepth 100000 in
theorem tw_271 : Cond.constant RJ2 20 (1073741823 : Int32) ∈ kg_U := tw_m (i := 271) (by decide +kernel) (by decide +kernel)
set_option maxRecDepth 100000 in
theorem tw_272 : Cond.fieldLink RJ5 15 "java/lang/AbstractStringBuilder" "value" "[B" ∈ kg_U := tw_m (i := 272) (by decide +kernel) (by decide +kernel)
set_option maxRecDepth 100000 in
theorem tw_273 : Cond.fieldLink RJ5 22 "java/lang/AbstractStringBuilder" "coder" "B" ∈ kg_U := tw_m (i := 273) (by decide +kernel) (by decide +kernel)
set_option maxRecDepth 100000 in
theorem tw_274 : Cond.fieldLink RJ5 73 "java/lang/AbstractStringBuilder" "maybeLatin1" "Z" ∈ kg_U := tw_m (i := 274) (by decide +kernel) (by decide +kernel)
set_option maxRecDepth 100000 in
theorem tw_275 : Cond.fieldLink RJ5 79 "java/lang/AbstractStringBuilder" "count" "I" ∈ kg_U := tw_m (i := 275) (by decide +kernel) (by decide +kernel)
set_option maxRecDepth 100000 in
theorem tw_284 : Cond.superclass RJ4 RJ5 ∈ kg_U := tw_m (i := 284) (by decide +kernel) (by decide +kernel)
set_option maxRecDepth 100000 in
theorem tw_285 : Cond.arrayClass .byte ∈ kg_U := tw_m (i := 285) (by decide +kernel) (by decide +kernel)
set_option maxRecDepth 100000 in
theorem tw_286 : Cond.fieldLink RX4 10 "KettleGuild" "now" "LKettleGuild$State;" ∈ kg_U := tw_m (i := 286) (by decide +kernel) (by decide +kernel)
set_option maxRecDepth 100000 in
theorem tw_287 : Cond.fieldLink RX4 16 "KettleGuild" "snapshot" "LKettleGuild$State;" ∈ kg_U := tw_m (i := 287) (by decide +kernel) (by decide +kernel)
set_option maxRecDepth 100000 in
theorem tw_288 : Cond.fieldLink RX4 22 "KettleGuild" "history" "LKettleGuild$History;" ∈ kg_U := tw_m (i := 288) (by decide +kernel) (by decide +kernel)
set_option maxRecDepth 100000 in
theorem tw_289 : Cond.fieldLink RX4 29 "KettleGuild" "reasons" "LKettleGuild$Reasons;" ∈ kg_U := tw_m (i := 289) (by decide +kernel) (by decide +kernel)
set_option maxRecDepth 100000 in
theorem tw_290 : Cond.fieldLink RX4 36 "KettleGuild" "orders" "LKettleGuild$Orders;" ∈ kg_U := tw_m (i := 290) (by decide +kernel) (by decide +kernel)
set_option maxRecDepth 100000 in
theorem tw_291 : Cond.fieldLink RX4 43 "KettleGuild" "line" "Ljava/lang/StringBuilder;" ∈ kg_U := tw_m (i := 291) (by decide +kernel) (by decide +kernel)
set_option maxRecDepth 100000 in
theorem tw_292 : Cond.fieldLink RX4 307 "KettleGuild" "isSaved" "Z" ∈ kg_U := tw_m (i := 292) (by decide +kernel) (by decide +kernel)
set_option maxRecDepth 100000 in
theorem tw_307 : Cond.superclass RX4 "java/lang/Object" ∈ kg_U := tw_m (i := 307) (by decide +kernel) (by decide +kernel)
set_option maxRecDepth 100000 in
theorem tw_308 : Cond.methodLink RL 13 yX4_own ∈ kg_U := tw_m (i := 308) (by decide +kernel) (by decide +kernel)
set_option maxRecDepth 100000 in
theorem tw_309 : Cond.instanceMethod yX4_own ∈ kg_U := tw_m (i := 309) (by decide +kernel) (by decide +kernel)
set_option maxRecDepth 100000 in
theorem tw_310 : Cond.selects RX4 yX4_own yX4_own ∈ kg_U := tw_m (i := 310) (by decide +kernel) (by decide +kernel)
set_option maxRecDepth 100000 in
theorem tw_311 : Cond.code yX4_own cX4_own 3 (some .int) ∈ kg_U := tw_m (i := 311) (by decide +kernel) (by decide +kernel)
set_option maxRecDepth 100000 in
theorem tw_312 : Cond.methodLink RX4 47 yX0_begin ∈ kg_U := tw_m (i := 312) (by decide +kernel) (by decide +kernel)
set_option maxRecDepth 100000 in
theorem tw_313 : Cond.instanceMethod yX0_begin ∈ kg_U := tw_m (i := 313) (by decide +kernel) (by decide +kernel)
set_option maxRecDepth 100000 in
theorem tw_314 : Cond.selects RX0 yX0_begin yX0_begin ∈ kg_U := tw_m (i := 314) (by decide +kernel) (by decide +kernel)
set_option maxRecDepth 100000 in
theorem tw_315 : Cond.code yX0_begin cX0_begin 2 none ∈ kg_U := tw_m (i := 315) (by decide +kernel) (by decide +kernel)
set_option maxRecDepth 100000 in
theorem tw_316 : Cond.methodLink RX0 22 yX3_copyFrom ∈ kg_U := tw_m (i := 316) (by decide +kernel) (by decide +kernel)
set_option maxRecDepth 100000 in
theorem tw_317 : Cond.instanceMethod yX3_copyFrom ∈ kg_U := tw_m (i := 317) (by decide +kernel) (by decide +kernel)
set_option maxRecDepth 100000 in
theorem tw_318 : Cond.selects RX3 yX3_copyFrom yX3_copyFrom ∈ kg_U := tw_m (i := 318) (by decide +kernel) (by decide +kernel)
set_option maxRecDepth 100000 in
theorem tw_319 : Cond.code yX3_copyFrom cX3_copyFrom 2 none ∈ kg_U := tw_m (i := 319) (by decide +kernel) (by decide +kernel)
set_option maxRecDepth 100000 in
theorem tw_320 : Cond.methodLink RX3 60 yX3_copyRow ∈ kg_U := tw_m (i := 320) (by decide +kernel) (by decide +kernel)
set_option maxRecDepth 100000 in
theorem tw_321 : Cond.static yX3_copyRow ∈ kg_U := tw_m (i := 321) (by decide +kernel) (by decide +kernel)
set_option maxRecDepth 100000 in
theorem tw_322 : Cond.code yX3_copyRow cX3_copyRow 2 none ∈ kg_U := tw_m (i := 322) (by decide +kernel) (by decide +kernel)
set_option maxRecDepth 100000 in
theorem tw_323 : Cond.methodLink RX3 77 yJ9_min_7cf53 ∈ kg_U := tw_m (i := 323) (by decide +kernel) (by decide +kernel)
set_option maxRecDepth 100000 in
theorem tw_324 : Cond.static yJ9_min_7cf53 ∈ kg_U := tw_m (i := 324) (by decide +kernel) (by decide +kernel)
set_option maxRecDepth 100000 in
theorem tw_325 : Cond.code yJ9_min_7cf53 cJ9_min_7cf53 2 (some .int) ∈ kg_U := tw_m (i := 325) (by decide +kernel) (by decide +kernel)
set_option maxRecDepth 100000 in
theorem tw_326 : Cond.methodLink RX3 83 (⟨"java/lang/System", "arraycopy", "(Ljava/lang/Object;ILjava/lang/Object;II)V"⟩ : MethodName) ∈ kg_U := tw_m (i := 326) (by decide +kernel) (by decide +kernel)
set_option maxRecDepth 100000 in
theorem tw_327 : Cond.static (⟨"java/lang/System", "arraycopy", "(Ljava/lang/Object;ILjava/lang/Object;II)V"⟩ : MethodName) ∈ kg_U := tw_m (i := 327) (by decide +kernel) (by decide +kernel)
set_option maxRecDepth 100000 in
theorem tw_328 : Cond.native (⟨"java/lang/System", "arraycopy", "(Ljava/lang/Object;ILjava/lang/Object;II)V"⟩ : MethodName) ∈ kg_U := tw_m (i := 328) (by decide +kernel) (by decide +kernel)
set_option maxRecDepth 100000 in
theorem tw_329 : Cond.methodLink RX4 51 yX4_takePitch ∈ kg_U := tw_m (i := 329) (by decide +kernel) (by decide +kernel)
set_option maxRecDepth 100000 in
theorem tw_331 : Cond.instanceMethod yX4_takePitch ∈ kg_U := tw_m (i := 331) (by decide +kernel) (by decide +kernel)
set_option maxRecDepth 100000 in
theorem tw_332 : Cond.code yX4_takePitch cX4_takePitch 4 (some .int) ∈ kg_U := tw_m (i := 332) (by decide +kernel) (by decide +kernel)
set_option maxRecDepth 100000 in
theorem tw_333 : Cond.methodLink RX4 180 yX4_isMember ∈ kg_U := tw_m (i := 333) (by decide +kernel) (by decide +kernel)
set_option maxRecDepth 100000 in
theorem tw_334 : Cond.static yX4_isMember ∈ kg_U := tw_m (i := 334) (by decide +kernel) (by decide +kernel)
set_option maxRecDepth 100000 in
theorem tw_335 : Cond.code yX4_isMember cX4_isMember 1 (some .boolean) ∈ kg_U := tw_m (i := 335) (by decide +kernel) (by decide +kernel)
set_option maxRecDepth 100000 in
theorem tw_336 : Cond.methodLink RX4 59 yX4_isPitch ∈ kg_U := tw_m (i := 336) (by decide +kernel) (by decide +kernel)
set_option maxRecDepth 100000 in
theorem tw_337 : Cond.static yX4_isPitch ∈ kg_U := tw_m (i := 337) (by decide +kernel) (by decide +kernel)
set_option maxRecDepth 100000 in
theorem tw_338 : Cond.code yX4_isPitch cX4_isPitch 1 (some .boolean) ∈ kg_U := tw_m (i := 338) (by decide +kernel) (by decide +kernel)
set_option maxRecDepth 100000 in
theorem tw_339 : Cond.methodLink RX4 329 yX4_refuse ∈ kg_U := tw_m (i := 339) (by decide +kernel) (by decide +kernel)
set_option maxRecDepth 100000 in
theorem tw_341 : Cond.instanceMethod yX4_refuse ∈ kg_U := tw_m (i := 341) (by decide +kernel) (by decide +kernel)
set_option maxRecDepth 100000 in
theorem tw_342 : Cond.code yX4_refuse cX4_refuse 3 (some .int) ∈ kg_U := tw_m (i := 342) (by decide +kernel) (by decide +kernel)
set_option maxRecDepth 100000 in
theorem tw_343 : Cond.methodLink RX4 359 yX2_putAhead ∈ kg_U := tw_m (i := 343) (by decide +kernel) (by decide +kernel)
set_option maxRecDepth 100000 in
theorem tw_344 : Cond.instanceMethod yX2_putAhead ∈ kg_U := tw_m (i := 344) (by decide +kernel) (by decide +kernel)
set_option maxRecDepth 100000 in
theorem tw_345 : Cond.selects RX2 yX2_putAhead yX2_putAhead ∈ kg_U := tw_m (i := 345) (by decide +kernel) (by decide +kernel)
set_option maxRecDepth 100000 in
theorem tw_346 : Cond.code yX2_putAhead cX2_putAhead 4 none ∈ kg_U := tw_m (i := 346) (by decide +kernel) (by decide +kernel)
set_option maxRecDepth 100000 in
theorem tw_347 : Cond.methodLink RX2 22 yJ9_min_7cf53 ∈ kg_U := tw_m (i := 347) (by decide +kernel) (by decide +kernel)
set_option maxRecDepth 100000 in
theorem tw_348 : Cond.methodLink RX4 186 yX3_countPitchesOf ∈ kg_U := tw_m (i := 348) (by decide +kernel) (by decide +kernel)
set_option maxRecDepth 100000 in
theorem tw_349 : Cond.instanceMethod yX3_countPitchesOf ∈ kg_U := tw_m (i := 349) (by decide +kernel) (by decide +kernel)
set_option maxRecDepth 100000 in
theorem tw_350 : Cond.selects RX3 yX3_countPitchesOf yX3_countPitchesOf ∈ kg_U := tw_m (i := 350) (by decide +kernel) (by decide +kernel)
set_option maxRecDepth 100000 in
theorem tw_351 : Cond.code yX3_countPitchesOf cX3_countPitchesOf 4 (some .int) ∈ kg_U := tw_m (i := 351) (by decide +kernel) (by decide +kernel)
set_option maxRecDepth 100000 in
theorem tw_352 : Cond.methodLink RX4 55 yX4_settle ∈ kg_U := tw_m (i := 352) (by decide +kernel) (by decide +kernel)
set_option maxRecDepth 100000 in
theorem tw_354 : Cond.instanceMethod yX4_settle ∈ kg_U := tw_m (i := 354) (by decide +kernel) (by decide +kernel)
set_option maxRecDepth 100000 in
theorem tw_355 : Cond.code yX4_settle cX4_settle 2 (some .int) ∈ kg_U := tw_m (i := 355) (by decide +kernel) (by decide +kernel)
set_option maxRecDepth 100000 in
theorem tw_356 : Cond.methodLink RX4 326 yX0_keepBegun ∈ kg_U := tw_m (i := 356) (by decide +kernel) (by decide +kernel)
set_option maxRecDepth 100000 in
theorem tw_357 : Cond.instanceMethod yX0_keepBegun ∈ kg_U := tw_m (i := 357) (by decide +kernel) (by decide +kernel)
set_option maxRecDepth 100000 in
theorem tw_358 : Cond.selects RX0 yX0_keepBegun yX0_keepBegun ∈ kg_U := tw_m (i := 358) (by decide +kernel) (by decide +kernel)
set_option maxRecDepth 100000 in
theorem tw_359 : Cond.code yX0_keepBegun cX0_keepBegun 1 none ∈ kg_U := tw_m (i := 359) (by decide +kernel) (by decide +kernel)
set_option maxRecDepth 100000 in
theorem tw_360 : Cond.methodLink RX0 29 yJ9_min_7cf53 ∈ kg_U := tw_m (i := 360) (by decide +kernel) (by decide +kernel)
set_option maxRecDepth 100000 in
theorem tw_361 : Cond.methodLink RL 18 yX4_owner ∈ kg_U := tw_m (i := 361) (by decide +kernel) (by decide +kernel)
set_option maxRecDepth 100000 in
theorem tw_362 : Cond.instanceMethod yX4_owner ∈ kg_U := tw_m (i := 362) (by decide +kernel) (by decide +kernel)
set_option maxRecDepth 100000 in
theorem tw_363 : Cond.selects RX4 yX4_owner yX4_owner ∈ kg_U := tw_m (i := 363) (by decide +kernel) (by decide +kernel)
set_option maxRecDepth 100000 in
theorem tw_364 : Cond.code yX4_owner cX4_owner 2 (some .int) ∈ kg_U := tw_m (i := 364) (by decide +kernel) (by decide +kernel)
set_option maxRecDepth 100000 in
theorem tw_365 : Cond.methodLink RX4 67 yX4_orNothing ∈ kg_U := tw_m (i := 365) (by decide +kernel) (by decide +kernel)
set_option maxRecDepth 100000 in
theorem tw_366 : Cond.static yX4_orNothing ∈ kg_U := tw_m (i := 366) (by decide +kernel) (by decide +kernel)
set_option maxRecDepth 100000 in
theorem tw_367 : Cond.code yX4_orNothing cX4_orNothing 1 (some .int) ∈ kg_U := tw_m (i := 367) (by decide +kernel) (by decide +kernel)
set_option maxRecDepth 100000 in
theorem tw_368 : Cond.methodLink RL 23 yX4_kettle ∈ kg_U := tw_m (i := 368) (by decide +kernel) (by decide +kernel)
set_option maxRecDepth 100000 in
theorem tw_369 : Cond.instanceMethod yX4_kettle ∈ kg_U := tw_m (i := 369) (by decide +kernel) (by decide +kernel)
set_option maxRecDepth 100000 in
theorem tw_370 : Cond.selects RX4 yX4_kettle yX4_kettle ∈ kg_U := tw_m (i := 370) (by decide +kernel) (by decide +kernel)
set_option maxRecDepth 100000 in
theorem tw_371 : Cond.code yX4_kettle cX4_kettle 4 (some .int) ∈ kg_U := tw_m (i := 371) (by decide +kernel) (by decide +kernel)
set_option maxRecDepth 100000 in
theorem tw_372 : Cond.methodLink RX4 70 yX4_bringKettle ∈ kg_U := tw_m (i := 372) (by decide +kernel) (by decide +kernel)
set_option maxRecDepth 100000 in
theorem tw_374 : Cond.instanceMethod yX4_bringKettle ∈ kg_U := tw_m (i := 374) (by decide +kernel) (by decide +kernel)
set_option maxRecDepth 100000 in
theorem tw_375 : Cond.code yX4_bringKettle cX4_bringKettle 4 (some .int) ∈ kg_U := tw_m (i := 375) (by decide +kernel) (by decide +kernel)
set_option maxRecDepth 100000 in
theorem tw_376 : Cond.methodLink RX4 332 yX3_addKettle ∈ kg_U := tw_m (i := 376) (by decide +kernel) (by decide +kernel)
set_option maxRecDepth 100000 in
theorem tw_377 : Cond.instanceMethod yX3_addKettle ∈ kg_U := tw_m (i := 377) (by decide +kernel) (by decide +kernel)
set_option maxRecDepth 100000 in
theorem tw_378 : Cond.selects RX3 yX3_addKettle yX3_addKettle ∈ kg_U := tw_m (i := 378) (by decide +kernel) (by decide +kernel)
set_option maxRecDepth 100000 in
theorem tw_379 : Cond.code yX3_addKettle cX3_addKettle 5 (some .int) ∈ kg_U := tw_m (i := 379) (by decide +kernel) (by decide +kernel)
set_option maxRecDepth 100000 in
theorem tw_380 : Cond.methodLink RL 28 yX4_fill ∈ kg_U := tw_m (i := 380) (by decide +kernel) (by decide +kernel)
set_option maxRecDepth 100000 in
theorem tw_381 : Cond.instanceMethod yX4_fill ∈ kg_U := tw_m (i := 381) (by decide +kernel) (by decide +kernel)
set_option maxRecDepth 100000 in
theorem tw_382 : Cond.selects RX4 yX4_fill yX4_fill ∈ kg_U := tw_m (i := 382) (by decide +kernel) (by decide +kernel)
set_option maxRecDepth 100000 in
theorem tw_383 : Cond.code yX4_fill cX4_fill 3 (some .int) ∈ kg_U := tw_m (i := 383) (by decide +kernel) (by decide +kernel)
set_option maxRecDepth 100000 in
theorem tw_384 : Cond.methodLink RX4 74 yX4_pourWater ∈ kg_U := tw_m (i := 384) (by decide +kernel) (by decide +kernel)
set_option maxRecDepth 100000 in
theorem tw_386 : Cond.instanceMethod yX4_pourWater ∈ kg_U := tw_m (i := 386) (by decide +kernel) (by decide +kernel)
set_option maxRecDepth 100000 in
theorem tw_387 : Cond.code yX4_pourWater cX4_pourWater 4 (some .int) ∈ kg_U := tw_m (i := 387) (by decide +kernel) (by decide +kernel)
set_option maxRecDepth 100000 in
theorem tw_388 : Cond.methodLink RX4 77 yX4_isKettle ∈ kg_U := tw_m (i := 388) (by decide +kernel) (by decide +kernel)
set_option maxRecDepth 100000 in
theorem tw_390 : Cond.instanceMethod yX4_isKettle ∈ kg_U := tw_m (i := 390) (by decide +kernel) (by decide +kernel)
set_option maxRecDepth 100000 in
theorem tw_391 : Cond.code yX4_isKettle cX4_isKettle 2 (some .boolean) ∈ kg_U := tw_m (i := 391) (by decide +kernel) (by decide +kernel)
set_option maxRecDepth 100000 in
theorem tw_392 : Cond.methodLink RL 32 yX4_kettleOf ∈ kg_U := tw_m (i := 392) (by decide +kernel) (by decide +kernel)
set_option maxRecDepth 100000 in
theorem tw_393 : Cond.instanceMethod yX4_kettleOf ∈ kg_U := tw_m (i := 393) (by decide +kernel) (by decide +kernel)
set_option maxRecDepth 100000 in
theorem tw_394 : Cond.selects RX4 yX4_kettleOf yX4_kettleOf ∈ kg_U := tw_m (i := 394) (by decide +kernel) (by decide +kernel)
set_option maxRecDepth 100000 in
theorem tw_395 : Cond.code yX4_kettleOf cX4_kettleOf 3 (some .int) ∈ kg_U := tw_m (i := 395) (by decide +kernel) (by decide +kernel)
set_option maxRecDepth 100000 in
theorem tw_396 : Cond.methodLink RX4 98 yX3_boils ∈ kg_U := tw_m (i := 396) (by decide +kernel) (by decide +kernel)
set_option maxRecDepth 100000 in
theorem tw_397 : Cond.instanceMethod yX3_boils ∈ kg_U := tw_m (i := 397) (by decide +kernel) (by decide +kernel)
set_option maxRecDepth 100000 in
theorem tw_398 : Cond.selects RX3 yX3_boils yX3_boils ∈ kg_U := tw_m (i := 398) (by decide +kernel) (by decide +kernel)
set_option maxRecDepth 100000 in
theorem tw_399 : Cond.code yX3_boils cX3_boils 2 (some .boolean) ∈ kg_U := tw_m (i := 399) (by decide +kernel) (by decide +kernel)
set_option maxRecDepth 100000 in
theorem tw_400 : Cond.methodLink RX3 106 yX3_heatUnder ∈ kg_U := tw_m (i := 400) (by decide +kernel) (by decide +kernel)
set_option maxRecDepth 100000 in
theorem tw_401 : Cond.instanceMethod yX3_heatUnder ∈ kg_U := tw_m (i := 401) (by decide +kernel) (by decide +kernel)
set_option maxRecDepth 100000 in
theorem tw_402 : Cond.selects RX3 yX3_heatUnder yX3_heatUnder ∈ kg_U := tw_m (i := 402) (by decide +kernel) (by decide +kernel)
set_option maxRecDepth 100000 in
theorem tw_403 : Cond.code yX3_heatUnder cX3_heatUnder 3 (some .int) ∈ kg_U := tw_m (i := 403) (by decide +kernel) (by decide +kernel)
set_option maxRecDepth 100000 in
theorem tw_404 : Cond.methodLink RX4 101 yX3_whistles ∈ kg_U := tw_m (i := 404) (by decide +kernel) (by decide +kernel)
set_option maxRecDepth 100000 in
theorem tw_405 : Cond.instanceMethod yX3_whistles ∈ kg_U := tw_m (i := 405) (by decide +kernel) (by decide +kernel)
set_option maxRecDepth 100000 in
theorem tw_406 : Cond.selects RX3 yX3_whistles yX3_whistles ∈ kg_U := tw_m (i := 406) (by decide +kernel) (by decide +kernel)
set_option maxRecDepth 100000 in
theorem tw_407 : Cond.code yX3_whistles cX3_whistles 2 (some .boolean) ∈ kg_U := tw_m (i := 407) (by decide +kernel) (by decide +kernel)
set_option maxRecDepth 100000 in
theorem tw_408 : Cond.methodLink RX3 110 yX3_whistlers ∈ kg_U := tw_m (i := 408) (by decide +kernel) (by decide +kernel)
set_option maxRecDepth 100000 in
theorem tw_409 : Cond.instanceMethod yX3_whistlers ∈ kg_U := tw_m (i := 409) (by decide +kernel) (by decide +kernel)
set_option maxRecDepth 100000 in
theorem tw_410 : Cond.selects RX3 yX3_whistlers yX3_whistlers ∈ kg_U := tw_m (i := 410) (by decide +kernel) (by decide +kernel)
set_option maxRecDepth 100000 in
theorem tw_411 : Cond.code yX3_whistlers cX3_whistlers 3 (some .int) ∈ kg_U := tw_m (i := 411) (by decide +kernel) (by decide +kernel)
set_option maxRecDepth 100000 in
theorem tw_412 : Cond.methodLink RX3 93 yX3_boils ∈ kg_U := tw_m (i := 412) (by decide +kernel) (by decide +kernel)
set_option maxRecDepth 100000 in
theorem tw_414 : Cond.static yX4_isIn ∈ kg_U := tw_m (i := 414) (by decide +kernel) (by decide +kernel)
set_option maxRecDepth 100000 in
theorem tw_415 : Cond.code yX4_isIn cX4_isIn 2 (some .boolean) ∈ kg_U := tw_m (i := 415) (by decide +kernel) (by decide +kernel)
set_option maxRecDepth 100000 in
theorem tw_416 : Cond.methodLink RX4 110 yJ6_bitCount_0f7a4 ∈ kg_U := tw_m (i := 416) (by decide +kernel) (by decide +kernel)
set_option maxRecDepth 100000 in
theorem tw_417 : Cond.static yJ6_bitCount_0f7a4 ∈ kg_U := tw_m (i := 417) (by decide +kernel) (by decide +kernel)
set_option maxRecDepth 100000 in
theorem tw_418 : Cond.code yJ6_bitCount_0f7a4 cJ6_bitCount_0f7a4 1 (some .int) ∈ kg_U := tw_m (i := 418) (by decide +kernel) (by decide +kernel)
set_option maxRecDepth 100000 in
theorem tw_419 : Cond.constant RJ6 265 (1431655765 : Int32) ∈ kg_U := tw_m (i := 419) (by decide +kernel) (by decide +kernel)
set_option maxRecDepth 100000 in
theorem tw_420 : Cond.constant RJ6 266 (858993459 : Int32) ∈ kg_U := tw_m (i := 420) (by decide +kernel) (by decide +kernel)
set_option maxRecDepth 100000 in
theorem tw_421 : Cond.constant RJ6 267 (252645135 : Int32) ∈ kg_U := tw_m (i := 421) (by decide +kernel) (by decide +kernel)
set_option maxRecDepth 100000 in
theorem tw_422 : Cond.methodLink RL 36 yX4_set ∈ kg_U := tw_m (i := 422) (by decide +kernel) (by decide +kernel)
set_option maxRecDepth 100000 in
theorem tw_423 : Cond.instanceMethod yX4_set ∈ kg_U := tw_m (i := 423) (by decide +kernel) (by decide +kernel)
set_option maxRecDepth 100000 in
theorem tw_424 : Cond.selects RX4 yX4_set yX4_set ∈ kg_U := tw_m (i := 424) (by decide +kernel) (by decide +kernel)
set_option maxRecDepth 100000 in
theorem tw_425 : Cond.code yX4_set cX4_set 3 (some .int) ∈ kg_U := tw_m (i := 425) (by decide +kernel) (by decide +kernel)
set_option maxRecDepth 100000 in
theorem tw_426 : Cond.methodLink RX4 115 yX4_putOnStove ∈ kg_U := tw_m (i := 426) (by decide +kernel) (by decide +kernel)
set_option maxRecDepth 100000 in
theorem tw_428 : Cond.instanceMethod yX4_putOnStove ∈ kg_U := tw_m (i := 428) (by decide +kernel) (by decide +kernel)
set_option maxRecDepth 100000 in
theorem tw_429 : Cond.code yX4_putOnStove cX4_putOnStove 5 (some .int) ∈ kg_U := tw_m (i := 429) (by decide +kernel) (by decide +kernel)
set_option maxRecDepth 100000 in
theorem tw_430 : Cond.methodLink RX4 130 yX4_isStove ∈ kg_U := tw_m (i := 430) (by decide +kernel) (by decide +kernel)
set_option maxRecDepth 100000 in
theorem tw_431 : Cond.static yX4_isStove ∈ kg_U := tw_m (i := 431) (by decide +kernel) (by decide +kernel)
set_option maxRecDepth 100000 in
theorem tw_432 : Cond.code yX4_isStove cX4_isStove 1 (some .boolean) ∈ kg_U := tw_m (i := 432) (by decide +kernel) (by decide +kernel)
set_option maxRecDepth 100000 in
theorem tw_433 : Cond.methodLink RX4 335 yX4_refuseStove ∈ kg_U := tw_m (i := 433) (by decide +kernel) (by decide +kernel)
set_option maxRecDepth 100000 in
theorem tw_435 : Cond.instanceMethod yX4_refuseStove ∈ kg_U := tw_m (i := 435) (by decide +kernel) (by decide +kernel)
set_option maxRecDepth 100000 in
theorem tw_436 : Cond.code yX4_refuseStove cX4_refuseStove 4 (some .int) ∈ kg_U := tw_m (i := 436) (by decide +kernel) (by decide +kernel)
set_option maxRecDepth 100000 in
theorem tw_437 : Cond.methodLink RX4 136 yX3_kettleOn ∈ kg_U := tw_m (i := 437) (by decide +kernel) (by decide +kernel)
set_option maxRecDepth 100000 in
theorem tw_438 : Cond.instanceMethod yX3_kettleOn ∈ kg_U := tw_m (i := 438) (by decide +kernel) (by decide +kernel)
set_option maxRecDepth 100000 in
theorem tw_439 : Cond.selects RX3 yX3_kettleOn yX3_kettleOn ∈ kg_U := tw_m (i := 439) (by decide +kernel) (by decide +kernel)
set_option maxRecDepth 100000 in
theorem tw_440 : Cond.code yX3_kettleOn cX3_kettleOn 3 (some .int) ∈ kg_U := tw_m (i := 440) (by decide +kernel) (by decide +kernel)
set_option maxRecDepth 100000 in
theorem tw_441 : Cond.methodLink RX4 338 yX3_stoveWithPitch ∈ kg_U := tw_m (i := 441) (by decide +kernel) (by decide +kernel)
set_option maxRecDepth 100000 in
theorem tw_442 : Cond.instanceMethod yX3_stoveWithPitch ∈ kg_U := tw_m (i := 442) (by decide +kernel) (by decide +kernel)
set_option maxRecDepth 100000 in
theorem tw_443 : Cond.selects RX3 yX3_stoveWithPitch yX3_stoveWithPitch ∈ kg_U := tw_m (i := 443) (by decide +kernel) (by decide +kernel)
set_option maxRecDepth 100000 in
theorem tw_444 : Cond.code yX3_stoveWithPitch cX3_stoveWithPitch 3 (some .int) ∈ kg_U := tw_m (i := 444) (by decide +kernel) (by decide +kernel)
set_option maxRecDepth 100000 in
theorem tw_445 : Cond.methodLink RX4 259 yX3_countOnStoves ∈ kg_U := tw_m (i := 445) (by decide +kernel) (by decide +kernel)
set_option maxRecDepth 100000 in
theorem tw_446 : Cond.instanceMethod yX3_countOnStoves ∈ kg_U := tw_m (i := 446) (by decide +kernel) (by decide +kernel)
set_option maxRecDepth 100000 in
theorem tw_447 : Cond.selects RX3 yX3_countOnStoves yX3_countOnStoves ∈ kg_U := tw_m (i := 447) (by decide +kernel) (by decide +kernel)
set_option maxRecDepth 100000 in
theorem tw_448 : Cond.code yX3_countOnStoves cX3_countOnStoves 3 (some .int) ∈ kg_U := tw_m (i := 448) (by decide +kernel) (by decide +kernel)
set_option maxRecDepth 100000 in
theorem tw_449 : Cond.methodLink RL 40 yX4_off ∈ kg_U := tw_m (i := 449) (by decide +kernel) (by decide +kernel)
set_option maxRecDepth 100000 in
theorem tw_450 : Cond.instanceMethod yX4_off ∈ kg_U := tw_m (i := 450) (by decide +kernel) (by decide +kernel)
set_option maxRecDepth 100000 in
theorem tw_451 : Cond.selects RX4 yX4_off yX4_off ∈ kg_U := tw_m (i := 451) (by decide +kernel) (by decide +kernel)
set_option maxRecDepth 100000 in
theorem tw_452 : Cond.code yX4_off cX4_off 2 (some .int) ∈ kg_U := tw_m (i := 452) (by decide +kernel) (by decide +kernel)
set_option maxRecDepth 100000 in
theorem tw_453 : Cond.methodLink RX4 118 yX4_takeOffStove ∈ kg_U := tw_m (i := 453) (by decide +kernel) (by decide +kernel)
set_option maxRecDepth 100000 in
theorem tw_455 : Cond.instanceMethod yX4_takeOffStove ∈ kg_U := tw_m (i := 455) (by decide +kernel) (by decide +kernel)
set_option maxRecDepth 100000 in
theorem tw_456 : Cond.code yX4_takeOffStove cX4_takeOffStove 3 (some .int) ∈ kg_U := tw_m (i := 456) (by decide +kernel) (by decide +kernel)
set_option maxRecDepth 100000 in
theorem tw_457 : Cond.methodLink RL 44 yX4_heat ∈ kg_U := tw_m (i := 457) (by decide +kernel) (by decide +kernel)
set_option maxRecDepth 100000 in
theorem tw_458 : Cond.instanceMethod yX4_heat ∈ kg_U := tw_m (i := 458) (by decide +kernel) (by decide +kernel)
set_option maxRecDepth 100000 in
theorem tw_459 : Cond.selects RX4 yX4_heat yX4_heat ∈ kg_U := tw_m (i := 459) (by decide +kernel) (by decide +kernel)
set_option maxRecDepth 100000 in
theorem tw_460 : Cond.code yX4_heat cX4_heat 3 (some .int) ∈ kg_U := tw_m (i := 460) (by decide +kernel) (by decide +kernel)
set_option maxRecDepth 100000 in
theorem tw_461 : Cond.methodLink RX4 121 yX4_turnStove ∈ kg_U := tw_m (i := 461) (by decide +kernel) (by decide +kernel)
set_option maxRecDepth 100000 in
theorem tw_463 : Cond.instanceMethod yX4_turnStove ∈ kg_U := tw_m (i := 463) (by decide +kernel) (by decide +kernel)
set_option maxRecDepth 100000 in
theorem tw_464 : Cond.code yX4_turnStove cX4_turnStove 4 (some .int) ∈ kg_U := tw_m (i := 464) (by decide +kernel) (by decide +kernel)
set_option maxRecDepth 100000 in
theorem tw_465 : Cond.methodLink RL 48 yX4_lid ∈ kg_U := tw_m (i := 465) (by decide +kernel) (by decide +kernel)
set_option maxRecDepth 100000 in
theorem tw_466 : Cond.instanceMethod yX4_lid ∈ kg_U := tw_m (i := 466) (by decide +kernel) (by decide +kernel)
set_option maxRecDepth 100000 in
theorem tw_467 : Cond.selects RX4 yX4_lid yX4_lid ∈ kg_U := tw_m (i := 467) (by decide +kernel) (by decide +kernel)
set_option maxRecDepth 100000 in
theorem tw_468 : Cond.code yX4_lid cX4_lid 3 (some .int) ∈ kg_U := tw_m (i := 468) (by decide +kernel) (by decide +kernel)
set_option maxRecDepth 100000 in
theorem tw_469 : Cond.methodLink RX4 124 yX4_moveLid ∈ kg_U := tw_m (i := 469) (by decide +kernel) (by decide +kernel)
set_option maxRecDepth 100000 in
theorem tw_471 : Cond.instanceMethod yX4_moveLid ∈ kg_U := tw_m (i := 471) (by decide +kernel) (by decide +kernel)
set_option maxRecDepth 100000 in
theorem tw_472 : Cond.code yX4_moveLid cX4_moveLid 3 (some .int) ∈ kg_U := tw_m (i := 472) (by decide +kernel) (by decide +kernel)
set_option maxRecDepth 100000 in
theorem tw_473 : Cond.methodLink RX4 265 yX3_countLidsOn ∈ kg_U := tw_m (i := 473) (by decide +kernel) (by decide +kernel)
set_option maxRecDepth 100000 in
theorem tw_474 : Cond.instanceMethod yX3_countLidsOn ∈ kg_U := tw_m (i := 474) (by decide +kernel) (by decide +kernel)
set_option maxRecDepth 100000 in
theorem tw_475 : Cond.selects RX3 yX3_countLidsOn yX3_countLidsOn ∈ kg_U := tw_m (i := 475) (by decide +kernel) (by decide +kernel)
set_option maxRecDepth 100000 in
theorem tw_476 : Cond.code yX3_countLidsOn cX3_countLidsOn 3 (some .int) ∈ kg_U := tw_m (i := 476) (by decide +kernel) (by decide +kernel)
set_option maxRecDepth 100000 in
theorem tw_477 : Cond.methodLink RL 52 yX4_appeal ∈ kg_U := tw_m (i := 477) (by decide +kernel) (by decide +kernel)
set_option maxRecDepth 100000 in
theorem tw_478 : Cond.instanceMethod yX4_appeal ∈ kg_U := tw_m (i := 478) (by decide +kernel) (by decide +kernel)
set_option maxRecDepth 100000 in
theorem tw_479 : Cond.selects RX4 yX4_appeal yX4_appeal ∈ kg_U := tw_m (i := 479) (by decide +kernel) (by decide +kernel)
set_option maxRecDepth 100000 in
theorem tw_480 : Cond.code yX4_appeal cX4_appeal 3 (some .int) ∈ kg_U := tw_m (i := 480) (by decide +kernel) (by decide +kernel)
set_option maxRecDepth 100000 in
theorem tw_481 : Cond.methodLink RX4 127 yX4_makeAppeal ∈ kg_U := tw_m (i := 481) (by decide +kernel) (by decide +kernel)
set_option maxRecDepth 100000 in
theorem tw_483 : Cond.instanceMethod yX4_makeAppeal ∈ kg_U := tw_m (i := 483) (by decide +kernel) (by decide +kernel)
set_option maxRecDepth 100000 in
theorem tw_484 : Cond.code yX4_makeAppeal cX4_makeAppeal 3 (some .int) ∈ kg_U := tw_m (i := 484) (by decide +kernel) (by decide +kernel)
set_option maxRecDepth 100000 in
theorem tw_485 : Cond.methodLink RX4 150 yX4_isIn ∈ kg_U := tw_m (i := 485) (by decide +kernel) (by decide +kernel)
set_option maxRecDepth 100000 in
theorem tw_486 : Cond.methodLink RX4 344 yX3_barLid ∈ kg_U := tw_m (i := 486) (by decide +kernel) (by decide +kernel)
set_option maxRecDepth 100000 in
theorem tw_487 : Cond.instanceMethod yX3_barLid ∈ kg_U := tw_m (i := 487) (by decide +kernel) (by decide +kernel)
set_option maxRecDepth 100000 in
theorem tw_488 : Cond.selects RX3 yX3_barLid yX3_barLid ∈ kg_U := tw_m (i := 488) (by decide +kernel) (by decide +kernel)
set_option maxRecDepth 100000 in
theorem tw_489 : Cond.code yX3_barLid cX3_barLid 2 none ∈ kg_U := tw_m (i := 489) (by decide +kernel) (by decide +kernel)
set_option maxRecDepth 100000 in
theorem tw_490 : Cond.methodLink RL 56 yX4_stoveOf ∈ kg_U := tw_m (i := 490) (by decide +kernel) (by decide +kernel)
set_option maxRecDepth 100000 in
theorem tw_491 : Cond.instanceMethod yX4_stoveOf ∈ kg_U := tw_m (i := 491) (by decide +kernel) (by decide +kernel)
set_option maxRecDepth 100000 in
theorem tw_492 : Cond.selects RX4 yX4_stoveOf yX4_stoveOf ∈ kg_U := tw_m (i := 492) (by decide +kernel) (by decide +kernel)
set_option maxRecDepth 100000 in
theorem tw_493 : Cond.code yX4_stoveOf cX4_stoveOf 3 (some .int) ∈ kg_U := tw_m (i := 493) (by decide +kernel) (by decide +kernel)
set_option maxRecDepth 100000 in
theorem tw_494 : Cond.methodLink RL 61 yX4_minute ∈ kg_U := tw_m (i := 494) (by decide +kernel) (by decide +kernel)
set_option maxRecDepth 100000 in
theorem tw_495 : Cond.instanceMethod yX4_minute ∈ kg_U := tw_m (i := 495) (by decide +kernel) (by decide +kernel)
set_option maxRecDepth 100000 in
theorem tw_496 : Cond.selects RX4 yX4_minute yX4_minute ∈ kg_U := tw_m (i := 496) (by decide +kernel) (by decide +kernel)
set_option maxRecDepth 100000 in
theorem tw_497 : Cond.code yX4_minute cX4_minute 2 (some .int) ∈ kg_U := tw_m (i := 497) (by decide +kernel) (by decide +kernel)
set_option maxRecDepth 100000 in
theorem tw_498 : Cond.methodLink RX4 139 yX4_passMinutes ∈ kg_U := tw_m (i := 498) (by decide +kernel) (by decide +kernel)
set_option maxRecDepth 100000 in
theorem tw_500 : Cond.instanceMethod yX4_passMinutes ∈ kg_U := tw_m (i := 500) (by decide +kernel) (by decide +kernel)
set_option maxRecDepth 100000 in
theorem tw_501 : Cond.code yX4_passMinutes cX4_passMinutes 4 (some .int) ∈ kg_U := tw_m (i := 501) (by decide +kernel) (by decide +kernel)
set_option maxRecDepth 100000 in
theorem tw_502 : Cond.methodLink RX4 347 yX3_passMinute ∈ kg_U := tw_m (i := 502) (by decide +kernel) (by decide +kernel)
set_option maxRecDepth 100000 in
theorem tw_503 : Cond.instanceMethod yX3_passMinute ∈ kg_U := tw_m (i := 503) (by decide +kernel) (by decide +kernel)
set_option maxRecDepth 100000 in
theorem tw_504 : Cond.selects RX3 yX3_passMinute yX3_passMinute ∈ kg_U := tw_m (i := 504) (by decide +kernel) (by decide +kernel)
set_option maxRecDepth 100000 in
theorem tw_505 : Cond.code yX3_passMinute cX3_passMinute 3 (some .int) ∈ kg_U := tw_m (i := 505) (by decide +kernel) (by decide +kernel)
set_option maxRecDepth 100000 in
theorem tw_506 : Cond.methodLink RX3 89 yX3_passMinuteOver ∈ kg_U := tw_m (i := 506) (by decide +kernel) (by decide +kernel)
set_option maxRecDepth 100000 in
theorem tw_508 : Cond.instanceMethod yX3_passMinuteOver ∈ kg_U := tw_m (i := 508) (by decide +kernel) (by decide +kernel)
set_option maxRecDepth 100000 in
theorem tw_509 : Cond.code yX3_passMinuteOver cX3_passMinuteOver 4 (some .boolean) ∈ kg_U := tw_m (i := 509) (by decide +kernel) (by decide +kernel)
set_option maxRecDepth 100000 in
theorem tw_510 : Cond.methodLink RX3 96 yX3_boilDry ∈ kg_U := tw_m (i := 510) (by decide +kernel) (by decide +kernel)
set_option maxRecDepth 100000 in
theorem tw_512 : Cond.instanceMethod yX3_boilDry ∈ kg_U := tw_m (i := 512) (by decide +kernel) (by decide +kernel)
set_option maxRecDepth 100000 in
theorem tw_513 : Cond.code yX3_boilDry cX3_boilDry 3 none ∈ kg_U := tw_m (i := 513) (by decide +kernel) (by decide +kernel)
set_option maxRecDepth 100000 in
theorem tw_514 : Cond.methodLink RX3 100 yX3_changeTemperature ∈ kg_U := tw_m (i := 514) (by decide +kernel) (by decide +kernel)
set_option maxRecDepth 100000 in
theorem tw_516 : Cond.instanceMethod yX3_changeTemperature ∈ kg_U := tw_m (i := 516) (by decide +kernel) (by decide +kernel)
set_option maxRecDepth 100000 in
theorem tw_517 : Cond.code yX3_changeTemperature cX3_changeTemperature 2 none ∈ kg_U := tw_m (i := 517) (by decide +kernel) (by decide +kernel)
set_option maxRecDepth 100000 in
theorem tw_518 : Cond.methodLink RX3 103 yJ9_max_7cf53 ∈ kg_U := tw_m (i := 518) (by decide +kernel) (by decide +kernel)
set_option maxRecDepth 100000 in
theorem tw_519 : Cond.static yJ9_max_7cf53 ∈ kg_U := tw_m (i := 519) (by decide +kernel) (by decide +kernel)
set_option maxRecDepth 100000 in
theorem tw_520 : Cond.code yJ9_max_7cf53 cJ9_max_7cf53 2 (some .int) ∈ kg_U := tw_m (i := 520) (by decide +kernel) (by decide +kernel)
set_option maxRecDepth 100000 in
theorem tw_521 : Cond.methodLink RX4 350 yX3_holdHarmony ∈ kg_U := tw_m (i := 521) (by decide +kernel) (by decide +kernel)
set_option maxRecDepth 100000 in
theorem tw_522 : Cond.instanceMethod yX3_holdHarmony ∈ kg_U := tw_m (i := 522) (by decide +kernel) (by decide +kernel)
set_option maxRecDepth 100000 in
theorem tw_523 : Cond.selects RX3 yX3_holdHarmony yX3_holdHarmony ∈ kg_U := tw_m (i := 523) (by decide +kernel) (by decide +kernel)
set_option maxRecDepth 100000 in
theorem tw_524 : Cond.code yX3_holdHarmony cX3_holdHarmony 5 none ∈ kg_U := tw_m (i := 524) (by decide +kernel) (by decide +kernel)
set_option maxRecDepth 100000 in
theorem tw_526 : Cond.static yX4_soundOf ∈ kg_U := tw_m (i := 526) (by decide +kernel) (by decide +kernel)
set_option maxRecDepth 100000 in
theorem tw_527 : Cond.code yX4_soundOf cX4_soundOf 3 (some .int) ∈ kg_U := tw_m (i := 527) (by decide +kernel) (by decide +kernel)
set_option maxRecDepth 100000 in
theorem tw_528 : Cond.methodLink RX4 311 yJ9_abs_0f7a4 ∈ kg_U := tw_m (i := 528) (by decide +kernel) (by decide +kernel)
set_option maxRecDepth 100000 in
theorem tw_529 : Cond.static yJ9_abs_0f7a4 ∈ kg_U := tw_m (i := 529) (by decide +kernel) (by decide +kernel)
set_option maxRecDepth 100000 in
theorem tw_530 : Cond.code yJ9_abs_0f7a4 cJ9_abs_0f7a4 1 (some .int) ∈ kg_U := tw_m (i := 530) (by decide +kernel) (by decide +kernel)
set_option maxRecDepth 100000 in
theorem tw_531 : Cond.fieldLink RX4 160 "KettleGuild" "SOUNDS" "[I" ∈ kg_U := tw_m (i := 531) (by decide +kernel) (by decide +kernel)
set_option maxRecDepth 100000 in
theorem tw_533 : Cond.methodLink RL 65 yX4_whistling ∈ kg_U := tw_m (i := 533) (by decide +kernel) (by decide +kernel)
set_option maxRecDepth 100000 in
theorem tw_534 : Cond.instanceMethod yX4_whistling ∈ kg_U := tw_m (i := 534) (by decide +kernel) (by decide +kernel)
set_option maxRecDepth 100000 in
theorem tw_535 : Cond.selects RX4 yX4_whistling yX4_whistling ∈ kg_U := tw_m (i := 535) (by decide +kernel) (by decide +kernel)
set_option maxRecDepth 100000 in
theorem tw_536 : Cond.code yX4_whistling cX4_whistling 1 (some .int) ∈ kg_U := tw_m (i := 536) (by decide +kernel) (by decide +kernel)
set_option maxRecDepth 100000 in
theorem tw_537 : Cond.methodLink RX4 142 yX3_whistlers ∈ kg_U := tw_m (i := 537) (by decide +kernel) (by decide +kernel)
set_option maxRecDepth 100000 in
theorem tw_538 : Cond.methodLink RL 70 yX4_harmony ∈ kg_U := tw_m (i := 538) (by decide +kernel) (by decide +kernel)
set_option maxRecDepth 100000 in
theorem tw_539 : Cond.instanceMethod yX4_harmony ∈ kg_U := tw_m (i := 539) (by decide +kernel) (by decide +kernel)
set_option maxRecDepth 100000 in
theorem tw_540 : Cond.selects RX4 yX4_harmony yX4_harmony ∈ kg_U := tw_m (i := 540) (by decide +kernel) (by decide +kernel)
set_option maxRecDepth 100000 in
theorem tw_541 : Cond.code yX4_harmony cX4_harmony 5 (some .int) ∈ kg_U := tw_m (i := 541) (by decide +kernel) (by decide +kernel)
set_option maxRecDepth 100000 in
theorem tw_542 : Cond.methodLink RX4 154 yX4_soundOf ∈ kg_U := tw_m (i := 542) (by decide +kernel) (by decide +kernel)
set_option maxRecDepth 100000 in
theorem tw_543 : Cond.methodLink RL 74 yX4_harmonyAgain ∈ kg_U := tw_m (i := 543) (by decide +kernel) (by decide +kernel)
set_option maxRecDepth 100000 in
theorem tw_544 : Cond.instanceMethod yX4_harmonyAgain ∈ kg_U := tw_m (i := 544) (by decide +kernel) (by decide +kernel)
set_option maxRecDepth 100000 in
theorem tw_545 : Cond.selects RX4 yX4_harmonyAgain yX4_harmonyAgain ∈ kg_U := tw_m (i := 545) (by decide +kernel) (by decide +kernel)
set_option maxRecDepth 100000 in
theorem tw_546 : Cond.code yX4_harmonyAgain cX4_harmonyAgain 5 (some .int) ∈ kg_U := tw_m (i := 546) (by decide +kernel) (by decide +kernel)
set_option maxRecDepth 100000 in
theorem tw_547 : Cond.methodLink RX4 157 yX3_whistledPitches ∈ kg_U := tw_m (i := 547) (by decide +kernel) (by decide +kernel)
set_option maxRecDepth 100000 in
theorem tw_548 : Cond.instanceMethod yX3_whistledPitches ∈ kg_U := tw_m (i := 548) (by decide +kernel) (by decide +kernel)
set_option maxRecDepth 100000 in
theorem tw_549 : Cond.selects RX3 yX3_whistledPitches yX3_whistledPitches ∈ kg_U := tw_m (i := 549) (by decide +kernel) (by decide +kernel)
set_option maxRecDepth 100000 in
theorem tw_550 : Cond.code yX3_whistledPitches cX3_whistledPitches 4 (some .int) ∈ kg_U := tw_m (i := 550) (by decide +kernel) (by decide +kernel)
set_option maxRecDepth 100000 in
theorem tw_551 : Cond.methodLink RL 78 yX4_boilsIn ∈ kg_U := tw_m (i := 551) (by decide +kernel) (by decide +kernel)
set_option maxRecDepth 100000 in
theorem tw_552 : Cond.instanceMethod yX4_boilsIn ∈ kg_U := tw_m (i := 552) (by decide +kernel) (by decide +kernel)
set_option maxRecDepth 100000 in
theorem tw_553 : Cond.selects RX4 yX4_boilsIn yX4_boilsIn ∈ kg_U := tw_m (i := 553) (by decide +kernel) (by decide +kernel)
set_option maxRecDepth 100000 in
theorem tw_554 : Cond.code yX4_boilsIn cX4_boilsIn 5 (some .int) ∈ kg_U := tw_m (i := 554) (by decide +kernel) (by decide +kernel)
set_option maxRecDepth 100000 in
theorem tw_555 : Cond.methodLink RX4 163 yX3_heatUnder ∈ kg_U := tw_m (i := 555) (by decide +kernel) (by decide +kernel)
set_option maxRecDepth 100000 in
theorem tw_556 : Cond.methodLink RX4 166 yJ9_min_7cf53 ∈ kg_U := tw_m (i := 556) (by decide +kernel) (by decide +kernel)
set_option maxRecDepth 100000 in
theorem tw_557 : Cond.methodLink RL 82 yX4_boilsInAgain ∈ kg_U := tw_m (i := 557) (by decide +kernel) (by decide +kernel)
set_option maxRecDepth 100000 in
theorem tw_558 : Cond.instanceMethod yX4_boilsInAgain ∈ kg_U := tw_m (i := 558) (by decide +kernel) (by decide +kernel)
set_option maxRecDepth 100000 in
theorem tw_559 : Cond.selects RX4 yX4_boilsInAgain yX4_boilsInAgain ∈ kg_U := tw_m (i := 559) (by decide +kernel) (by decide +kernel)
set_option maxRecDepth 100000 in
theorem tw_560 : Cond.code yX4_boilsInAgain cX4_boilsInAgain 4 (some .int) ∈ kg_U := tw_m (i := 560) (by decide +kernel) (by decide +kernel)
set_option maxRecDepth 100000 in
theorem tw_561 : Cond.methodLink RL 86 yX4_dryIn ∈ kg_U := tw_m (i := 561) (by decide +kernel) (by decide +kernel)
set_option maxRecDepth 100000 in
theorem tw_562 : Cond.instanceMethod yX4_dryIn ∈ kg_U := tw_m (i := 562) (by decide +kernel) (by decide +kernel)
set_option maxRecDepth 100000 in
theorem tw_563 : Cond.selects RX4 yX4_dryIn yX4_dryIn ∈ kg_U := tw_m (i := 563) (by decide +kernel) (by decide +kernel)
set_option maxRecDepth 100000 in
theorem tw_564 : Cond.code yX4_dryIn cX4_dryIn 3 (some .int) ∈ kg_U := tw_m (i := 564) (by decide +kernel) (by decide +kernel)
set_option maxRecDepth 100000 in
theorem tw_565 : Cond.methodLink RX4 171 yX4_boilsIn ∈ kg_U := tw_m (i := 565) (by decide +kernel) (by decide +kernel)
set_option maxRecDepth 100000 in
theorem tw_566 : Cond.methodLink RX4 174 yJ9_max_7cf53 ∈ kg_U := tw_m (i := 566) (by decide +kernel) (by decide +kernel)
set_option maxRecDepth 100000 in
theorem tw_567 : Cond.methodLink RL 90 yX4_bestPitch ∈ kg_U := tw_m (i := 567) (by decide +kernel) (by decide +kernel)
set_option maxRecDepth 100000 in
theorem tw_568 : Cond.instanceMethod yX4_bestPitch ∈ kg_U := tw_m (i := 568) (by decide +kernel) (by decide +kernel)
set_option maxRecDepth 100000 in
theorem tw_569 : Cond.selects RX4 yX4_bestPitch yX4_bestPitch ∈ kg_U := tw_m (i := 569) (by decide +kernel) (by decide +kernel)
set_option maxRecDepth 100000 in
theorem tw_570 : Cond.code yX4_bestPitch cX4_bestPitch 6 (some .int) ∈ kg_U := tw_m (i := 570) (by decide +kernel) (by decide +kernel)
set_option maxRecDepth 100000 in
theorem tw_571 : Cond.methodLink RX4 177 yX4_fitOf ∈ kg_U := tw_m (i := 571) (by decide +kernel) (by decide +kernel)
set_option maxRecDepth 100000 in
theorem tw_572 : Cond.static yX4_fitOf ∈ kg_U := tw_m (i := 572) (by decide +kernel) (by decide +kernel)
set_option maxRecDepth 100000 in
theorem tw_573 : Cond.code yX4_fitOf cX4_fitOf 4 (some .int) ∈ kg_U := tw_m (i := 573) (by decide +kernel) (by decide +kernel)
set_option maxRecDepth 100000 in
theorem tw_574 : Cond.methodLink RL 94 yX4_memberOf ∈ kg_U := tw_m (i := 574) (by decide +kernel) (by decide +kernel)
set_option maxRecDepth 100000 in
theorem tw_575 : Cond.instanceMethod yX4_memberOf ∈ kg_U := tw_m (i := 575) (by decide +kernel) (by decide +kernel)
set_option maxRecDepth 100000 in
theorem tw_576 : Cond.selects RX4 yX4_memberOf yX4_memberOf ∈ kg_U := tw_m (i := 576) (by decide +kernel) (by decide +kernel)
set_option maxRecDepth 100000 in
theorem tw_577 : Cond.code yX4_memberOf cX4_memberOf 3 (some .int) ∈ kg_U := tw_m (i := 577) (by decide +kernel) (by decide +kernel)
set_option maxRecDepth 100000 in
theorem tw_578 : Cond.methodLink RX4 189 yX3_countKettlesOf ∈ kg_U := tw_m (i := 578) (by decide +kernel) (by decide +kernel)
set_option maxRecDepth 100000 in
theorem tw_579 : Cond.instanceMethod yX3_countKettlesOf ∈ kg_U := tw_m (i := 579) (by decide +kernel) (by decide +kernel)
set_option maxRecDepth 100000 in
theorem tw_580 : Cond.selects RX3 yX3_countKettlesOf yX3_countKettlesOf ∈ kg_U := tw_m (i := 580) (by decide +kernel) (by decide +kernel)
set_option maxRecDepth 100000 in
theorem tw_581 : Cond.code yX3_countKettlesOf cX3_countKettlesOf 4 (some .int) ∈ kg_U := tw_m (i := 581) (by decide +kernel) (by decide +kernel)
set_option maxRecDepth 100000 in
theorem tw_582 : Cond.methodLink RX4 192 yX3_countWhistlersOf ∈ kg_U := tw_m (i := 582) (by decide +kernel) (by decide +kernel)
set_option maxRecDepth 100000 in
theorem tw_583 : Cond.instanceMethod yX3_countWhistlersOf ∈ kg_U := tw_m (i := 583) (by decide +kernel) (by decide +kernel)
set_option maxRecDepth 100000 in
theorem tw_584 : Cond.selects RX3 yX3_countWhistlersOf yX3_countWhistlersOf ∈ kg_U := tw_m (i := 584) (by decide +kernel) (by decide +kernel)
set_option maxRecDepth 100000 in
theorem tw_585 : Cond.code yX3_countWhistlersOf cX3_countWhistlersOf 5 (some .int) ∈ kg_U := tw_m (i := 585) (by decide +kernel) (by decide +kernel)
set_option maxRecDepth 100000 in
theorem tw_586 : Cond.methodLink RL 98 yX4_ranked ∈ kg_U := tw_m (i := 586) (by decide +kernel) (by decide +kernel)
set_option maxRecDepth 100000 in
theorem tw_587 : Cond.instanceMethod yX4_ranked ∈ kg_U := tw_m (i := 587) (by decide +kernel) (by decide +kernel)
set_option maxRecDepth 100000 in
theorem tw_588 : Cond.selects RX4 yX4_ranked yX4_ranked ∈ kg_U := tw_m (i := 588) (by decide +kernel) (by decide +kernel)
set_option maxRecDepth 100000 in
theorem tw_589 : Cond.code yX4_ranked cX4_ranked 3 (some .int) ∈ kg_U := tw_m (i := 589) (by decide +kernel) (by decide +kernel)
set_option maxRecDepth 100000 in
theorem tw_590 : Cond.methodLink RX4 201 yX4_countAheadOfMember ∈ kg_U := tw_m (i := 590) (by decide +kernel) (by decide +kernel)
set_option maxRecDepth 100000 in
theorem tw_592 : Cond.instanceMethod yX4_countAheadOfMember ∈ kg_U := tw_m (i := 592) (by decide +kernel) (by decide +kernel)
set_option maxRecDepth 100000 in
theorem tw_593 : Cond.code yX4_countAheadOfMember cX4_countAheadOfMember 4 (some .int) ∈ kg_U := tw_m (i := 593) (by decide +kernel) (by decide +kernel)
set_option maxRecDepth 100000 in
theorem tw_594 : Cond.methodLink RX4 317 yX4_isMemberAhead ∈ kg_U := tw_m (i := 594) (by decide +kernel) (by decide +kernel)
set_option maxRecDepth 100000 in
theorem tw_596 : Cond.instanceMethod yX4_isMemberAhead ∈ kg_U := tw_m (i := 596) (by decide +kernel) (by decide +kernel)
set_option maxRecDepth 100000 in
theorem tw_597 : Cond.code yX4_isMemberAhead cX4_isMemberAhead 5 (some .boolean) ∈ kg_U := tw_m (i := 597) (by decide +kernel) (by decide +kernel)
set_option maxRecDepth 100000 in
theorem tw_598 : Cond.methodLink RX4 320 yJ6_compare_7cf53 ∈ kg_U := tw_m (i := 598) (by decide +kernel) (by decide +kernel)
set_option maxRecDepth 100000 in
theorem tw_599 : Cond.static yJ6_compare_7cf53 ∈ kg_U := tw_m (i := 599) (by decide +kernel) (by decide +kernel)
set_option maxRecDepth 100000 in
theorem tw_600 : Cond.code yJ6_compare_7cf53 cJ6_compare_7cf53 2 (some .int) ∈ kg_U := tw_m (i := 600) (by decide +kernel) (by decide +kernel)
set_option maxRecDepth 100000 in
theorem tw_601 : Cond.methodLink RL 102 yX4_hottest ∈ kg_U := tw_m (i := 601) (by decide +kernel) (by decide +kernel)
set_option maxRecDepth 100000 in
theorem tw_602 : Cond.instanceMethod yX4_hottest ∈ kg_U := tw_m (i := 602) (by decide +kernel) (by decide +kernel)
set_option maxRecDepth 100000 in
theorem tw_603 : Cond.selects RX4 yX4_hottest yX4_hottest ∈ kg_U := tw_m (i := 603) (by decide +kernel) (by decide +kernel)
set_option maxRecDepth 100000 in
theorem tw_604 : Cond.code yX4_hottest cX4_hottest 3 (some .int) ∈ kg_U := tw_m (i := 604) (by decide +kernel) (by decide +kernel)
set_option maxRecDepth 100000 in
theorem tw_605 : Cond.methodLink RX4 204 yX4_countAheadOfKettle ∈ kg_U := tw_m (i := 605) (by decide +kernel) (by decide +kernel)
set_option maxRecDepth 100000 in
theorem tw_607 : Cond.instanceMethod yX4_countAheadOfKettle ∈ kg_U := tw_m (i := 607) (by decide +kernel) (by decide +kernel)
set_option maxRecDepth 100000 in
theorem tw_608 : Cond.code yX4_countAheadOfKettle cX4_countAheadOfKettle 4 (some .int) ∈ kg_U := tw_m (i := 608) (by decide +kernel) (by decide +kernel)
set_option maxRecDepth 100000 in
theorem tw_609 : Cond.methodLink RX4 323 yX4_isKettleAhead ∈ kg_U := tw_m (i := 609) (by decide +kernel) (by decide +kernel)
set_option maxRecDepth 100000 in
theorem tw_611 : Cond.instanceMethod yX4_isKettleAhead ∈ kg_U := tw_m (i := 611) (by decide +kernel) (by decide +kernel)
set_option maxRecDepth 100000 in
theorem tw_612 : Cond.code yX4_isKettleAhead cX4_isKettleAhead 5 (some .boolean) ∈ kg_U := tw_m (i := 612) (by decide +kernel) (by decide +kernel)
set_option maxRecDepth 100000 in
theorem tw_613 : Cond.methodLink RL 106 yX4_append ∈ kg_U := tw_m (i := 613) (by decide +kernel) (by decide +kernel)
set_option maxRecDepth 100000 in
theorem tw_614 : Cond.instanceMethod yX4_append ∈ kg_U := tw_m (i := 614) (by decide +kernel) (by decide +kernel)
set_option maxRecDepth 100000 in
theorem tw_615 : Cond.selects RX4 yX4_append yX4_append ∈ kg_U := tw_m (i := 615) (by decide +kernel) (by decide +kernel)
set_option maxRecDepth 100000 in
theorem tw_616 : Cond.code yX4_append cX4_append 2 (some .int) ∈ kg_U := tw_m (i := 616) (by decide +kernel) (by decide +kernel)
set_option maxRecDepth 100000 in
theorem tw_617 : Cond.methodLink RX4 207 yX1_add ∈ kg_U := tw_m (i := 617) (by decide +kernel) (by decide +kernel)
set_option maxRecDepth 100000 in
theorem tw_618 : Cond.instanceMethod yX1_add ∈ kg_U := tw_m (i := 618) (by decide +kernel) (by decide +kernel)
set_option maxRecDepth 100000 in
theorem tw_619 : Cond.selects RX1 yX1_add yX1_add ∈ kg_U := tw_m (i := 619) (by decide +kernel) (by decide +kernel)
set_option maxRecDepth 100000 in
theorem tw_620 : Cond.code yX1_add cX1_add 2 (some .boolean) ∈ kg_U := tw_m (i := 620) (by decide +kernel) (by decide +kernel)
set_option maxRecDepth 100000 in
theorem tw_621 : Cond.methodLink RL 110 yX4_run ∈ kg_U := tw_m (i := 621) (by decide +kernel) (by decide +kernel)
set_option maxRecDepth 100000 in
theorem tw_622 : Cond.instanceMethod yX4_run ∈ kg_U := tw_m (i := 622) (by decide +kernel) (by decide +kernel)
set_option maxRecDepth 100000 in
theorem tw_623 : Cond.selects RX4 yX4_run yX4_run ∈ kg_U := tw_m (i := 623) (by decide +kernel) (by decide +kernel)
set_option maxRecDepth 100000 in
theorem tw_624 : Cond.code yX4_run cX4_run 4 (some .int) ∈ kg_U := tw_m (i := 624) (by decide +kernel) (by decide +kernel)
set_option maxRecDepth 100000 in
theorem tw_625 : Cond.methodLink RX4 214 yX1_read ∈ kg_U := tw_m (i := 625) (by decide +kernel) (by decide +kernel)
set_option maxRecDepth 100000 in
theorem tw_626 : Cond.instanceMethod yX1_read ∈ kg_U := tw_m (i := 626) (by decide +kernel) (by decide +kernel)
set_option maxRecDepth 100000 in
theorem tw_627 : Cond.selects RX1 yX1_read yX1_read ∈ kg_U := tw_m (i := 627) (by decide +kernel) (by decide +kernel)
set_option maxRecDepth 100000 in
theorem tw_628 : Cond.code yX1_read cX1_read 2 (some .int) ∈ kg_U := tw_m (i := 628) (by decide +kernel) (by decide +kernel)
set_option maxRecDepth 100000 in
theorem tw_629 : Cond.methodLink RX1 32 yX1_readOrder ∈ kg_U := tw_m (i := 629) (by decide +kernel) (by decide +kernel)
set_option maxRecDepth 100000 in
theorem tw_631 : Cond.instanceMethod yX1_readOrder ∈ kg_U := tw_m (i := 631) (by decide +kernel) (by decide +kernel)
set_option maxRecDepth 100000 in
theorem tw_632 : Cond.code yX1_readOrder cX1_readOrder 5 (some .boolean) ∈ kg_U := tw_m (i := 632) (by decide +kernel) (by decide +kernel)
set_option maxRecDepth 100000 in
theorem tw_633 : Cond.methodLink RX1 40 yX1_formOf ∈ kg_U := tw_m (i := 633) (by decide +kernel) (by decide +kernel)
set_option maxRecDepth 100000 in
theorem tw_634 : Cond.static yX1_formOf ∈ kg_U := tw_m (i := 634) (by decide +kernel) (by decide +kernel)
set_option maxRecDepth 100000 in
theorem tw_635 : Cond.code yX1_formOf cX1_formOf 1 (some (.object "java/lang/String")) ∈ kg_U := tw_m (i := 635) (by decide +kernel) (by decide +kernel)
set_option maxRecDepth 100000 in
theorem tw_645 : Cond.methodLink RX1 44 yX1_readForm ∈ kg_U := tw_m (i := 645) (by decide +kernel) (by decide +kernel)
set_option maxRecDepth 100000 in
theorem tw_647 : Cond.instanceMethod yX1_readForm ∈ kg_U := tw_m (i := 647) (by decide +kernel) (by decide +kernel)
set_option maxRecDepth 100000 in
theorem tw_648 : Cond.code yX1_readForm cX1_readForm 7 (some .boolean) ∈ kg_U := tw_m (i := 648) (by decide +kernel) (by decide +kernel)
set_option maxRecDepth 100000 in
theorem tw_649 : Cond.methodLink RX1 72 yJ0_length_8abf5 ∈ kg_U := tw_m (i := 649) (by decide +kernel) (by decide +kernel)
set_option maxRecDepth 100000 in
theorem tw_650 : Cond.instanceMethod yJ0_length_8abf5 ∈ kg_U := tw_m (i := 650) (by decide +kernel) (by decide +kernel)
set_option maxRecDepth 100000 in
theorem tw_651 : Cond.selects RJ0 yJ0_length_8abf5 yJ0_length_8abf5 ∈ kg_U := tw_m (i := 651) (by decide +kernel) (by decide +kernel)
set_option maxRecDepth 100000 in
theorem tw_652 : Cond.code yJ0_length_8abf5 cJ0_length_8abf5 1 (some .int) ∈ kg_U := tw_m (i := 652) (by decide +kernel) (by decide +kernel)
set_option maxRecDepth 100000 in
theorem tw_653 : Cond.methodLink RJ0 335 yJ0_coder_7d493 ∈ kg_U := tw_m (i := 653) (by decide +kernel) (by decide +kernel)
set_option maxRecDepth 100000 in
theorem tw_654 : Cond.instanceMethod yJ0_coder_7d493 ∈ kg_U := tw_m (i := 654) (by decide +kernel) (by decide +kernel)
set_option maxRecDepth 100000 in
theorem tw_655 : Cond.selects RJ0 yJ0_coder_7d493 yJ0_coder_7d493 ∈ kg_U := tw_m (i := 655) (by decide +kernel) (by decide +kernel)
set_option maxRecDepth 100000 in
theorem tw_656 : Cond.code yJ0_coder_7d493 cJ0_coder_7d493 1 (some .byte) ∈ kg_U := tw_m (i := 656) (by decide +kernel) (by decide +kernel)
set_option maxRecDepth 100000 in
theorem tw_657 : Cond.fieldLink RJ0 38 "java/lang/String" "COMPACT_STRINGS" "Z" ∈ kg_U := tw_m (i := 657) (by decide +kernel) (by decide +kernel)
set_option maxRecDepth 100000 in
theorem tw_658 : Cond.methodLink RX1 77 yJ0_charAt_5068e ∈ kg_U := tw_m (i := 658) (by decide +kernel) (by decide +kernel)
set_option maxRecDepth 100000 in
theorem tw_659 : Cond.instanceMethod yJ0_charAt_5068e ∈ kg_U := tw_m (i := 659) (by decide +kernel) (by decide +kernel)
set_option maxRecDepth 100000 in
theorem tw_660 : Cond.selects RJ0 yJ0_charAt_5068e yJ0_charAt_5068e ∈ kg_U := tw_m (i := 660) (by decide +kernel) (by decide +kernel)
set_option maxRecDepth 100000 in
theorem tw_661 : Cond.code yJ0_charAt_5068e cJ0_charAt_5068e 2 (some .char) ∈ kg_U := tw_m (i := 661) (by decide +kernel) (by decide +kernel)
set_option maxRecDepth 100000 in
theorem tw_662 : Cond.methodLink RJ0 492 yJ0_isLatin1_aae02 ∈ kg_U := tw_m (i := 662) (by decide +kernel) (by decide +kernel)
set_option maxRecDepth 100000 in
theorem tw_663 : Cond.instanceMethod yJ0_isLatin1_aae02 ∈ kg_U := tw_m (i := 663) (by decide +kernel) (by decide +kernel)
set_option maxRecDepth 100000 in
theorem tw_664 : Cond.selects RJ0 yJ0_isLatin1_aae02 yJ0_isLatin1_aae02 ∈ kg_U := tw_m (i := 664) (by decide +kernel) (by decide +kernel)
set_option maxRecDepth 100000 in
theorem tw_665 : Cond.code yJ0_isLatin1_aae02 cJ0_isLatin1_aae02 1 (some .boolean) ∈ kg_U := tw_m (i := 665) (by decide +kernel) (by decide +kernel)
set_option maxRecDepth 100000 in
theorem tw_666 : Cond.methodLink RJ0 495 yJ1_charAt_3b067 ∈ kg_U := tw_m (i := 666) (by decide +kernel) (by decide +kernel)
set_option maxRecDepth 100000 in
theorem tw_667 : Cond.static yJ1_charAt_3b067 ∈ kg_U := tw_m (i := 667) (by decide +kernel) (by decide +kernel)
set_option maxRecDepth 100000 in
theorem tw_668 : Cond.code yJ1_charAt_3b067 cJ1_charAt_3b067 2 (some .char) ∈ kg_U := tw_m (i := 668) (by decide +kernel) (by decide +kernel)
set_option maxRecDepth 100000 in
theorem tw_669 : Cond.methodLink RJ1 9 yJ0_checkIndex_df160 ∈ kg_U := tw_m (i := 669) (by decide +kernel) (by decide +kernel)
set_option maxRecDepth 100000 in
theorem tw_670 : Cond.static yJ0_checkIndex_df160 ∈ kg_U := tw_m (i := 670) (by decide +kernel) (by decide +kernel)
set_option maxRecDepth 100000 in
theorem tw_671 : Cond.code yJ0_checkIndex_df160 cJ0_checkIndex_df160 2 none ∈ kg_U := tw_m (i := 671) (by decide +kernel) (by decide +kernel)
set_option maxRecDepth 100000 in
theorem tw_672 : Cond.fieldLink RJ0 1053 "jdk/internal/util/Preconditions" "SIOOBE_FORMATTER" "Ljava/util/function/BiFunction;" ∈ kg_U := tw_m (i := 672) (by decide +kernel) (by decide +kernel)
set_option maxRecDepth 100000 in
theorem tw_674 : Cond.methodLink RJ0 1059 yJ3_checkIndex_8e157 ∈ kg_U := tw_m (i := 674) (by decide +kernel) (by decide +kernel)
set_option maxRecDepth 100000 in
theorem tw_675 : Cond.static yJ3_checkIndex_8e157 ∈ kg_U := tw_m (i := 675) (by decide +kernel) (by decide +kernel)
set_option maxRecDepth 100000 in
theorem tw_676 : Cond.code yJ3_checkIndex_8e157 cJ3_checkIndex_8e157 3 (some .int) ∈ kg_U := tw_m (i := 676) (by decide +kernel) (by decide +kernel)
set_option maxRecDepth 100000 in
theorem tw_677 : Cond.methodLink RJ0 498 yJ2_charAt_3b067 ∈ kg_U := tw_m (i := 677) (by decide +kernel) (by decide +kernel)
set_option maxRecDepth 100000 in
theorem tw_678 : Cond.static yJ2_charAt_3b067 ∈ kg_U := tw_m (i := 678) (by decide +kernel) (by decide +kernel)
set_option maxRecDepth 100000 in
theorem tw_679 : Cond.code yJ2_charAt_3b067 cJ2_charAt_3b067 2 (some .char) ∈ kg_U := tw_m (i := 679) (by decide +kernel) (by decide +kernel)
set_option maxRecDepth 100000 in
theorem tw_680 : Cond.methodLink RJ2 67 yJ2_checkIndex_2214a ∈ kg_U := tw_m (i := 680) (by decide +kernel) (by decide +kernel)
set_option maxRecDepth 100000 in
theorem tw_681 : Cond.static yJ2_checkIndex_2214a ∈ kg_U := tw_m (i := 681) (by decide +kernel) (by decide +kernel)
set_option maxRecDepth 100000 in
theorem tw_682 : Cond.code yJ2_checkIndex_2214a cJ2_checkIndex_2214a 2 none ∈ kg_U := tw_m (i := 682) (by decide +kernel) (by decide +kernel)
set_option maxRecDepth 100000 in
theorem tw_683 : Cond.methodLink RJ2 48 yJ2_length_9d52b ∈ kg_U := tw_m (i := 683) (by decide +kernel) (by decide +kernel)
set_option maxRecDepth 100000 in
theorem tw_684 : Cond.static yJ2_length_9d52b ∈ kg_U := tw_m (i := 684) (by decide +kernel) (by decide +kernel)
set_option maxRecDepth 100000 in
theorem tw_685 : Cond.code yJ2_length_9d52b cJ2_length_9d52b 1 (some .int) ∈ kg_U := tw_m (i := 685) (by decide +kernel) (by decide +kernel)
set_option maxRecDepth 100000 in
theorem tw_686 : Cond.methodLink RJ2 414 yJ0_checkIndex_df160 ∈ kg_U := tw_m (i := 686) (by decide +kernel) (by decide +kernel)
set_option maxRecDepth 100000 in
theorem tw_687 : Cond.methodLink RJ2 71 yJ2_getChar_3b067 ∈ kg_U := tw_m (i := 687) (by decide +kernel) (by decide +kernel)
set_option maxRecDepth 100000 in
theorem tw_688 : Cond.static yJ2_getChar_3b067 ∈ kg_U := tw_m (i := 688) (by decide +kernel) (by decide +kernel)
set_option maxRecDepth 100000 in
theorem tw_689 : Cond.code yJ2_getChar_3b067 cJ2_getChar_3b067 2 (some .char) ∈ kg_U := tw_m (i := 689) (by decide +kernel) (by decide +kernel)
set_option maxRecDepth 100000 in
theorem tw_690 : Cond.fieldLink RJ2 44 "java/lang/StringUTF16" "$assertionsDisabled" "Z" ∈ kg_U := tw_m (i := 690) (by decide +kernel) (by decide +kernel)
set_option maxRecDepth 100000 in
theorem tw_692 : Cond.fieldLink RJ2 59 "java/lang/StringUTF16" "HI_BYTE_SHIFT" "I" ∈ kg_U := tw_m (i := 692) (by decide +kernel) (by decide +kernel)
set_option maxRecDepth 100000 in
theorem tw_694 : Cond.fieldLink RJ2 63 "java/lang/StringUTF16" "LO_BYTE_SHIFT" "I" ∈ kg_U := tw_m (i := 694) (by decide +kernel) (by decide +kernel)
set_option maxRecDepth 100000 in
theorem tw_696 : Cond.methodLink RX1 81 yX1_readNumber ∈ kg_U := tw_m (i := 696) (by decide +kernel) (by decide +kernel)
set_option maxRecDepth 100000 in
theorem tw_698 : Cond.instanceMethod yX1_readNumber ∈ kg_U := tw_m (i := 698) (by decide +kernel) (by decide +kernel)
set_option maxRecDepth 100000 in
theorem tw_699 : Cond.code yX1_readNumber cX1_readNumber 4 (some .int) ∈ kg_U := tw_m (i := 699) (by decide +kernel) (by decide +kernel)
set_option maxRecDepth 100000 in
theorem tw_700 : Cond.methodLink RX1 85 yX1_signAtPlace ∈ kg_U := tw_m (i := 700) (by decide +kernel) (by decide +kernel)
set_option maxRecDepth 100000 in
theorem tw_702 : Cond.instanceMethod yX1_signAtPlace ∈ kg_U := tw_m (i := 702) (by decide +kernel) (by decide +kernel)
set_option maxRecDepth 100000 in
theorem tw_703 : Cond.code yX1_signAtPlace cX1_signAtPlace 1 (some .int) ∈ kg_U := tw_m (i := 703) (by decide +kernel) (by decide +kernel)
set_option maxRecDepth 100000 in
theorem tw_704 : Cond.methodLink RX1 36 yX1_isAtPlace ∈ kg_U := tw_m (i := 704) (by decide +kernel) (by decide +kernel)
set_option maxRecDepth 100000 in
theorem tw_706 : Cond.instanceMethod yX1_isAtPlace ∈ kg_U := tw_m (i := 706) (by decide +kernel) (by decide +kernel)
set_option maxRecDepth 100000 in
theorem tw_707 : Cond.code yX1_isAtPlace cX1_isAtPlace 2 (some .boolean) ∈ kg_U := tw_m (i := 707) (by decide +kernel) (by decide +kernel)
set_option maxRecDepth 100000 in
theorem tw_708 : Cond.methodLink RX1 88 yX1_digitAtPlace ∈ kg_U := tw_m (i := 708) (by decide +kernel) (by decide +kernel)
set_option maxRecDepth 100000 in
theorem tw_710 : Cond.instanceMethod yX1_digitAtPlace ∈ kg_U := tw_m (i := 710) (by decide +kernel) (by decide +kernel)
set_option maxRecDepth 100000 in
theorem tw_711 : Cond.code yX1_digitAtPlace cX1_digitAtPlace 2 (some .int) ∈ kg_U := tw_m (i := 711) (by decide +kernel) (by decide +kernel)
set_option maxRecDepth 100000 in
theorem tw_712 : Cond.methodLink RX1 48 yJ9_max_7cf53 ∈ kg_U := tw_m (i := 712) (by decide +kernel) (by decide +kernel)
set_option maxRecDepth 100000 in
theorem tw_713 : Cond.methodLink RX4 217 yX1_empty ∈ kg_U := tw_m (i := 713) (by decide +kernel) (by decide +kernel)
set_option maxRecDepth 100000 in
theorem tw_714 : Cond.instanceMethod yX1_empty ∈ kg_U := tw_m (i := 714) (by decide +kernel) (by decide +kernel)
set_option maxRecDepth 100000 in
theorem tw_715 : Cond.selects RX1 yX1_empty yX1_empty ∈ kg_U := tw_m (i := 715) (by decide +kernel) (by decide +kernel)
set_option maxRecDepth 100000 in
theorem tw_716 : Cond.code yX1_empty cX1_empty 1 none ∈ kg_U := tw_m (i := 716) (by decide +kernel) (by decide +kernel)
set_option maxRecDepth 100000 in
theorem tw_717 : Cond.methodLink RX4 223 yX4_carryOut ∈ kg_U := tw_m (i := 717) (by decide +kernel) (by decide +kernel)
set_option maxRecDepth 100000 in
theorem tw_719 : Cond.instanceMethod yX4_carryOut ∈ kg_U := tw_m (i := 719) (by decide +kernel) (by decide +kernel)
set_option maxRecDepth 100000 in
theorem tw_720 : Cond.code yX4_carryOut cX4_carryOut 4 (some .int) ∈ kg_U := tw_m (i := 720) (by decide +kernel) (by decide +kernel)
set_option maxRecDepth 100000 in
theorem tw_721 : Cond.methodLink RX4 353 yX1_numberOf ∈ kg_U := tw_m (i := 721) (by decide +kernel) (by decide +kernel)
set_option maxRecDepth 100000 in
theorem tw_722 : Cond.instanceMethod yX1_numberOf ∈ kg_U := tw_m (i := 722) (by decide +kernel) (by decide +kernel)
set_option maxRecDepth 100000 in
theorem tw_723 : Cond.selects RX1 yX1_numberOf yX1_numberOf ∈ kg_U := tw_m (i := 723) (by decide +kernel) (by decide +kernel)
set_option maxRecDepth 100000 in
theorem tw_724 : Cond.code yX1_numberOf cX1_numberOf 4 (some .int) ∈ kg_U := tw_m (i := 724) (by decide +kernel) (by decide +kernel)
set_option maxRecDepth 100000 in
theorem tw_725 : Cond.methodLink RX4 356 yX1_kindOf ∈ kg_U := tw_m (i := 725) (by decide +kernel) (by decide +kernel)
set_option maxRecDepth 100000 in
theorem tw_726 : Cond.instanceMethod yX1_kindOf ∈ kg_U := tw_m (i := 726) (by decide +kernel) (by decide +kernel)
set_option maxRecDepth 100000 in
theorem tw_727 : Cond.selects RX1 yX1_kindOf yX1_kindOf ∈ kg_U := tw_m (i := 727) (by decide +kernel) (by decide +kernel)
set_option maxRecDepth 100000 in
theorem tw_728 : Cond.code yX1_kindOf cX1_kindOf 2 (some .int) ∈ kg_U := tw_m (i := 728) (by decide +kernel) (by decide +kernel)
set_option maxRecDepth 100000 in
theorem tw_729 : Cond.methodLink RX4 226 yX0_takeBackBegun ∈ kg_U := tw_m (i := 729) (by decide +kernel) (by decide +kernel)
set_option maxRecDepth 100000 in
theorem tw_730 : Cond.instanceMethod yX0_takeBackBegun ∈ kg_U := tw_m (i := 730) (by decide +kernel) (by decide +kernel)
set_option maxRecDepth 100000 in
theorem tw_731 : Cond.selects RX0 yX0_takeBackBegun yX0_takeBackBegun ∈ kg_U := tw_m (i := 731) (by decide +kernel) (by decide +kernel)
set_option maxRecDepth 100000 in
theorem tw_732 : Cond.code yX0_takeBackBegun cX0_takeBackBegun 2 none ∈ kg_U := tw_m (i := 732) (by decide +kernel) (by decide +kernel)
set_option maxRecDepth 100000 in
theorem tw_733 : Cond.methodLink RX4 229 yX4_refuseOrder ∈ kg_U := tw_m (i := 733) (by decide +kernel) (by decide +kernel)
set_option maxRecDepth 100000 in
theorem tw_735 : Cond.instanceMethod yX4_refuseOrder ∈ kg_U := tw_m (i := 735) (by decide +kernel) (by decide +kernel)
set_option maxRecDepth 100000 in
theorem tw_736 : Cond.code yX4_refuseOrder cX4_refuseOrder 3 (some .int) ∈ kg_U := tw_m (i := 736) (by decide +kernel) (by decide +kernel)
set_option maxRecDepth 100000 in
theorem tw_737 : Cond.methodLink RL 114 yX4_tell ∈ kg_U := tw_m (i := 737) (by decide +kernel) (by decide +kernel)
set_option maxRecDepth 100000 in
theorem tw_738 : Cond.instanceMethod yX4_tell ∈ kg_U := tw_m (i := 738) (by decide +kernel) (by decide +kernel)
set_option maxRecDepth 100000 in
theorem tw_739 : Cond.selects RX4 yX4_tell yX4_tell ∈ kg_U := tw_m (i := 739) (by decide +kernel) (by decide +kernel)
set_option maxRecDepth 100000 in
theorem tw_740 : Cond.code yX4_tell cX4_tell 2 (some .int) ∈ kg_U := tw_m (i := 740) (by decide +kernel) (by decide +kernel)
set_option maxRecDepth 100000 in
theorem tw_741 : Cond.methodLink RX4 232 yJ4_setLength_d00df ∈ kg_U := tw_m (i := 741) (by decide +kernel) (by decide +kernel)
set_option maxRecDepth 100000 in
theorem tw_742 : Cond.instanceMethod yJ4_setLength_d00df ∈ kg_U := tw_m (i := 742) (by decide +kernel) (by decide +kernel)
set_option maxRecDepth 100000 in
theorem tw_743 : Cond.selects RJ4 yJ4_setLength_d00df yJ4_setLength_d00df ∈ kg_U := tw_m (i := 743) (by decide +kernel) (by decide +kernel)
set_option maxRecDepth 100000 in
theorem tw_744 : Cond.code yJ4_setLength_d00df cJ4_setLength_d00df 2 none ∈ kg_U := tw_m (i := 744) (by decide +kernel) (by decide +kernel)
set_option maxRecDepth 100000 in
theorem tw_745 : Cond.methodLink RJ4 333 yJ5_setLength_d00df ∈ kg_U := tw_m (i := 745) (by decide +kernel) (by decide +kernel)
set_option maxRecDepth 100000 in
theorem tw_746 : Cond.instanceMethod yJ5_setLength_d00df ∈ kg_U := tw_m (i := 746) (by decide +kernel) (by decide +kernel)
set_option maxRecDepth 100000 in
theorem tw_747 : Cond.code yJ5_setLength_d00df cJ5_setLength_d00df 2 none ∈ kg_U := tw_m (i := 747) (by decide +kernel) (by decide +kernel)
set_option maxRecDepth 100000 in
theorem tw_748 : Cond.methodLink RJ5 100 yJ5_ensureCapacityInternal_d00df ∈ kg_U := tw_m (i := 748) (by decide +kernel) (by decide +kernel)
set_option maxRecDepth 100000 in
theorem tw_750 : Cond.instanceMethod yJ5_ensureCapacityInternal_d00df ∈ kg_U := tw_m (i := 750) (by decide +kernel) (by decide +kernel)
set_option maxRecDepth 100000 in
theorem tw_751 : Cond.code yJ5_ensureCapacityInternal_d00df cJ5_ensureCapacityInternal_d00df 3 none ∈ kg_U := tw_m (i := 751) (by decide +kernel) (by decide +kernel)
set_option maxRecDepth 100000 in
theorem tw_752 : Cond.methodLink RJ5 104 yJ5_newCapacity_0f7a4 ∈ kg_U := tw_m (i := 752) (by decide +kernel) (by decide +kernel)
set_option maxRecDepth 100000 in
theorem tw_754 : Cond.instanceMethod yJ5_newCapacity_0f7a4 ∈ kg_U := tw_m (i := 754) (by decide +kernel) (by decide +kernel)
set_option maxRecDepth 100000 in
theorem tw_755 : Cond.code yJ5_newCapacity_0f7a4 cJ5_newCapacity_0f7a4 6 (some .int) ∈ kg_U := tw_m (i := 755) (by decide +kernel) (by decide +kernel)
set_option maxRecDepth 100000 in
theorem tw_756 : Cond.methodLink RJ5 114 yJ8_newLength_cabcc ∈ kg_U := tw_m (i := 756) (by decide +kernel) (by decide +kernel)
set_option maxRecDepth 100000 in
theorem tw_757 : Cond.static yJ8_newLength_cabcc ∈ kg_U := tw_m (i := 757) (by decide +kernel) (by decide +kernel)
set_option maxRecDepth 100000 in
theorem tw_758 : Cond.code yJ8_newLength_cabcc cJ8_newLength_cabcc 4 (some .int) ∈ kg_U := tw_m (i := 758) (by decide +kernel) (by decide +kernel)
set_option maxRecDepth 100000 in
theorem tw_759 : Cond.methodLink RJ8 194 yJ9_max_7cf53 ∈ kg_U := tw_m (i := 759) (by decide +kernel) (by decide +kernel)
set_option maxRecDepth 100000 in
theorem tw_760 : Cond.constant RJ8 200 (2147483639 : Int32) ∈ kg_U := tw_m (i := 760) (by decide +kernel) (by decide +kernel)
set_option maxRecDepth 100000 in
theorem tw_761 : Cond.methodLink RJ8 201 yJ8_hugeLength_7cf53 ∈ kg_U := tw_m (i := 761) (by decide +kernel) (by decide +kernel)
set_option maxRecDepth 100000 in
theorem tw_762 : Cond.static yJ8_hugeLength_7cf53 ∈ kg_U := tw_m (i := 762) (by decide +kernel) (by decide +kernel)
set_option maxRecDepth 100000 in
theorem tw_763 : Cond.code yJ8_hugeLength_7cf53 cJ8_hugeLength_7cf53 3 (some .int) ∈ kg_U := tw_m (i := 763) (by decide +kernel) (by decide +kernel)
set_option maxRecDepth 100000 in
theorem tw_764 : Cond.constant RJ5 39 (2147483647 : Int32) ∈ kg_U := tw_m (i := 764) (by decide +kernel) (by decide +kernel)
set_option maxRecDepth 100000 in
theorem tw_765 : Cond.methodLink RJ5 108 yJ7_copyOf_9075b ∈ kg_U := tw_m (i := 765) (by decide +kernel) (by decide +kernel)
set_option maxRecDepth 100000 in
theorem tw_766 : Cond.static yJ7_copyOf_9075b ∈ kg_U := tw_m (i := 766) (by decide +kernel) (by decide +kernel)
set_option maxRecDepth 100000 in
theorem tw_767 : Cond.code yJ7_copyOf_9075b cJ7_copyOf_9075b 3 (some (.array .byte)) ∈ kg_U := tw_m (i := 767) (by decide +kernel) (by decide +kernel)
set_option maxRecDepth 100000 in
theorem tw_768 : Cond.methodLink RJ7 310 (⟨"[B", "clone", "()Ljava/lang/Object;"⟩ : MethodName) ∈ kg_U := tw_m (i := 768) (by decide +kernel) (by decide +kernel)
set_option maxRecDepth 100000 in
theorem tw_769 : Cond.sameMethod "[B" "java/lang/Object" "clone" "()Ljava/lang/Object;" ∈ kg_U := tw_m (i := 769) (by decide +kernel) (by decide +kernel)
set_option maxRecDepth 100000 in
theorem tw_770 : Cond.native (⟨"java/lang/Object", "clone", "()Ljava/lang/Object;"⟩ : MethodName) ∈ kg_U := tw_m (i := 770) (by decide +kernel) (by decide +kernel)
set_option maxRecDepth 100000 in
theorem tw_771 : Cond.instanceMethod (⟨"java/lang/Object", "clone", "()Ljava/lang/Object;"⟩ : MethodName) ∈ kg_U := tw_m (i := 771) (by decide +kernel) (by decide +kernel)
set_option maxRecDepth 100000 in
theorem tw_772 : Cond.selects "[B" (⟨"[B", "clone", "()Ljava/lang/Object;"⟩ : MethodName) (⟨"java/lang/Object", "clone", "()Ljava/lang/Object;"⟩ : MethodName) ∈ kg_U := tw_m (i := 772) (by decide +kernel) (by decide +kernel)
set_option maxRecDepth 100000 in
theorem tw_774 : Cond.classLink RJ7 311 "[B" ∈ kg_U := tw_m (i := 774) (by decide +kernel) (by decide +kernel)
set_option maxRecDepth 100000 in
theorem tw_775 : Cond.methodLink RJ7 304 yJ9_min_7cf53 ∈ kg_U := tw_m (i := 775) (by decide +kernel) (by decide +kernel)
set_option maxRecDepth 100000 in
theorem tw_776 : Cond.methodLink RJ7 150 (⟨"java/lang/System", "arraycopy", "(Ljava/lang/Object;ILjava/lang/Object;II)V"⟩ : MethodName) ∈ kg_U := tw_m (i := 776) (by decide +kernel) (by decide +kernel)
set_option maxRecDepth 100000 in
theorem tw_777 : Cond.methodLink RJ5 83 yJ5_isLatin1_aae02 ∈ kg_U := tw_m (i := 777) (by decide +kernel) (by decide +kernel)
set_option maxRecDepth 100000 in
theorem tw_778 : Cond.instanceMethod yJ5_isLatin1_aae02 ∈ kg_U := tw_m (i := 778) (by decide +kernel) (by decide +kernel)
set_option maxRecDepth 100000 in
theorem tw_779 : Cond.sameMethod RJ5 RJ5 "isLatin1" "()Z" ∈ kg_U := tw_m (i := 779) (by decide +kernel) (by decide +kernel)
set_option maxRecDepth 100000 in
theorem tw_780 : Cond.selects RJ4 yJ5_isLatin1_aae02 yJ5_isLatin1_aae02 ∈ kg_U := tw_m (i := 780) (by decide +kernel) (by decide +kernel)
set_option maxRecDepth 100000 in
theorem tw_781 : Cond.code yJ5_isLatin1_aae02 cJ5_isLatin1_aae02 1 (some .boolean) ∈ kg_U := tw_m (i := 781) (by decide +kernel) (by decide +kernel)
set_option maxRecDepth 100000 in
theorem tw_782 : Cond.methodLink RJ5 133 yJ1_fillNull_b72d1 ∈ kg_U := tw_m (i := 782) (by decide +kernel) (by decide +kernel)
set_option maxRecDepth 100000 in
theorem tw_783 : Cond.static yJ1_fillNull_b72d1 ∈ kg_U := tw_m (i := 783) (by decide +kernel) (by decide +kernel)
set_option maxRecDepth 100000 in
theorem tw_784 : Cond.code yJ1_fillNull_b72d1 cJ1_fillNull_b72d1 3 none ∈ kg_U := tw_m (i := 784) (by decide +kernel) (by decide +kernel)
set_option maxRecDepth 100000 in
theorem tw_785 : Cond.methodLink RJ1 236 yJ7_fill_eb02e ∈ kg_U := tw_m (i := 785) (by decide +kernel) (by decide +kernel)
set_option maxRecDepth 100000 in
theorem tw_786 : Cond.static yJ7_fill_eb02e ∈ kg_U := tw_m (i := 786) (by decide +kernel) (by decide +kernel)
set_option maxRecDepth 100000 in
theorem tw_787 : Cond.code yJ7_fill_eb02e cJ7_fill_eb02e 5 none ∈ kg_U := tw_m (i := 787) (by decide +kernel) (by decide +kernel)
set_option maxRecDepth 100000 in
theorem tw_788 : Cond.methodLink RJ7 13 yJ7_rangeCheck_23922 ∈ kg_U := tw_m (i := 788) (by decide +kernel) (by decide +kernel)
set_option maxRecDepth 100000 in
theorem tw_789 : Cond.static yJ7_rangeCheck_23922 ∈ kg_U := tw_m (i := 789) (by decide +kernel) (by decide +kernel)
set_option maxRecDepth 100000 in
theorem tw_790 : Cond.code yJ7_rangeCheck_23922 cJ7_rangeCheck_23922 3 none ∈ kg_U := tw_m (i := 790) (by decide +kernel) (by decide +kernel)
set_option maxRecDepth 100000 in
theorem tw_791 : Cond.methodLink RJ5 137 yJ2_fillNull_b72d1 ∈ kg_U := tw_m (i := 791) (by decide +kernel) (by decide +kernel)
set_option maxRecDepth 100000 in
theorem tw_792 : Cond.static yJ2_fillNull_b72d1 ∈ kg_U := tw_m (i := 792) (by decide +kernel) (by decide +kernel)
set_option maxRecDepth 100000 in
theorem tw_793 : Cond.code yJ2_fillNull_b72d1 cJ2_fillNull_b72d1 3 none ∈ kg_U := tw_m (i := 793) (by decide +kernel) (by decide +kernel)
set_option maxRecDepth 100000 in
theorem tw_794 : Cond.methodLink RJ2 380 yJ7_fill_eb02e ∈ kg_U := tw_m (i := 794) (by decide +kernel) (by decide +kernel)
set_option maxRecDepth 100000 in
theorem tw_795 : Cond.methodLink RX4 236 yJ4_append_bf812 ∈ kg_U := tw_m (i := 795) (by decide +kernel) (by decide +kernel)
set_option maxRecDepth 100000 in
theorem tw_796 : Cond.instanceMethod yJ4_append_bf812 ∈ kg_U := tw_m (i := 796) (by decide +kernel) (by decide +kernel)
set_option maxRecDepth 100000 in
theorem tw_797 : Cond.selects RJ4 yJ4_append_bf812 yJ4_append_bf812 ∈ kg_U := tw_m (i := 797) (by decide +kernel) (by decide +kernel)
set_option maxRecDepth 100000 in
theorem tw_798 : Cond.code yJ4_append_bf812 cJ4_append_bf812 2 (some (.object "java/lang/StringBuilder")) ∈ kg_U := tw_m (i := 798) (by decide +kernel) (by decide +kernel)
set_option maxRecDepth 100000 in
theorem tw_799 : Cond.methodLink RJ4 53 yJ5_append_c97b9 ∈ kg_U := tw_m (i := 799) (by decide +kernel) (by decide +kernel)
set_option maxRecDepth 100000 in
theorem tw_800 : Cond.instanceMethod yJ5_append_c97b9 ∈ kg_U := tw_m (i := 800) (by decide +kernel) (by decide +kernel)
set_option maxRecDepth 100000 in
theorem tw_801 : Cond.code yJ5_append_c97b9 cJ5_append_c97b9 4 (some (.object "java/lang/AbstractStringBuilder")) ∈ kg_U := tw_m (i := 801) (by decide +kernel) (by decide +kernel)
set_option maxRecDepth 100000 in
theorem tw_802 : Cond.methodLink RJ5 245 yJ6_stringSize_0f7a4 ∈ kg_U := tw_m (i := 802) (by decide +kernel) (by decide +kernel)
set_option maxRecDepth 100000 in
theorem tw_803 : Cond.static yJ6_stringSize_0f7a4 ∈ kg_U := tw_m (i := 803) (by decide +kernel) (by decide +kernel)
set_option maxRecDepth 100000 in
theorem tw_804 : Cond.code yJ6_stringSize_0f7a4 cJ6_stringSize_0f7a4 4 (some .int) ∈ kg_U := tw_m (i := 804) (by decide +kernel) (by decide +kernel)
set_option maxRecDepth 100000 in
theorem tw_805 : Cond.methodLink RJ5 248 yJ6_getChars_ba4f3 ∈ kg_U := tw_m (i := 805) (by decide +kernel) (by decide +kernel)
set_option maxRecDepth 100000 in
theorem tw_806 : Cond.static yJ6_getChars_ba4f3 ∈ kg_U := tw_m (i := 806) (by decide +kernel) (by decide +kernel)
set_option maxRecDepth 100000 in
theorem tw_807 : Cond.code yJ6_getChars_ba4f3 cJ6_getChars_ba4f3 7 (some .int) ∈ kg_U := tw_m (i := 807) (by decide +kernel) (by decide +kernel)
set_option maxRecDepth 100000 in
theorem tw_808 : Cond.fieldLink RJ6 83 "java/lang/Integer" "DigitOnes" "[B" ∈ kg_U := tw_m (i := 808) (by decide +kernel) (by decide +kernel)
set_option maxRecDepth 100000 in
theorem tw_810 : Cond.fieldLink RJ6 87 "java/lang/Integer" "DigitTens" "[B" ∈ kg_U := tw_m (i := 810) (by decide +kernel) (by decide +kernel)
set_option maxRecDepth 100000 in
theorem tw_812 : Cond.methodLink RJ5 251 yJ2_getChars_46870 ∈ kg_U := tw_m (i := 812) (by decide +kernel) (by decide +kernel)
set_option maxRecDepth 100000 in
theorem tw_813 : Cond.static yJ2_getChars_46870 ∈ kg_U := tw_m (i := 813) (by decide +kernel) (by decide +kernel)
set_option maxRecDepth 100000 in
theorem tw_814 : Cond.code yJ2_getChars_46870 cJ2_getChars_46870 5 (some .int) ∈ kg_U := tw_m (i := 814) (by decide +kernel) (by decide +kernel)
set_option maxRecDepth 100000 in
theorem tw_815 : Cond.methodLink RJ2 96 yJ2_checkBoundsBeginEnd_d044e ∈ kg_U := tw_m (i := 815) (by decide +kernel) (by decide +kernel)
set_option maxRecDepth 100000 in
theorem tw_816 : Cond.static yJ2_checkBoundsBeginEnd_d044e ∈ kg_U := tw_m (i := 816) (by decide +kernel) (by decide +kernel)
set_option maxRecDepth 100000 in
theorem tw_817 : Cond.code yJ2_checkBoundsBeginEnd_d044e cJ2_checkBoundsBeginEnd_d044e 3 none ∈ kg_U := tw_m (i := 817) (by decide +kernel) (by decide +kernel)
set_option maxRecDepth 100000 in
theorem tw_818 : Cond.methodLink RJ2 241 yJ0_checkBoundsBeginEnd_23922 ∈ kg_U := tw_m (i := 818) (by decide +kernel) (by decide +kernel)
set_option maxRecDepth 100000 in
theorem tw_819 : Cond.static yJ0_checkBoundsBeginEnd_23922 ∈ kg_U := tw_m (i := 819) (by decide +kernel) (by decide +kernel)
set_option maxRecDepth 100000 in
theorem tw_820 : Cond.code yJ0_checkBoundsBeginEnd_23922 cJ0_checkBoundsBeginEnd_23922 3 none ∈ kg_U := tw_m (i := 820) (by decide +kernel) (by decide +kernel)
set_option maxRecDepth 100000 in
theorem tw_821 : Cond.methodLink RJ0 1062 yJ3_checkFromToIndex_8c36e ∈ kg_U := tw_m (i := 821) (by decide +kernel) (by decide +kernel)
set_option maxRecDepth 100000 in
theorem tw_822 : Cond.static yJ3_checkFromToIndex_8c36e ∈ kg_U := tw_m (i := 822) (by decide +kernel) (by decide +kernel)
set_option maxRecDepth 100000 in
theorem tw_823 : Cond.code yJ3_checkFromToIndex_8c36e cJ3_checkFromToIndex_8c36e 4 (some .int) ∈ kg_U := tw_m (i := 823) (by decide +kernel) (by decide +kernel)
set_option maxRecDepth 100000 in
theorem tw_824 : Cond.methodLink RJ2 393 yJ2_getChars_ba4f3 ∈ kg_U := tw_m (i := 824) (by decide +kernel) (by decide +kernel)
set_option maxRecDepth 100000 in
theorem tw_825 : Cond.static yJ2_getChars_ba4f3 ∈ kg_U := tw_m (i := 825) (by decide +kernel) (by decide +kernel)
set_option maxRecDepth 100000 in
theorem tw_826 : Cond.code yJ2_getChars_ba4f3 cJ2_getChars_ba4f3 7 (some .int) ∈ kg_U := tw_m (i := 826) (by decide +kernel) (by decide +kernel)
set_option maxRecDepth 100000 in
theorem tw_827 : Cond.fieldLink RJ2 403 "java/lang/Integer" "DigitOnes" "[B" ∈ kg_U := tw_m (i := 827) (by decide +kernel) (by decide +kernel)
set_option maxRecDepth 100000 in
theorem tw_828 : Cond.methodLink RJ2 111 yJ2_putChar_b72d1 ∈ kg_U := tw_m (i := 828) (by decide +kernel) (by decide +kernel)
set_option maxRecDepth 100000 in
theorem tw_829 : Cond.static yJ2_putChar_b72d1 ∈ kg_U := tw_m (i := 829) (by decide +kernel) (by decide +kernel)
set_option maxRecDepth 100000 in
theorem tw_830 : Cond.code yJ2_putChar_b72d1 cJ2_putChar_b72d1 3 none ∈ kg_U := tw_m (i := 830) (by decide +kernel) (by decide +kernel)
set_option maxRecDepth 100000 in
theorem tw_831 : Cond.fieldLink RJ2 407 "java/lang/Integer" "DigitTens" "[B" ∈ kg_U := tw_m (i := 831) (by decide +kernel) (by decide +kernel)
set_option maxRecDepth 100000 in
theorem tw_832 : Cond.methodLink RX4 240 yJ4_append_cf468 ∈ kg_U := tw_m (i := 832) (by decide +kernel) (by decide +kernel)
set_option maxRecDepth 100000 in
theorem tw_833 : Cond.instanceMethod yJ4_append_cf468 ∈ kg_U := tw_m (i := 833) (by decide +kernel) (by decide +kernel)
set_option maxRecDepth 100000 in
theorem tw_834 : Cond.selects RJ4 yJ4_append_cf468 yJ4_append_cf468 ∈ kg_U := tw_m (i := 834) (by decide +kernel) (by decide +kernel)
set_option maxRecDepth 100000 in
theorem tw_835 : Cond.code yJ4_append_cf468 cJ4_append_cf468 2 (some (.object "java/lang/StringBuilder")) ∈ kg_U := tw_m (i := 835) (by decide +kernel) (by decide +kernel)
set_option maxRecDepth 100000 in
theorem tw_836 : Cond.methodLink RJ4 50 yJ5_append_3fe6f ∈ kg_U := tw_m (i := 836) (by decide +kernel) (by decide +kernel)
set_option maxRecDepth 100000 in
theorem tw_837 : Cond.instanceMethod yJ5_append_3fe6f ∈ kg_U := tw_m (i := 837) (by decide +kernel) (by decide +kernel)
set_option maxRecDepth 100000 in
theorem tw_838 : Cond.code yJ5_append_3fe6f cJ5_append_3fe6f 2 (some (.object "java/lang/AbstractStringBuilder")) ∈ kg_U := tw_m (i := 838) (by decide +kernel) (by decide +kernel)
set_option maxRecDepth 100000 in
theorem tw_839 : Cond.methodLink RJ5 191 yJ1_canEncode_fc78d ∈ kg_U := tw_m (i := 839) (by decide +kernel) (by decide +kernel)
set_option maxRecDepth 100000 in
theorem tw_840 : Cond.static yJ1_canEncode_fc78d ∈ kg_U := tw_m (i := 840) (by decide +kernel) (by decide +kernel)
set_option maxRecDepth 100000 in
theorem tw_841 : Cond.code yJ1_canEncode_fc78d cJ1_canEncode_fc78d 1 (some .boolean) ∈ kg_U := tw_m (i := 841) (by decide +kernel) (by decide +kernel)
set_option maxRecDepth 100000 in
theorem tw_842 : Cond.methodLink RJ5 195 yJ5_inflate_da8c8 ∈ kg_U := tw_m (i := 842) (by decide +kernel) (by decide +kernel)
set_option maxRecDepth 100000 in
theorem tw_844 : Cond.instanceMethod yJ5_inflate_da8c8 ∈ kg_U := tw_m (i := 844) (by decide +kernel) (by decide +kernel)
set_option maxRecDepth 100000 in
theorem tw_845 : Cond.code yJ5_inflate_da8c8 cJ5_inflate_da8c8 2 none ∈ kg_U := tw_m (i := 845) (by decide +kernel) (by decide +kernel)
set_option maxRecDepth 100000 in
theorem tw_846 : Cond.methodLink RJ5 125 yJ1_inflate_0e8fd ∈ kg_U := tw_m (i := 846) (by decide +kernel) (by decide +kernel)
set_option maxRecDepth 100000 in
theorem tw_847 : Cond.static yJ1_inflate_0e8fd ∈ kg_U := tw_m (i := 847) (by decide +kernel) (by decide +kernel)
set_option maxRecDepth 100000 in
theorem tw_848 : Cond.code yJ1_inflate_0e8fd cJ1_inflate_0e8fd 5 none ∈ kg_U := tw_m (i := 848) (by decide +kernel) (by decide +kernel)
set_option maxRecDepth 100000 in
theorem tw_849 : Cond.methodLink RJ1 240 yJ2_inflate_0e8fd ∈ kg_U := tw_m (i := 849) (by decide +kernel) (by decide +kernel)
set_option maxRecDepth 100000 in
theorem tw_850 : Cond.static yJ2_inflate_0e8fd ∈ kg_U := tw_m (i := 850) (by decide +kernel) (by decide +kernel)
set_option maxRecDepth 100000 in
theorem tw_851 : Cond.code yJ2_inflate_0e8fd cJ2_inflate_0e8fd 6 none ∈ kg_U := tw_m (i := 851) (by decide +kernel) (by decide +kernel)
set_option maxRecDepth 100000 in
theorem tw_852 : Cond.methodLink RJ2 173 yJ2_checkBoundsOffCount_d044e ∈ kg_U := tw_m (i := 852) (by decide +kernel) (by decide +kernel)
set_option maxRecDepth 100000 in
theorem tw_853 : Cond.static yJ2_checkBoundsOffCount_d044e ∈ kg_U := tw_m (i := 853) (by decide +kernel) (by decide +kernel)
set_option maxRecDepth 100000 in
theorem tw_854 : Cond.code yJ2_checkBoundsOffCount_d044e cJ2_checkBoundsOffCount_d044e 3 none ∈ kg_U := tw_m (i := 854) (by decide +kernel) (by decide +kernel)
set_option maxRecDepth 100000 in
theorem tw_855 : Cond.methodLink RJ2 419 yJ0_checkBoundsOffCount_cabcc ∈ kg_U := tw_m (i := 855) (by decide +kernel) (by decide +kernel)
set_option maxRecDepth 100000 in
theorem tw_856 : Cond.static yJ0_checkBoundsOffCount_cabcc ∈ kg_U := tw_m (i := 856) (by decide +kernel) (by decide +kernel)
set_option maxRecDepth 100000 in
theorem tw_857 : Cond.code yJ0_checkBoundsOffCount_cabcc cJ0_checkBoundsOffCount_cabcc 3 (some .int) ∈ kg_U := tw_m (i := 857) (by decide +kernel) (by decide +kernel)
set_option maxRecDepth 100000 in
theorem tw_858 : Cond.methodLink RJ0 1065 yJ3_checkFromIndexSize_8c36e ∈ kg_U := tw_m (i := 858) (by decide +kernel) (by decide +kernel)
set_option maxRecDepth 100000 in
theorem tw_859 : Cond.static yJ3_checkFromIndexSize_8c36e ∈ kg_U := tw_m (i := 859) (by decide +kernel) (by decide +kernel)
set_option maxRecDepth 100000 in
theorem tw_860 : Cond.code yJ3_checkFromIndexSize_8c36e cJ3_checkFromIndexSize_8c36e 4 (some .int) ∈ kg_U := tw_m (i := 860) (by decide +kernel) (by decide +kernel)
set_option maxRecDepth 100000 in
theorem tw_861 : Cond.methodLink RJ5 197 yJ2_putCharSB_b72d1 ∈ kg_U := tw_m (i := 861) (by decide +kernel) (by decide +kernel)
set_option maxRecDepth 100000 in
theorem tw_862 : Cond.static yJ2_putCharSB_b72d1 ∈ kg_U := tw_m (i := 862) (by decide +kernel) (by decide +kernel)
set_option maxRecDepth 100000 in
theorem tw_863 : Cond.code yJ2_putCharSB_b72d1 cJ2_putCharSB_b72d1 3 none ∈ kg_U := tw_m (i := 863) (by decide +kernel) (by decide +kernel)
set_option maxRecDepth 100000 in
theorem tw_864 : Cond.methodLink RX4 243 yX4_tellSigns ∈ kg_U := tw_m (i := 864) (by decide +kernel) (by decide +kernel)
set_option maxRecDepth 100000 in
theorem tw_866 : Cond.instanceMethod yX4_tellSigns ∈ kg_U := tw_m (i := 866) (by decide +kernel) (by decide +kernel)
set_option maxRecDepth 100000 in
theorem tw_867 : Cond.code yX4_tellSigns cX4_tellSigns 2 none ∈ kg_U := tw_m (i := 867) (by decide +kernel) (by decide +kernel)
set_option maxRecDepth 100000 in
theorem tw_868 : Cond.methodLink RX4 246 yJ4_length_8abf5 ∈ kg_U := tw_m (i := 868) (by decide +kernel) (by decide +kernel)
set_option maxRecDepth 100000 in
theorem tw_869 : Cond.instanceMethod yJ4_length_8abf5 ∈ kg_U := tw_m (i := 869) (by decide +kernel) (by decide +kernel)
set_option maxRecDepth 100000 in
theorem tw_870 : Cond.selects RJ4 yJ4_length_8abf5 yJ4_length_8abf5 ∈ kg_U := tw_m (i := 870) (by decide +kernel) (by decide +kernel)
set_option maxRecDepth 100000 in
theorem tw_871 : Cond.code yJ4_length_8abf5 cJ4_length_8abf5 1 (some .int) ∈ kg_U := tw_m (i := 871) (by decide +kernel) (by decide +kernel)
set_option maxRecDepth 100000 in
theorem tw_872 : Cond.methodLink RJ4 343 yJ5_length_8abf5 ∈ kg_U := tw_m (i := 872) (by decide +kernel) (by decide +kernel)
set_option maxRecDepth 100000 in
theorem tw_873 : Cond.instanceMethod yJ5_length_8abf5 ∈ kg_U := tw_m (i := 873) (by decide +kernel) (by decide +kernel)
set_option maxRecDepth 100000 in
theorem tw_874 : Cond.code yJ5_length_8abf5 cJ5_length_8abf5 1 (some .int) ∈ kg_U := tw_m (i := 874) (by decide +kernel) (by decide +kernel)
set_option maxRecDepth 100000 in
theorem tw_875 : Cond.methodLink RL 118 yX4_tellStoves ∈ kg_U := tw_m (i := 875) (by decide +kernel) (by decide +kernel)
set_option maxRecDepth 100000 in
theorem tw_876 : Cond.instanceMethod yX4_tellStoves ∈ kg_U := tw_m (i := 876) (by decide +kernel) (by decide +kernel)
set_option maxRecDepth 100000 in
theorem tw_877 : Cond.selects RX4 yX4_tellStoves yX4_tellStoves ∈ kg_U := tw_m (i := 877) (by decide +kernel) (by decide +kernel)
set_option maxRecDepth 100000 in
theorem tw_878 : Cond.code yX4_tellStoves cX4_tellStoves 3 (some .int) ∈ kg_U := tw_m (i := 878) (by decide +kernel) (by decide +kernel)
set_option maxRecDepth 100000 in
theorem tw_879 : Cond.methodLink RL 122 yX4_character ∈ kg_U := tw_m (i := 879) (by decide +kernel) (by decide +kernel)
set_option maxRecDepth 100000 in
theorem tw_880 : Cond.instanceMethod yX4_character ∈ kg_U := tw_m (i := 880) (by decide +kernel) (by decide +kernel)
set_option maxRecDepth 100000 in
theorem tw_881 : Cond.selects RX4 yX4_character yX4_character ∈ kg_U := tw_m (i := 881) (by decide +kernel) (by decide +kernel)
set_option maxRecDepth 100000 in
theorem tw_882 : Cond.code yX4_character cX4_character 2 (some .int) ∈ kg_U := tw_m (i := 882) (by decide +kernel) (by decide +kernel)
set_option maxRecDepth 100000 in
theorem tw_883 : Cond.methodLink RX4 248 yJ4_charAt_5068e ∈ kg_U := tw_m (i := 883) (by decide +kernel) (by decide +kernel)
set_option maxRecDepth 100000 in
theorem tw_884 : Cond.instanceMethod yJ4_charAt_5068e ∈ kg_U := tw_m (i := 884) (by decide +kernel) (by decide +kernel)
set_option maxRecDepth 100000 in
theorem tw_885 : Cond.selects RJ4 yJ4_charAt_5068e yJ4_charAt_5068e ∈ kg_U := tw_m (i := 885) (by decide +kernel) (by decide +kernel)
set_option maxRecDepth 100000 in
theorem tw_886 : Cond.code yJ4_charAt_5068e cJ4_charAt_5068e 2 (some .char) ∈ kg_U := tw_m (i := 886) (by decide +kernel) (by decide +kernel)
set_option maxRecDepth 100000 in
theorem tw_887 : Cond.methodLink RJ4 329 yJ5_charAt_5068e ∈ kg_U := tw_m (i := 887) (by decide +kernel) (by decide +kernel)
set_option maxRecDepth 100000 in
theorem tw_888 : Cond.instanceMethod yJ5_charAt_5068e ∈ kg_U := tw_m (i := 888) (by decide +kernel) (by decide +kernel)
set_option maxRecDepth 100000 in
theorem tw_889 : Cond.code yJ5_charAt_5068e cJ5_charAt_5068e 5 (some .char) ∈ kg_U := tw_m (i := 889) (by decide +kernel) (by decide +kernel)
set_option maxRecDepth 100000 in
theorem tw_890 : Cond.methodLink RJ5 138 yJ9_min_7cf53 ∈ kg_U := tw_m (i := 890) (by decide +kernel) (by decide +kernel)
set_option maxRecDepth 100000 in
theorem tw_891 : Cond.methodLink RJ5 144 yJ0_checkIndex_df160 ∈ kg_U := tw_m (i := 891) (by decide +kernel) (by decide +kernel)
set_option maxRecDepth 100000 in
theorem tw_892 : Cond.methodLink RJ5 148 yJ2_getChar_3b067 ∈ kg_U := tw_m (i := 892) (by decide +kernel) (by decide +kernel)
set_option maxRecDepth 100000 in
theorem tw_893 : Cond.methodLink RL 126 yX4_reason ∈ kg_U := tw_m (i := 893) (by decide +kernel) (by decide +kernel)
set_option maxRecDepth 100000 in
theorem tw_894 : Cond.instanceMethod yX4_reason ∈ kg_U := tw_m (i := 894) (by decide +kernel) (by decide +kernel)
set_option maxRecDepth 100000 in
theorem tw_895 : Cond.selects RX4 yX4_reason yX4_reason ∈ kg_U := tw_m (i := 895) (by decide +kernel) (by decide +kernel)
set_option maxRecDepth 100000 in
theorem tw_896 : Cond.code yX4_reason cX4_reason 3 (some .int) ∈ kg_U := tw_m (i := 896) (by decide +kernel) (by decide +kernel)
set_option maxRecDepth 100000 in
theorem tw_897 : Cond.methodLink RL 130 yX4_account ∈ kg_U := tw_m (i := 897) (by decide +kernel) (by decide +kernel)
set_option maxRecDepth 100000 in
theorem tw_898 : Cond.instanceMethod yX4_account ∈ kg_U := tw_m (i := 898) (by decide +kernel) (by decide +kernel)
set_option maxRecDepth 100000 in
theorem tw_899 : Cond.selects RX4 yX4_account yX4_account ∈ kg_U := tw_m (i := 899) (by decide +kernel) (by decide +kernel)
set_option maxRecDepth 100000 in
theorem tw_900 : Cond.code yX4_account cX4_account 2 (some .int) ∈ kg_U := tw_m (i := 900) (by decide +kernel) (by decide +kernel)
set_option maxRecDepth 100000 in
theorem tw_901 : Cond.methodLink RX4 262 yX3_countBoiling ∈ kg_U := tw_m (i := 901) (by decide +kernel) (by decide +kernel)
set_option maxRecDepth 100000 in
theorem tw_902 : Cond.instanceMethod yX3_countBoiling ∈ kg_U := tw_m (i := 902) (by decide +kernel) (by decide +kernel)
set_option maxRecDepth 100000 in
theorem tw_903 : Cond.selects RX3 yX3_countBoiling yX3_countBoiling ∈ kg_U := tw_m (i := 903) (by decide +kernel) (by decide +kernel)
set_option maxRecDepth 100000 in
theorem tw_904 : Cond.code yX3_countBoiling cX3_countBoiling 3 (some .int) ∈ kg_U := tw_m (i := 904) (by decide +kernel) (by decide +kernel)
set_option maxRecDepth 100000 in
theorem tw_905 : Cond.methodLink RX4 268 yX3_countLidsBarred ∈ kg_U := tw_m (i := 905) (by decide +kernel) (by decide +kernel)
set_option maxRecDepth 100000 in
theorem tw_906 : Cond.instanceMethod yX3_countLidsBarred ∈ kg_U := tw_m (i := 906) (by decide +kernel) (by decide +kernel)
set_option maxRecDepth 100000 in
theorem tw_907 : Cond.selects RX3 yX3_countLidsBarred yX3_countLidsBarred ∈ kg_U := tw_m (i := 907) (by decide +kernel) (by decide +kernel)
set_option maxRecDepth 100000 in
theorem tw_908 : Cond.code yX3_countLidsBarred cX3_countLidsBarred 3 (some .int) ∈ kg_U := tw_m (i := 908) (by decide +kernel) (by decide +kernel)
set_option maxRecDepth 100000 in
theorem tw_909 : Cond.methodLink RX4 274 yX3_sumWater ∈ kg_U := tw_m (i := 909) (by decide +kernel) (by decide +kernel)
set_option maxRecDepth 100000 in
theorem tw_910 : Cond.instanceMethod yX3_sumWater ∈ kg_U := tw_m (i := 910) (by decide +kernel) (by decide +kernel)
set_option maxRecDepth 100000 in
theorem tw_911 : Cond.selects RX3 yX3_sumWater yX3_sumWater ∈ kg_U := tw_m (i := 911) (by decide +kernel) (by decide +kernel)
set_option maxRecDepth 100000 in
theorem tw_912 : Cond.code yX3_sumWater cX3_sumWater 3 (some .int) ∈ kg_U := tw_m (i := 912) (by decide +kernel) (by decide +kernel)
set_option maxRecDepth 100000 in
theorem tw_913 : Cond.methodLink RX4 283 yX4_sumOf ∈ kg_U := tw_m (i := 913) (by decide +kernel) (by decide +kernel)
set_option maxRecDepth 100000 in
theorem tw_914 : Cond.static yX4_sumOf ∈ kg_U := tw_m (i := 914) (by decide +kernel) (by decide +kernel)
set_option maxRecDepth 100000 in
theorem tw_915 : Cond.code yX4_sumOf cX4_sumOf 6 (some .int) ∈ kg_U := tw_m (i := 915) (by decide +kernel) (by decide +kernel)
set_option maxRecDepth 100000 in
theorem tw_916 : Cond.methodLink RL 134 yX4_isBalanced ∈ kg_U := tw_m (i := 916) (by decide +kernel) (by decide +kernel)
set_option maxRecDepth 100000 in
theorem tw_917 : Cond.instanceMethod yX4_isBalanced ∈ kg_U := tw_m (i := 917) (by decide +kernel) (by decide +kernel)
set_option maxRecDepth 100000 in
theorem tw_918 : Cond.selects RX4 yX4_isBalanced yX4_isBalanced ∈ kg_U := tw_m (i := 918) (by decide +kernel) (by decide +kernel)
set_option maxRecDepth 100000 in
theorem tw_919 : Cond.code yX4_isBalanced cX4_isBalanced 3 (some .int) ∈ kg_U := tw_m (i := 919) (by decide +kernel) (by decide +kernel)
set_option maxRecDepth 100000 in
theorem tw_920 : Cond.methodLink RX4 288 yX4_harmony ∈ kg_U := tw_m (i := 920) (by decide +kernel) (by decide +kernel)
set_option maxRecDepth 100000 in
theorem tw_921 : Cond.methodLink RX4 291 yX4_harmonyAgain ∈ kg_U := tw_m (i := 921) (by decide +kernel) (by decide +kernel)
set_option maxRecDepth 100000 in
theorem tw_922 : Cond.methodLink RX4 294 yX4_isBoilingSame ∈ kg_U := tw_m (i := 922) (by decide +kernel) (by decide +kernel)
set_option maxRecDepth 100000 in
theorem tw_924 : Cond.instanceMethod yX4_isBoilingSame ∈ kg_U := tw_m (i := 924) (by decide +kernel) (by decide +kernel)
set_option maxRecDepth 100000 in
theorem tw_925 : Cond.code yX4_isBoilingSame cX4_isBoilingSame 2 (some .boolean) ∈ kg_U := tw_m (i := 925) (by decide +kernel) (by decide +kernel)
set_option maxRecDepth 100000 in
theorem tw_926 : Cond.methodLink RX4 314 yX4_boilsInAgain ∈ kg_U := tw_m (i := 926) (by decide +kernel) (by decide +kernel)
set_option maxRecDepth 100000 in
theorem tw_927 : Cond.methodLink RX4 298 yX3_hasPitchOnTwoStoves ∈ kg_U := tw_m (i := 927) (by decide +kernel) (by decide +kernel)
set_option maxRecDepth 100000 in
theorem tw_928 : Cond.instanceMethod yX3_hasPitchOnTwoStoves ∈ kg_U := tw_m (i := 928) (by decide +kernel) (by decide +kernel)
set_option maxRecDepth 100000 in
theorem tw_929 : Cond.selects RX3 yX3_hasPitchOnTwoStoves yX3_hasPitchOnTwoStoves ∈ kg_U := tw_m (i := 929) (by decide +kernel) (by decide +kernel)
set_option maxRecDepth 100000 in
theorem tw_930 : Cond.code yX3_hasPitchOnTwoStoves cX3_hasPitchOnTwoStoves 3 (some .boolean) ∈ kg_U := tw_m (i := 930) (by decide +kernel) (by decide +kernel)
set_option maxRecDepth 100000 in
theorem tw_931 : Cond.methodLink RL 138 yX4_meanWater ∈ kg_U := tw_m (i := 931) (by decide +kernel) (by decide +kernel)
set_option maxRecDepth 100000 in
theorem tw_932 : Cond.instanceMethod yX4_meanWater ∈ kg_U := tw_m (i := 932) (by decide +kernel) (by decide +kernel)
set_option maxRecDepth 100000 in
theorem tw_933 : Cond.selects RX4 yX4_meanWater yX4_meanWater ∈ kg_U := tw_m (i := 933) (by decide +kernel) (by decide +kernel)
set_option maxRecDepth 100000 in
theorem tw_934 : Cond.code yX4_meanWater cX4_meanWater 1 (some .double) ∈ kg_U := tw_m (i := 934) (by decide +kernel) (by decide +kernel)
set_option maxRecDepth 100000 in
theorem tw_935 : Cond.methodLink RL 143 yX4_whistleShare ∈ kg_U := tw_m (i := 935) (by decide +kernel) (by decide +kernel)
set_option maxRecDepth 100000 in
theorem tw_936 : Cond.instanceMethod yX4_whistleShare ∈ kg_U := tw_m (i := 936) (by decide +kernel) (by decide +kernel)
set_option maxRecDepth 100000 in
theorem tw_937 : Cond.selects RX4 yX4_whistleShare yX4_whistleShare ∈ kg_U := tw_m (i := 937) (by decide +kernel) (by decide +kernel)
set_option maxRecDepth 100000 in
theorem tw_938 : Cond.code yX4_whistleShare cX4_whistleShare 2 (some .float) ∈ kg_U := tw_m (i := 938) (by decide +kernel) (by decide +kernel)
set_option maxRecDepth 100000 in
theorem tw_939 : Cond.methodLink RL 148 yX4_undo ∈ kg_U := tw_m (i := 939) (by decide +kernel) (by decide +kernel)
set_option maxRecDepth 100000 in
theorem tw_940 : Cond.instanceMethod yX4_undo ∈ kg_U := tw_m (i := 940) (by decide +kernel) (by decide +kernel)
set_option maxRecDepth 100000 in
theorem tw_941 : Cond.selects RX4 yX4_undo yX4_undo ∈ kg_U := tw_m (i := 941) (by decide +kernel) (by decide +kernel)
set_option maxRecDepth 100000 in
theorem tw_942 : Cond.code yX4_undo cX4_undo 1 (some .int) ∈ kg_U := tw_m (i := 942) (by decide +kernel) (by decide +kernel)
set_option maxRecDepth 100000 in
theorem tw_943 : Cond.methodLink RX4 301 yX0_takeBackLatest ∈ kg_U := tw_m (i := 943) (by decide +kernel) (by decide +kernel)
set_option maxRecDepth 100000 in
theorem tw_944 : Cond.instanceMethod yX0_takeBackLatest ∈ kg_U := tw_m (i := 944) (by decide +kernel) (by decide +kernel)
set_option maxRecDepth 100000 in
theorem tw_945 : Cond.selects RX0 yX0_takeBackLatest yX0_takeBackLatest ∈ kg_U := tw_m (i := 945) (by decide +kernel) (by decide +kernel)
set_option maxRecDepth 100000 in
theorem tw_946 : Cond.code yX0_takeBackLatest cX0_takeBackLatest 2 none ∈ kg_U := tw_m (i := 946) (by decide +kernel) (by decide +kernel)
set_option maxRecDepth 100000 in
theorem tw_947 : Cond.methodLink RX0 35 yJ9_max_7cf53 ∈ kg_U := tw_m (i := 947) (by decide +kernel) (by decide +kernel)
set_option maxRecDepth 100000 in
theorem tw_948 : Cond.methodLink RL 152 yX4_save ∈ kg_U := tw_m (i := 948) (by decide +kernel) (by decide +kernel)
set_option maxRecDepth 100000 in
theorem tw_949 : Cond.instanceMethod yX4_save ∈ kg_U := tw_m (i := 949) (by decide +kernel) (by decide +kernel)
set_option maxRecDepth 100000 in
theorem tw_950 : Cond.selects RX4 yX4_save yX4_save ∈ kg_U := tw_m (i := 950) (by decide +kernel) (by decide +kernel)
set_option maxRecDepth 100000 in
theorem tw_951 : Cond.code yX4_save cX4_save 1 (some .int) ∈ kg_U := tw_m (i := 951) (by decide +kernel) (by decide +kernel)
set_option maxRecDepth 100000 in
theorem tw_952 : Cond.methodLink RX4 304 yX3_copyFrom ∈ kg_U := tw_m (i := 952) (by decide +kernel) (by decide +kernel)
set_option maxRecDepth 100000 in
theorem tw_953 : Cond.methodLink RL 156 yX4_restore ∈ kg_U := tw_m (i := 953) (by decide +kernel) (by decide +kernel)
set_option maxRecDepth 100000 in
theorem tw_954 : Cond.instanceMethod yX4_restore ∈ kg_U := tw_m (i := 954) (by decide +kernel) (by decide +kernel)
set_option maxRecDepth 100000 in
theorem tw_955 : Cond.selects RX4 yX4_restore yX4_restore ∈ kg_U := tw_m (i := 955) (by decide +kernel) (by decide +kernel)
set_option maxRecDepth 100000 in
theorem tw_956 : Cond.code yX4_restore cX4_restore 1 (some .int) ∈ kg_U := tw_m (i := 956) (by decide +kernel) (by decide +kernel)
set_option maxRecDepth 100000 in
theorem tw_957 : Cond.classLink RL 10 RX5 ∈ kg_U := tw_m (i := 957) (by decide +kernel) (by decide +kernel)
set_option maxRecDepth 100000 in
theorem tw_958 : Cond.instantiable RX5 14 ∈ kg_U := tw_m (i := 958) (by decide +kernel) (by decide +kernel)
set_option maxRecDepth 100000 in
theorem tw_959 : Cond.methodLink RL 12 yX5_init ∈ kg_U := tw_m (i := 959) (by decide +kernel) (by decide +kernel)
set_option maxRecDepth 100000 in
theorem tw_960 : Cond.instanceMethod yX5_init ∈ kg_U := tw_m (i := 960) (by decide +kernel) (by decide +kernel)
set_option maxRecDepth 100000 in
theorem tw_961 : Cond.code yX5_init cX5_init 1 none ∈ kg_U := tw_m (i := 961) (by decide +kernel) (by decide +kernel)
set_option maxRecDepth 100000 in
theorem tw_962 : Cond.methodLink RX5 1 (⟨"java/lang/Object", "<init>", "()V"⟩ : MethodName) ∈ kg_U := tw_m (i := 962) (by decide +kernel) (by decide +kernel)
set_option maxRecDepth 100000 in
theorem tw_963 : Cond.fieldLink RX5 9 "KettleGuildModel" "all" "[I" ∈ kg_U := tw_m (i := 963) (by decide +kernel) (by decide +kernel)
set_option maxRecDepth 100000 in
theorem tw_964 : Cond.fieldLink RX5 33 "KettleGuildModel" "changes" "I" ∈ kg_U := tw_m (i := 964) (by decide +kernel) (by decide +kernel)
set_option maxRecDepth 100000 in
theorem tw_965 : Cond.fieldLink RX5 230 "KettleGuildModel" "isSaved" "Z" ∈ kg_U := tw_m (i := 965) (by decide +kernel) (by decide +kernel)
set_option maxRecDepth 100000 in
theorem tw_966 : Cond.fieldLink RX5 13 "KettleGuildModel" "whys" "[I" ∈ kg_U := tw_m (i := 966) (by decide +kernel) (by decide +kernel)
set_option maxRecDepth 100000 in
theorem tw_967 : Cond.fieldLink RX5 16 "KettleGuildModel" "details" "[I" ∈ kg_U := tw_m (i := 967) (by decide +kernel) (by decide +kernel)
set_option maxRecDepth 100000 in
theorem tw_968 : Cond.fieldLink RX5 37 "KettleGuildModel" "depths" "I" ∈ kg_U := tw_m (i := 968) (by decide +kernel) (by decide +kernel)
set_option maxRecDepth 100000 in
theorem tw_969 : Cond.fieldLink RX5 19 "KettleGuildModel" "input" "[C" ∈ kg_U := tw_m (i := 969) (by decide +kernel) (by decide +kernel)
set_option maxRecDepth 100000 in
theorem tw_970 : Cond.fieldLink RX5 172 "KettleGuildModel" "typed" "I" ∈ kg_U := tw_m (i := 970) (by decide +kernel) (by decide +kernel)
set_option maxRecDepth 100000 in
theorem tw_971 : Cond.fieldLink RX5 175 "KettleGuildModel" "here" "I" ∈ kg_U := tw_m (i := 971) (by decide +kernel) (by decide +kernel)
set_option maxRecDepth 100000 in
theorem tw_972 : Cond.fieldLink RX5 178 "KettleGuildModel" "fault" "I" ∈ kg_U := tw_m (i := 972) (by decide +kernel) (by decide +kernel)
set_option maxRecDepth 100000 in
theorem tw_973 : Cond.fieldLink RX5 23 "KettleGuildModel" "orders" "[I" ∈ kg_U := tw_m (i := 973) (by decide +kernel) (by decide +kernel)
set_option maxRecDepth 100000 in
theorem tw_974 : Cond.fieldLink RX5 191 "KettleGuildModel" "orderMany" "I" ∈ kg_U := tw_m (i := 974) (by decide +kernel) (by decide +kernel)
set_option maxRecDepth 100000 in
theorem tw_975 : Cond.fieldLink RX5 26 "KettleGuildModel" "laid" "[C" ∈ kg_U := tw_m (i := 975) (by decide +kernel) (by decide +kernel)
set_option maxRecDepth 100000 in
theorem tw_976 : Cond.fieldLink RX5 212 "KettleGuildModel" "lineSize" "I" ∈ kg_U := tw_m (i := 976) (by decide +kernel) (by decide +kernel)
set_option maxRecDepth 100000 in
theorem tw_1005 : Cond.superclass RX5 "java/lang/Object" ∈ kg_U := tw_m (i := 1005) (by decide +kernel) (by decide +kernel)
set_option maxRecDepth 100000 in
theorem tw_1006 : Cond.methodLink RL 129 yX5_reason ∈ kg_U := tw_m (i := 1006) (by decide +kernel) (by decide +kernel)
set_option maxRecDepth 100000 in
theorem tw_1007 : Cond.instanceMethod yX5_reason ∈ kg_U := tw_m (i := 1007) (by decide +kernel) (by decide +kernel)
set_option maxRecDepth 100000 in
theorem tw_1008 : Cond.selects RX5 yX5_reason yX5_reason ∈ kg_U := tw_m (i := 1008) (by decide +kernel) (by decide +kernel)
set_option maxRecDepth 100000 in
theorem tw_1009 : Cond.code yX5_reason cX5_reason 3 (some .int) ∈ kg_U := tw_m (i := 1009) (by decide +kernel) (by decide +kernel)
set_option maxRecDepth 100000 in
theorem tw_1010 : Cond.methodLink RX5 40 yX5_in ∈ kg_U := tw_m (i := 1010) (by decide +kernel) (by decide +kernel)
set_option maxRecDepth 100000 in
theorem tw_1011 : Cond.static yX5_in ∈ kg_U := tw_m (i := 1011) (by decide +kernel) (by decide +kernel)
set_option maxRecDepth 100000 in
theorem tw_1012 : Cond.code yX5_in cX5_in 3 (some .boolean) ∈ kg_U := tw_m (i := 1012) (by decide +kernel) (by decide +kernel)
set_option maxRecDepth 100000 in
theorem tw_1013 : Cond.methodLink RL 17 yX5_own ∈ kg_U := tw_m (i := 1013) (by decide +kernel) (by decide +kernel)
set_option maxRecDepth 100000 in
theorem tw_1014 : Cond.instanceMethod yX5_own ∈ kg_U := tw_m (i := 1014) (by decide +kernel) (by decide +kernel)
set_option maxRecDepth 100000 in
theorem tw_1015 : Cond.selects RX5 yX5_own yX5_own ∈ kg_U := tw_m (i := 1015) (by decide +kernel) (by decide +kernel)
set_option maxRecDepth 100000 in
theorem tw_1016 : Cond.code yX5_own cX5_own 3 (some .int) ∈ kg_U := tw_m (i := 1016) (by decide +kernel) (by decide +kernel)
set_option maxRecDepth 100000 in
theorem tw_1017 : Cond.methodLink RX5 75 yX5_begins ∈ kg_U := tw_m (i := 1017) (by decide +kernel) (by decide +kernel)
set_option maxRecDepth 100000 in
theorem tw_1019 : Cond.instanceMethod yX5_begins ∈ kg_U := tw_m (i := 1019) (by decide +kernel) (by decide +kernel)
set_option maxRecDepth 100000 in
theorem tw_1020 : Cond.code yX5_begins cX5_begins 1 none ∈ kg_U := tw_m (i := 1020) (by decide +kernel) (by decide +kernel)
set_option maxRecDepth 100000 in
theorem tw_1021 : Cond.methodLink RX5 29 yX5_copies ∈ kg_U := tw_m (i := 1021) (by decide +kernel) (by decide +kernel)
set_option maxRecDepth 100000 in
theorem tw_1023 : Cond.instanceMethod yX5_copies ∈ kg_U := tw_m (i := 1023) (by decide +kernel) (by decide +kernel)
set_option maxRecDepth 100000 in
theorem tw_1024 : Cond.code yX5_copies cX5_copies 4 none ∈ kg_U := tw_m (i := 1024) (by decide +kernel) (by decide +kernel)
set_option maxRecDepth 100000 in
theorem tw_1025 : Cond.methodLink RX5 78 yX5_owns ∈ kg_U := tw_m (i := 1025) (by decide +kernel) (by decide +kernel)
set_option maxRecDepth 100000 in
theorem tw_1027 : Cond.instanceMethod yX5_owns ∈ kg_U := tw_m (i := 1027) (by decide +kernel) (by decide +kernel)
set_option maxRecDepth 100000 in
theorem tw_1028 : Cond.code yX5_owns cX5_owns 3 (some .int) ∈ kg_U := tw_m (i := 1028) (by decide +kernel) (by decide +kernel)
set_option maxRecDepth 100000 in
theorem tw_1029 : Cond.methodLink RX5 62 yX5_isMember ∈ kg_U := tw_m (i := 1029) (by decide +kernel) (by decide +kernel)
set_option maxRecDepth 100000 in
theorem tw_1030 : Cond.static yX5_isMember ∈ kg_U := tw_m (i := 1030) (by decide +kernel) (by decide +kernel)
set_option maxRecDepth 100000 in
theorem tw_1031 : Cond.code yX5_isMember cX5_isMember 1 (some .boolean) ∈ kg_U := tw_m (i := 1031) (by decide +kernel) (by decide +kernel)
set_option maxRecDepth 100000 in
theorem tw_1032 : Cond.methodLink RX5 65 yX5_isPitch ∈ kg_U := tw_m (i := 1032) (by decide +kernel) (by decide +kernel)
set_option maxRecDepth 100000 in
theorem tw_1033 : Cond.static yX5_isPitch ∈ kg_U := tw_m (i := 1033) (by decide +kernel) (by decide +kernel)
set_option maxRecDepth 100000 in
theorem tw_1034 : Cond.code yX5_isPitch cX5_isPitch 1 (some .boolean) ∈ kg_U := tw_m (i := 1034) (by decide +kernel) (by decide +kernel)
set_option maxRecDepth 100000 in
theorem tw_1035 : Cond.methodLink RX5 44 yX5_ownerOf ∈ kg_U := tw_m (i := 1035) (by decide +kernel) (by decide +kernel)
set_option maxRecDepth 100000 in
theorem tw_1037 : Cond.instanceMethod yX5_ownerOf ∈ kg_U := tw_m (i := 1037) (by decide +kernel) (by decide +kernel)
set_option maxRecDepth 100000 in
theorem tw_1038 : Cond.code yX5_ownerOf cX5_ownerOf 2 (some .int) ∈ kg_U := tw_m (i := 1038) (by decide +kernel) (by decide +kernel)
set_option maxRecDepth 100000 in
theorem tw_1039 : Cond.methodLink RX5 68 yX5_refuses ∈ kg_U := tw_m (i := 1039) (by decide +kernel) (by decide +kernel)
set_option maxRecDepth 100000 in
theorem tw_1041 : Cond.instanceMethod yX5_refuses ∈ kg_U := tw_m (i := 1041) (by decide +kernel) (by decide +kernel)
set_option maxRecDepth 100000 in
theorem tw_1042 : Cond.code yX5_refuses cX5_refuses 4 (some .boolean) ∈ kg_U := tw_m (i := 1042) (by decide +kernel) (by decide +kernel)
set_option maxRecDepth 100000 in
theorem tw_1043 : Cond.methodLink RX5 72 yX5_pitchesOf ∈ kg_U := tw_m (i := 1043) (by decide +kernel) (by decide +kernel)
set_option maxRecDepth 100000 in
theorem tw_1045 : Cond.instanceMethod yX5_pitchesOf ∈ kg_U := tw_m (i := 1045) (by decide +kernel) (by decide +kernel)
set_option maxRecDepth 100000 in
theorem tw_1046 : Cond.code yX5_pitchesOf cX5_pitchesOf 4 (some .int) ∈ kg_U := tw_m (i := 1046) (by decide +kernel) (by decide +kernel)
set_option maxRecDepth 100000 in
theorem tw_1047 : Cond.methodLink RX5 81 yX5_ends ∈ kg_U := tw_m (i := 1047) (by decide +kernel) (by decide +kernel)
set_option maxRecDepth 100000 in
theorem tw_1049 : Cond.instanceMethod yX5_ends ∈ kg_U := tw_m (i := 1049) (by decide +kernel) (by decide +kernel)
set_option maxRecDepth 100000 in
theorem tw_1050 : Cond.code yX5_ends cX5_ends 3 (some .int) ∈ kg_U := tw_m (i := 1050) (by decide +kernel) (by decide +kernel)
set_option maxRecDepth 100000 in
theorem tw_1051 : Cond.methodLink RL 27 yX5_kettle ∈ kg_U := tw_m (i := 1051) (by decide +kernel) (by decide +kernel)
set_option maxRecDepth 100000 in
theorem tw_1052 : Cond.instanceMethod yX5_kettle ∈ kg_U := tw_m (i := 1052) (by decide +kernel) (by decide +kernel)
set_option maxRecDepth 100000 in
theorem tw_1053 : Cond.selects RX5 yX5_kettle yX5_kettle ∈ kg_U := tw_m (i := 1053) (by decide +kernel) (by decide +kernel)
set_option maxRecDepth 100000 in
theorem tw_1054 : Cond.code yX5_kettle cX5_kettle 4 (some .int) ∈ kg_U := tw_m (i := 1054) (by decide +kernel) (by decide +kernel)
set_option maxRecDepth 100000 in
theorem tw_1055 : Cond.methodLink RX5 88 yX5_brings ∈ kg_U := tw_m (i := 1055) (by decide +kernel) (by decide +kernel)
set_option maxRecDepth 100000 in
theorem tw_1057 : Cond.instanceMethod yX5_brings ∈ kg_U := tw_m (i := 1057) (by decide +kernel) (by decide +kernel)
set_option maxRecDepth 100000 in
theorem tw_1058 : Cond.code yX5_brings cX5_brings 6 (some .int) ∈ kg_U := tw_m (i := 1058) (by decide +kernel) (by decide +kernel)
set_option maxRecDepth 100000 in
theorem tw_1059 : Cond.methodLink RX5 84 yX5_puts ∈ kg_U := tw_m (i := 1059) (by decide +kernel) (by decide +kernel)
set_option maxRecDepth 100000 in
theorem tw_1061 : Cond.instanceMethod yX5_puts ∈ kg_U := tw_m (i := 1061) (by decide +kernel) (by decide +kernel)
set_option maxRecDepth 100000 in
theorem tw_1062 : Cond.code yX5_puts cX5_puts 4 none ∈ kg_U := tw_m (i := 1062) (by decide +kernel) (by decide +kernel)
set_option maxRecDepth 100000 in
theorem tw_1063 : Cond.methodLink RL 31 yX5_fill ∈ kg_U := tw_m (i := 1063) (by decide +kernel) (by decide +kernel)
set_option maxRecDepth 100000 in
theorem tw_1064 : Cond.instanceMethod yX5_fill ∈ kg_U := tw_m (i := 1064) (by decide +kernel) (by decide +kernel)
set_option maxRecDepth 100000 in
theorem tw_1065 : Cond.selects RX5 yX5_fill yX5_fill ∈ kg_U := tw_m (i := 1065) (by decide +kernel) (by decide +kernel)
set_option maxRecDepth 100000 in
theorem tw_1066 : Cond.code yX5_fill cX5_fill 3 (some .int) ∈ kg_U := tw_m (i := 1066) (by decide +kernel) (by decide +kernel)
set_option maxRecDepth 100000 in
theorem tw_1067 : Cond.methodLink RX5 95 yX5_fills ∈ kg_U := tw_m (i := 1067) (by decide +kernel) (by decide +kernel)
set_option maxRecDepth 100000 in
theorem tw_1069 : Cond.instanceMethod yX5_fills ∈ kg_U := tw_m (i := 1069) (by decide +kernel) (by decide +kernel)
set_option maxRecDepth 100000 in
theorem tw_1070 : Cond.code yX5_fills cX5_fills 4 (some .int) ∈ kg_U := tw_m (i := 1070) (by decide +kernel) (by decide +kernel)
set_option maxRecDepth 100000 in
theorem tw_1071 : Cond.methodLink RX5 92 yX5_isKettle ∈ kg_U := tw_m (i := 1071) (by decide +kernel) (by decide +kernel)
set_option maxRecDepth 100000 in
theorem tw_1073 : Cond.instanceMethod yX5_isKettle ∈ kg_U := tw_m (i := 1073) (by decide +kernel) (by decide +kernel)
set_option maxRecDepth 100000 in
theorem tw_1074 : Cond.code yX5_isKettle cX5_isKettle 2 (some .boolean) ∈ kg_U := tw_m (i := 1074) (by decide +kernel) (by decide +kernel)
set_option maxRecDepth 100000 in
theorem tw_1075 : Cond.methodLink RX5 48 yX5_kt ∈ kg_U := tw_m (i := 1075) (by decide +kernel) (by decide +kernel)
set_option maxRecDepth 100000 in
theorem tw_1077 : Cond.instanceMethod yX5_kt ∈ kg_U := tw_m (i := 1077) (by decide +kernel) (by decide +kernel)
set_option maxRecDepth 100000 in
theorem tw_1078 : Cond.code yX5_kt cX5_kt 3 (some .int) ∈ kg_U := tw_m (i := 1078) (by decide +kernel) (by decide +kernel)
set_option maxRecDepth 100000 in
theorem tw_1079 : Cond.methodLink RL 39 yX5_set ∈ kg_U := tw_m (i := 1079) (by decide +kernel) (by decide +kernel)
set_option maxRecDepth 100000 in
theorem tw_1080 : Cond.instanceMethod yX5_set ∈ kg_U := tw_m (i := 1080) (by decide +kernel) (by decide +kernel)
set_option maxRecDepth 100000 in
theorem tw_1081 : Cond.selects RX5 yX5_set yX5_set ∈ kg_U := tw_m (i := 1081) (by decide +kernel) (by decide +kernel)
set_option maxRecDepth 100000 in
theorem tw_1082 : Cond.code yX5_set cX5_set 3 (some .int) ∈ kg_U := tw_m (i := 1082) (by decide +kernel) (by decide +kernel)
set_option maxRecDepth 100000 in
theorem tw_1083 : Cond.methodLink RX5 114 yX5_sets ∈ kg_U := tw_m (i := 1083) (by decide +kernel) (by decide +kernel)
set_option maxRecDepth 100000 in
theorem tw_1085 : Cond.instanceMethod yX5_sets ∈ kg_U := tw_m (i := 1085) (by decide +kernel) (by decide +kernel)
set_option maxRecDepth 100000 in
theorem tw_1086 : Cond.code yX5_sets cX5_sets 5 (some .int) ∈ kg_U := tw_m (i := 1086) (by decide +kernel) (by decide +kernel)
set_option maxRecDepth 100000 in
theorem tw_1087 : Cond.methodLink RX5 98 yX5_isStove ∈ kg_U := tw_m (i := 1087) (by decide +kernel) (by decide +kernel)
set_option maxRecDepth 100000 in
theorem tw_1088 : Cond.static yX5_isStove ∈ kg_U := tw_m (i := 1088) (by decide +kernel) (by decide +kernel)
set_option maxRecDepth 100000 in
theorem tw_1089 : Cond.code yX5_isStove cX5_isStove 1 (some .boolean) ∈ kg_U := tw_m (i := 1089) (by decide +kernel) (by decide +kernel)
set_option maxRecDepth 100000 in
theorem tw_1090 : Cond.methodLink RX5 101 yX5_kettleOn ∈ kg_U := tw_m (i := 1090) (by decide +kernel) (by decide +kernel)
set_option maxRecDepth 100000 in
theorem tw_1092 : Cond.instanceMethod yX5_kettleOn ∈ kg_U := tw_m (i := 1092) (by decide +kernel) (by decide +kernel)
set_option maxRecDepth 100000 in
theorem tw_1093 : Cond.code yX5_kettleOn cX5_kettleOn 3 (some .int) ∈ kg_U := tw_m (i := 1093) (by decide +kernel) (by decide +kernel)
set_option maxRecDepth 100000 in
theorem tw_1094 : Cond.methodLink RX5 104 yX5_stoveWith ∈ kg_U := tw_m (i := 1094) (by decide +kernel) (by decide +kernel)
set_option maxRecDepth 100000 in
theorem tw_1096 : Cond.instanceMethod yX5_stoveWith ∈ kg_U := tw_m (i := 1096) (by decide +kernel) (by decide +kernel)
set_option maxRecDepth 100000 in
theorem tw_1097 : Cond.code yX5_stoveWith cX5_stoveWith 3 (some .int) ∈ kg_U := tw_m (i := 1097) (by decide +kernel) (by decide +kernel)
set_option maxRecDepth 100000 in
theorem tw_1098 : Cond.methodLink RX5 52 yX5_isOnStove ∈ kg_U := tw_m (i := 1098) (by decide +kernel) (by decide +kernel)
set_option maxRecDepth 100000 in
theorem tw_1100 : Cond.instanceMethod yX5_isOnStove ∈ kg_U := tw_m (i := 1100) (by decide +kernel) (by decide +kernel)
set_option maxRecDepth 100000 in
theorem tw_1101 : Cond.code yX5_isOnStove cX5_isOnStove 2 (some .boolean) ∈ kg_U := tw_m (i := 1101) (by decide +kernel) (by decide +kernel)
set_option maxRecDepth 100000 in
theorem tw_1102 : Cond.methodLink RX5 107 yX5_causes ∈ kg_U := tw_m (i := 1102) (by decide +kernel) (by decide +kernel)
set_option maxRecDepth 100000 in
theorem tw_1104 : Cond.instanceMethod yX5_causes ∈ kg_U := tw_m (i := 1104) (by decide +kernel) (by decide +kernel)
set_option maxRecDepth 100000 in
theorem tw_1105 : Cond.code yX5_causes cX5_causes 4 none ∈ kg_U := tw_m (i := 1105) (by decide +kernel) (by decide +kernel)
set_option maxRecDepth 100000 in
theorem tw_1106 : Cond.methodLink RX5 110 yX5_onStoves ∈ kg_U := tw_m (i := 1106) (by decide +kernel) (by decide +kernel)
set_option maxRecDepth 100000 in
theorem tw_1108 : Cond.instanceMethod yX5_onStoves ∈ kg_U := tw_m (i := 1108) (by decide +kernel) (by decide +kernel)
set_option maxRecDepth 100000 in
theorem tw_1109 : Cond.code yX5_onStoves cX5_onStoves 3 (some .int) ∈ kg_U := tw_m (i := 1109) (by decide +kernel) (by decide +kernel)
set_option maxRecDepth 100000 in
theorem tw_1110 : Cond.methodLink RL 43 yX5_off ∈ kg_U := tw_m (i := 1110) (by decide +kernel) (by decide +kernel)
set_option maxRecDepth 100000 in
theorem tw_1111 : Cond.instanceMethod yX5_off ∈ kg_U := tw_m (i := 1111) (by decide +kernel) (by decide +kernel)
set_option maxRecDepth 100000 in
theorem tw_1112 : Cond.selects RX5 yX5_off yX5_off ∈ kg_U := tw_m (i := 1112) (by decide +kernel) (by decide +kernel)
set_option maxRecDepth 100000 in
theorem tw_1113 : Cond.code yX5_off cX5_off 2 (some .int) ∈ kg_U := tw_m (i := 1113) (by decide +kernel) (by decide +kernel)
set_option maxRecDepth 100000 in
theorem tw_1114 : Cond.methodLink RX5 117 yX5_takesOff ∈ kg_U := tw_m (i := 1114) (by decide +kernel) (by decide +kernel)
set_option maxRecDepth 100000 in
theorem tw_1116 : Cond.instanceMethod yX5_takesOff ∈ kg_U := tw_m (i := 1116) (by decide +kernel) (by decide +kernel)
set_option maxRecDepth 100000 in
theorem tw_1117 : Cond.code yX5_takesOff cX5_takesOff 3 (some .int) ∈ kg_U := tw_m (i := 1117) (by decide +kernel) (by decide +kernel)
set_option maxRecDepth 100000 in
theorem tw_1118 : Cond.methodLink RL 47 yX5_heat ∈ kg_U := tw_m (i := 1118) (by decide +kernel) (by decide +kernel)
set_option maxRecDepth 100000 in
theorem tw_1119 : Cond.instanceMethod yX5_heat ∈ kg_U := tw_m (i := 1119) (by decide +kernel) (by decide +kernel)
set_option maxRecDepth 100000 in
theorem tw_1120 : Cond.selects RX5 yX5_heat yX5_heat ∈ kg_U := tw_m (i := 1120) (by decide +kernel) (by decide +kernel)
set_option maxRecDepth 100000 in
theorem tw_1121 : Cond.code yX5_heat cX5_heat 3 (some .int) ∈ kg_U := tw_m (i := 1121) (by decide +kernel) (by decide +kernel)
set_option maxRecDepth 100000 in
theorem tw_1122 : Cond.methodLink RX5 120 yX5_heats ∈ kg_U := tw_m (i := 1122) (by decide +kernel) (by decide +kernel)
set_option maxRecDepth 100000 in
theorem tw_1124 : Cond.instanceMethod yX5_heats ∈ kg_U := tw_m (i := 1124) (by decide +kernel) (by decide +kernel)
set_option maxRecDepth 100000 in
theorem tw_1125 : Cond.code yX5_heats cX5_heats 4 (some .int) ∈ kg_U := tw_m (i := 1125) (by decide +kernel) (by decide +kernel)
set_option maxRecDepth 100000 in
theorem tw_1126 : Cond.methodLink RL 51 yX5_lid ∈ kg_U := tw_m (i := 1126) (by decide +kernel) (by decide +kernel)
set_option maxRecDepth 100000 in
theorem tw_1127 : Cond.instanceMethod yX5_lid ∈ kg_U := tw_m (i := 1127) (by decide +kernel) (by decide +kernel)
set_option maxRecDepth 100000 in
theorem tw_1128 : Cond.selects RX5 yX5_lid yX5_lid ∈ kg_U := tw_m (i := 1128) (by decide +kernel) (by decide +kernel)
set_option maxRecDepth 100000 in
theorem tw_1129 : Cond.code yX5_lid cX5_lid 3 (some .int) ∈ kg_U := tw_m (i := 1129) (by decide +kernel) (by decide +kernel)
set_option maxRecDepth 100000 in
theorem tw_1130 : Cond.methodLink RX5 126 yX5_putsLid ∈ kg_U := tw_m (i := 1130) (by decide +kernel) (by decide +kernel)
set_option maxRecDepth 100000 in
theorem tw_1132 : Cond.instanceMethod yX5_putsLid ∈ kg_U := tw_m (i := 1132) (by decide +kernel) (by decide +kernel)
set_option maxRecDepth 100000 in
theorem tw_1133 : Cond.code yX5_putsLid cX5_putsLid 3 (some .int) ∈ kg_U := tw_m (i := 1133) (by decide +kernel) (by decide +kernel)
set_option maxRecDepth 100000 in
theorem tw_1134 : Cond.methodLink RX5 123 yX5_lidsOn ∈ kg_U := tw_m (i := 1134) (by decide +kernel) (by decide +kernel)
set_option maxRecDepth 100000 in
theorem tw_1136 : Cond.instanceMethod yX5_lidsOn ∈ kg_U := tw_m (i := 1136) (by decide +kernel) (by decide +kernel)
set_option maxRecDepth 100000 in
theorem tw_1137 : Cond.code yX5_lidsOn cX5_lidsOn 3 (some .int) ∈ kg_U := tw_m (i := 1137) (by decide +kernel) (by decide +kernel)
set_option maxRecDepth 100000 in
theorem tw_1138 : Cond.methodLink RL 55 yX5_appeal ∈ kg_U := tw_m (i := 1138) (by decide +kernel) (by decide +kernel)
set_option maxRecDepth 100000 in
theorem tw_1139 : Cond.instanceMethod yX5_appeal ∈ kg_U := tw_m (i := 1139) (by decide +kernel) (by decide +kernel)
set_option maxRecDepth 100000 in
theorem tw_1140 : Cond.selects RX5 yX5_appeal yX5_appeal ∈ kg_U := tw_m (i := 1140) (by decide +kernel) (by decide +kernel)
set_option maxRecDepth 100000 in
theorem tw_1141 : Cond.code yX5_appeal cX5_appeal 3 (some .int) ∈ kg_U := tw_m (i := 1141) (by decide +kernel) (by decide +kernel)
set_option maxRecDepth 100000 in
theorem tw_1142 : Cond.methodLink RX5 132 yX5_appeals ∈ kg_U := tw_m (i := 1142) (by decide +kernel) (by decide +kernel)
set_option maxRecDepth 100000 in
theorem tw_1144 : Cond.instanceMethod yX5_appeals ∈ kg_U := tw_m (i := 1144) (by decide +kernel) (by decide +kernel)
set_option maxRecDepth 100000 in
theorem tw_1145 : Cond.code yX5_appeals cX5_appeals 4 (some .int) ∈ kg_U := tw_m (i := 1145) (by decide +kernel) (by decide +kernel)
set_option maxRecDepth 100000 in
theorem tw_1146 : Cond.methodLink RX5 129 yX5_bits ∈ kg_U := tw_m (i := 1146) (by decide +kernel) (by decide +kernel)
set_option maxRecDepth 100000 in
theorem tw_1147 : Cond.static yX5_bits ∈ kg_U := tw_m (i := 1147) (by decide +kernel) (by decide +kernel)
set_option maxRecDepth 100000 in
theorem tw_1148 : Cond.code yX5_bits cX5_bits 3 (some .int) ∈ kg_U := tw_m (i := 1148) (by decide +kernel) (by decide +kernel)
set_option maxRecDepth 100000 in
theorem tw_1149 : Cond.methodLink RL 64 yX5_minute ∈ kg_U := tw_m (i := 1149) (by decide +kernel) (by decide +kernel)
set_option maxRecDepth 100000 in
theorem tw_1150 : Cond.instanceMethod yX5_minute ∈ kg_U := tw_m (i := 1150) (by decide +kernel) (by decide +kernel)
set_option maxRecDepth 100000 in
theorem tw_1151 : Cond.selects RX5 yX5_minute yX5_minute ∈ kg_U := tw_m (i := 1151) (by decide +kernel) (by decide +kernel)
set_option maxRecDepth 100000 in
theorem tw_1152 : Cond.code yX5_minute cX5_minute 2 (some .int) ∈ kg_U := tw_m (i := 1152) (by decide +kernel) (by decide +kernel)
set_option maxRecDepth 100000 in
theorem tw_1153 : Cond.methodLink RX5 150 yX5_passes ∈ kg_U := tw_m (i := 1153) (by decide +kernel) (by decide +kernel)
set_option maxRecDepth 100000 in
theorem tw_1155 : Cond.instanceMethod yX5_passes ∈ kg_U := tw_m (i := 1155) (by decide +kernel) (by decide +kernel)
set_option maxRecDepth 100000 in
theorem tw_1156 : Cond.code yX5_passes cX5_passes 4 (some .int) ∈ kg_U := tw_m (i := 1156) (by decide +kernel) (by decide +kernel)
set_option maxRecDepth 100000 in
theorem tw_1157 : Cond.methodLink RX5 147 yX5_goesBy ∈ kg_U := tw_m (i := 1157) (by decide +kernel) (by decide +kernel)
set_option maxRecDepth 100000 in
theorem tw_1159 : Cond.instanceMethod yX5_goesBy ∈ kg_U := tw_m (i := 1159) (by decide +kernel) (by decide +kernel)
set_option maxRecDepth 100000 in
theorem tw_1160 : Cond.code yX5_goesBy cX5_goesBy 4 (some .int) ∈ kg_U := tw_m (i := 1160) (by decide +kernel) (by decide +kernel)
set_option maxRecDepth 100000 in
theorem tw_1161 : Cond.methodLink RX5 59 yX5_boils ∈ kg_U := tw_m (i := 1161) (by decide +kernel) (by decide +kernel)
set_option maxRecDepth 100000 in
theorem tw_1163 : Cond.instanceMethod yX5_boils ∈ kg_U := tw_m (i := 1163) (by decide +kernel) (by decide +kernel)
set_option maxRecDepth 100000 in
theorem tw_1164 : Cond.code yX5_boils cX5_boils 2 (some .boolean) ∈ kg_U := tw_m (i := 1164) (by decide +kernel) (by decide +kernel)
set_option maxRecDepth 100000 in
theorem tw_1165 : Cond.methodLink RX5 56 yX5_heatUnder ∈ kg_U := tw_m (i := 1165) (by decide +kernel) (by decide +kernel)
set_option maxRecDepth 100000 in
theorem tw_1167 : Cond.instanceMethod yX5_heatUnder ∈ kg_U := tw_m (i := 1167) (by decide +kernel) (by decide +kernel)
set_option maxRecDepth 100000 in
theorem tw_1168 : Cond.code yX5_heatUnder cX5_heatUnder 2 (some .int) ∈ kg_U := tw_m (i := 1168) (by decide +kernel) (by decide +kernel)
set_option maxRecDepth 100000 in
theorem tw_1169 : Cond.methodLink RX5 141 yX5_boilsOn ∈ kg_U := tw_m (i := 1169) (by decide +kernel) (by decide +kernel)
set_option maxRecDepth 100000 in
theorem tw_1171 : Cond.instanceMethod yX5_boilsOn ∈ kg_U := tw_m (i := 1171) (by decide +kernel) (by decide +kernel)
set_option maxRecDepth 100000 in
theorem tw_1172 : Cond.code yX5_boilsOn cX5_boilsOn 2 (some .boolean) ∈ kg_U := tw_m (i := 1172) (by decide +kernel) (by decide +kernel)
set_option maxRecDepth 100000 in
theorem tw_1173 : Cond.methodLink RX5 144 yX5_sounds ∈ kg_U := tw_m (i := 1173) (by decide +kernel) (by decide +kernel)
set_option maxRecDepth 100000 in
theorem tw_1175 : Cond.instanceMethod yX5_sounds ∈ kg_U := tw_m (i := 1175) (by decide +kernel) (by decide +kernel)
set_option maxRecDepth 100000 in
theorem tw_1176 : Cond.code yX5_sounds cX5_sounds 4 none ∈ kg_U := tw_m (i := 1176) (by decide +kernel) (by decide +kernel)
set_option maxRecDepth 100000 in
theorem tw_1177 : Cond.methodLink RX5 135 yX5_whistles ∈ kg_U := tw_m (i := 1177) (by decide +kernel) (by decide +kernel)
set_option maxRecDepth 100000 in
theorem tw_1179 : Cond.instanceMethod yX5_whistles ∈ kg_U := tw_m (i := 1179) (by decide +kernel) (by decide +kernel)
set_option maxRecDepth 100000 in
theorem tw_1180 : Cond.code yX5_whistles cX5_whistles 2 (some .boolean) ∈ kg_U := tw_m (i := 1180) (by decide +kernel) (by decide +kernel)
set_option maxRecDepth 100000 in
theorem tw_1181 : Cond.methodLink RX5 138 yX5_sound ∈ kg_U := tw_m (i := 1181) (by decide +kernel) (by decide +kernel)
set_option maxRecDepth 100000 in
theorem tw_1182 : Cond.static yX5_sound ∈ kg_U := tw_m (i := 1182) (by decide +kernel) (by decide +kernel)
set_option maxRecDepth 100000 in
theorem tw_1183 : Cond.code yX5_sound cX5_sound 3 (some .int) ∈ kg_U := tw_m (i := 1183) (by decide +kernel) (by decide +kernel)
set_option maxRecDepth 100000 in
theorem tw_1184 : Cond.methodLink RL 22 yX5_owner ∈ kg_U := tw_m (i := 1184) (by decide +kernel) (by decide +kernel)
set_option maxRecDepth 100000 in
theorem tw_1185 : Cond.instanceMethod yX5_owner ∈ kg_U := tw_m (i := 1185) (by decide +kernel) (by decide +kernel)
set_option maxRecDepth 100000 in
theorem tw_1186 : Cond.selects RX5 yX5_owner yX5_owner ∈ kg_U := tw_m (i := 1186) (by decide +kernel) (by decide +kernel)
set_option maxRecDepth 100000 in
theorem tw_1187 : Cond.code yX5_owner cX5_owner 2 (some .int) ∈ kg_U := tw_m (i := 1187) (by decide +kernel) (by decide +kernel)
set_option maxRecDepth 100000 in
theorem tw_1188 : Cond.methodLink RL 35 yX5_kettleOf ∈ kg_U := tw_m (i := 1188) (by decide +kernel) (by decide +kernel)
set_option maxRecDepth 100000 in
theorem tw_1189 : Cond.instanceMethod yX5_kettleOf ∈ kg_U := tw_m (i := 1189) (by decide +kernel) (by decide +kernel)
set_option maxRecDepth 100000 in
theorem tw_1190 : Cond.selects RX5 yX5_kettleOf yX5_kettleOf ∈ kg_U := tw_m (i := 1190) (by decide +kernel) (by decide +kernel)
set_option maxRecDepth 100000 in
theorem tw_1191 : Cond.code yX5_kettleOf cX5_kettleOf 3 (some .int) ∈ kg_U := tw_m (i := 1191) (by decide +kernel) (by decide +kernel)
set_option maxRecDepth 100000 in
theorem tw_1192 : Cond.methodLink RL 60 yX5_stoveOf ∈ kg_U := tw_m (i := 1192) (by decide +kernel) (by decide +kernel)
set_option maxRecDepth 100000 in
theorem tw_1193 : Cond.instanceMethod yX5_stoveOf ∈ kg_U := tw_m (i := 1193) (by decide +kernel) (by decide +kernel)
set_option maxRecDepth 100000 in
theorem tw_1194 : Cond.selects RX5 yX5_stoveOf yX5_stoveOf ∈ kg_U := tw_m (i := 1194) (by decide +kernel) (by decide +kernel)
set_option maxRecDepth 100000 in
theorem tw_1195 : Cond.code yX5_stoveOf cX5_stoveOf 3 (some .int) ∈ kg_U := tw_m (i := 1195) (by decide +kernel) (by decide +kernel)
set_option maxRecDepth 100000 in
theorem tw_1196 : Cond.methodLink RL 69 yX5_whistling ∈ kg_U := tw_m (i := 1196) (by decide +kernel) (by decide +kernel)
set_option maxRecDepth 100000 in
theorem tw_1197 : Cond.instanceMethod yX5_whistling ∈ kg_U := tw_m (i := 1197) (by decide +kernel) (by decide +kernel)
set_option maxRecDepth 100000 in
theorem tw_1198 : Cond.selects RX5 yX5_whistling yX5_whistling ∈ kg_U := tw_m (i := 1198) (by decide +kernel) (by decide +kernel)
set_option maxRecDepth 100000 in
theorem tw_1199 : Cond.code yX5_whistling cX5_whistling 3 (some .int) ∈ kg_U := tw_m (i := 1199) (by decide +kernel) (by decide +kernel)
set_option maxRecDepth 100000 in
theorem tw_1200 : Cond.methodLink RL 73 yX5_harmony ∈ kg_U := tw_m (i := 1200) (by decide +kernel) (by decide +kernel)
set_option maxRecDepth 100000 in
theorem tw_1201 : Cond.instanceMethod yX5_harmony ∈ kg_U := tw_m (i := 1201) (by decide +kernel) (by decide +kernel)
set_option maxRecDepth 100000 in
theorem tw_1202 : Cond.selects RX5 yX5_harmony yX5_harmony ∈ kg_U := tw_m (i := 1202) (by decide +kernel) (by decide +kernel)
set_option maxRecDepth 100000 in
theorem tw_1203 : Cond.code yX5_harmony cX5_harmony 4 (some .int) ∈ kg_U := tw_m (i := 1203) (by decide +kernel) (by decide +kernel)
set_option maxRecDepth 100000 in
theorem tw_1204 : Cond.methodLink RL 77 yX5_harmonyAgain ∈ kg_U := tw_m (i := 1204) (by decide +kernel) (by decide +kernel)
set_option maxRecDepth 100000 in
theorem tw_1205 : Cond.instanceMethod yX5_harmonyAgain ∈ kg_U := tw_m (i := 1205) (by decide +kernel) (by decide +kernel)
set_option maxRecDepth 100000 in
theorem tw_1206 : Cond.selects RX5 yX5_harmonyAgain yX5_harmonyAgain ∈ kg_U := tw_m (i := 1206) (by decide +kernel) (by decide +kernel)
set_option maxRecDepth 100000 in
theorem tw_1207 : Cond.code yX5_harmonyAgain cX5_harmonyAgain 1 (some .int) ∈ kg_U := tw_m (i := 1207) (by decide +kernel) (by decide +kernel)
set_option maxRecDepth 100000 in
theorem tw_1208 : Cond.methodLink RX5 153 yX5_harmony ∈ kg_U := tw_m (i := 1208) (by decide +kernel) (by decide +kernel)
set_option maxRecDepth 100000 in
theorem tw_1209 : Cond.methodLink RL 81 yX5_boilsIn ∈ kg_U := tw_m (i := 1209) (by decide +kernel) (by decide +kernel)
set_option maxRecDepth 100000 in
theorem tw_1210 : Cond.instanceMethod yX5_boilsIn ∈ kg_U := tw_m (i := 1210) (by decide +kernel) (by decide +kernel)
set_option maxRecDepth 100000 in
theorem tw_1211 : Cond.selects RX5 yX5_boilsIn yX5_boilsIn ∈ kg_U := tw_m (i := 1211) (by decide +kernel) (by decide +kernel)
set_option maxRecDepth 100000 in
theorem tw_1212 : Cond.code yX5_boilsIn cX5_boilsIn 2 (some .int) ∈ kg_U := tw_m (i := 1212) (by decide +kernel) (by decide +kernel)
set_option maxRecDepth 100000 in
theorem tw_1213 : Cond.methodLink RX5 156 yX5_minutesTo ∈ kg_U := tw_m (i := 1213) (by decide +kernel) (by decide +kernel)
set_option maxRecDepth 100000 in
theorem tw_1215 : Cond.instanceMethod yX5_minutesTo ∈ kg_U := tw_m (i := 1215) (by decide +kernel) (by decide +kernel)
set_option maxRecDepth 100000 in
theorem tw_1216 : Cond.code yX5_minutesTo cX5_minutesTo 3 (some .int) ∈ kg_U := tw_m (i := 1216) (by decide +kernel) (by decide +kernel)
set_option maxRecDepth 100000 in
theorem tw_1217 : Cond.methodLink RL 85 yX5_boilsInAgain ∈ kg_U := tw_m (i := 1217) (by decide +kernel) (by decide +kernel)
set_option maxRecDepth 100000 in
theorem tw_1218 : Cond.instanceMethod yX5_boilsInAgain ∈ kg_U := tw_m (i := 1218) (by decide +kernel) (by decide +kernel)
set_option maxRecDepth 100000 in
theorem tw_1219 : Cond.selects RX5 yX5_boilsInAgain yX5_boilsInAgain ∈ kg_U := tw_m (i := 1219) (by decide +kernel) (by decide +kernel)
set_option maxRecDepth 100000 in
theorem tw_1220 : Cond.code yX5_boilsInAgain cX5_boilsInAgain 2 (some .int) ∈ kg_U := tw_m (i := 1220) (by decide +kernel) (by decide +kernel)
set_option maxRecDepth 100000 in
theorem tw_1221 : Cond.methodLink RX5 159 yX5_boilsIn ∈ kg_U := tw_m (i := 1221) (by decide +kernel) (by decide +kernel)
set_option maxRecDepth 100000 in
theorem tw_1222 : Cond.methodLink RL 89 yX5_dryIn ∈ kg_U := tw_m (i := 1222) (by decide +kernel) (by decide +kernel)
set_option maxRecDepth 100000 in
theorem tw_1223 : Cond.instanceMethod yX5_dryIn ∈ kg_U := tw_m (i := 1223) (by decide +kernel) (by decide +kernel)
set_option maxRecDepth 100000 in
theorem tw_1224 : Cond.selects RX5 yX5_dryIn yX5_dryIn ∈ kg_U := tw_m (i := 1224) (by decide +kernel) (by decide +kernel)
set_option maxRecDepth 100000 in
theorem tw_1225 : Cond.code yX5_dryIn cX5_dryIn 3 (some .int) ∈ kg_U := tw_m (i := 1225) (by decide +kernel) (by decide +kernel)
set_option maxRecDepth 100000 in
theorem tw_1226 : Cond.methodLink RL 93 yX5_bestPitch ∈ kg_U := tw_m (i := 1226) (by decide +kernel) (by decide +kernel)
set_option maxRecDepth 100000 in
theorem tw_1227 : Cond.instanceMethod yX5_bestPitch ∈ kg_U := tw_m (i := 1227) (by decide +kernel) (by decide +kernel)
set_option maxRecDepth 100000 in
theorem tw_1228 : Cond.selects RX5 yX5_bestPitch yX5_bestPitch ∈ kg_U := tw_m (i := 1228) (by decide +kernel) (by decide +kernel)
set_option maxRecDepth 100000 in
theorem tw_1229 : Cond.code yX5_bestPitch cX5_bestPitch 3 (some .int) ∈ kg_U := tw_m (i := 1229) (by decide +kernel) (by decide +kernel)
set_option maxRecDepth 100000 in
theorem tw_1230 : Cond.methodLink RX5 162 yX5_fits ∈ kg_U := tw_m (i := 1230) (by decide +kernel) (by decide +kernel)
set_option maxRecDepth 100000 in
theorem tw_1232 : Cond.instanceMethod yX5_fits ∈ kg_U := tw_m (i := 1232) (by decide +kernel) (by decide +kernel)
set_option maxRecDepth 100000 in
theorem tw_1233 : Cond.code yX5_fits cX5_fits 4 (some .int) ∈ kg_U := tw_m (i := 1233) (by decide +kernel) (by decide +kernel)
set_option maxRecDepth 100000 in
theorem tw_1234 : Cond.methodLink RL 97 yX5_memberOf ∈ kg_U := tw_m (i := 1234) (by decide +kernel) (by decide +kernel)
set_option maxRecDepth 100000 in
theorem tw_1235 : Cond.instanceMethod yX5_memberOf ∈ kg_U := tw_m (i := 1235) (by decide +kernel) (by decide +kernel)
set_option maxRecDepth 100000 in
theorem tw_1236 : Cond.selects RX5 yX5_memberOf yX5_memberOf ∈ kg_U := tw_m (i := 1236) (by decide +kernel) (by decide +kernel)
set_option maxRecDepth 100000 in
theorem tw_1237 : Cond.code yX5_memberOf cX5_memberOf 3 (some .int) ∈ kg_U := tw_m (i := 1237) (by decide +kernel) (by decide +kernel)
set_option maxRecDepth 100000 in
theorem tw_1238 : Cond.methodLink RX5 165 yX5_m ∈ kg_U := tw_m (i := 1238) (by decide +kernel) (by decide +kernel)
set_option maxRecDepth 100000 in
theorem tw_1240 : Cond.instanceMethod yX5_m ∈ kg_U := tw_m (i := 1240) (by decide +kernel) (by decide +kernel)
set_option maxRecDepth 100000 in
theorem tw_1241 : Cond.code yX5_m cX5_m 3 (some .int) ∈ kg_U := tw_m (i := 1241) (by decide +kernel) (by decide +kernel)
set_option maxRecDepth 100000 in
theorem tw_1242 : Cond.methodLink RX5 168 yX5_kettlesOf ∈ kg_U := tw_m (i := 1242) (by decide +kernel) (by decide +kernel)
set_option maxRecDepth 100000 in
theorem tw_1244 : Cond.instanceMethod yX5_kettlesOf ∈ kg_U := tw_m (i := 1244) (by decide +kernel) (by decide +kernel)
set_option maxRecDepth 100000 in
theorem tw_1245 : Cond.code yX5_kettlesOf cX5_kettlesOf 5 (some .int) ∈ kg_U := tw_m (i := 1245) (by decide +kernel) (by decide +kernel)
set_option maxRecDepth 100000 in
theorem tw_1246 : Cond.methodLink RL 101 yX5_ranked ∈ kg_U := tw_m (i := 1246) (by decide +kernel) (by decide +kernel)
set_option maxRecDepth 100000 in
theorem tw_1247 : Cond.instanceMethod yX5_ranked ∈ kg_U := tw_m (i := 1247) (by decide +kernel) (by decide +kernel)
set_option maxRecDepth 100000 in
theorem tw_1248 : Cond.selects RX5 yX5_ranked yX5_ranked ∈ kg_U := tw_m (i := 1248) (by decide +kernel) (by decide +kernel)
set_option maxRecDepth 100000 in
theorem tw_1249 : Cond.code yX5_ranked cX5_ranked 7 (some .int) ∈ kg_U := tw_m (i := 1249) (by decide +kernel) (by decide +kernel)
set_option maxRecDepth 100000 in
theorem tw_1250 : Cond.methodLink RL 105 yX5_hottest ∈ kg_U := tw_m (i := 1250) (by decide +kernel) (by decide +kernel)
set_option maxRecDepth 100000 in
theorem tw_1251 : Cond.instanceMethod yX5_hottest ∈ kg_U := tw_m (i := 1251) (by decide +kernel) (by decide +kernel)
set_option maxRecDepth 100000 in
theorem tw_1252 : Cond.selects RX5 yX5_hottest yX5_hottest ∈ kg_U := tw_m (i := 1252) (by decide +kernel) (by decide +kernel)
set_option maxRecDepth 100000 in
theorem tw_1253 : Cond.code yX5_hottest cX5_hottest 7 (some .int) ∈ kg_U := tw_m (i := 1253) (by decide +kernel) (by decide +kernel)
set_option maxRecDepth 100000 in
theorem tw_1254 : Cond.methodLink RL 109 yX5_append ∈ kg_U := tw_m (i := 1254) (by decide +kernel) (by decide +kernel)
set_option maxRecDepth 100000 in
theorem tw_1255 : Cond.instanceMethod yX5_append ∈ kg_U := tw_m (i := 1255) (by decide +kernel) (by decide +kernel)
set_option maxRecDepth 100000 in
theorem tw_1256 : Cond.selects RX5 yX5_append yX5_append ∈ kg_U := tw_m (i := 1256) (by decide +kernel) (by decide +kernel)
set_option maxRecDepth 100000 in
theorem tw_1257 : Cond.code yX5_append cX5_append 2 (some .int) ∈ kg_U := tw_m (i := 1257) (by decide +kernel) (by decide +kernel)
set_option maxRecDepth 100000 in
theorem tw_1258 : Cond.methodLink RL 113 yX5_run ∈ kg_U := tw_m (i := 1258) (by decide +kernel) (by decide +kernel)
set_option maxRecDepth 100000 in
theorem tw_1259 : Cond.instanceMethod yX5_run ∈ kg_U := tw_m (i := 1259) (by decide +kernel) (by decide +kernel)
set_option maxRecDepth 100000 in
theorem tw_1260 : Cond.selects RX5 yX5_run yX5_run ∈ kg_U := tw_m (i := 1260) (by decide +kernel) (by decide +kernel)
set_option maxRecDepth 100000 in
theorem tw_1261 : Cond.code yX5_run cX5_run 3 (some .int) ∈ kg_U := tw_m (i := 1261) (by decide +kernel) (by decide +kernel)
set_option maxRecDepth 100000 in
theorem tw_1262 : Cond.methodLink RX5 206 yX5_parse ∈ kg_U := tw_m (i := 1262) (by decide +kernel) (by decide +kernel)
set_option maxRecDepth 100000 in
theorem tw_1264 : Cond.instanceMethod yX5_parse ∈ kg_U := tw_m (i := 1264) (by decide +kernel) (by decide +kernel)
set_option maxRecDepth 100000 in
theorem tw_1265 : Cond.code yX5_parse cX5_parse 1 none ∈ kg_U := tw_m (i := 1265) (by decide +kernel) (by decide +kernel)
set_option maxRecDepth 100000 in
theorem tw_1266 : Cond.methodLink RX5 203 yX5_order ∈ kg_U := tw_m (i := 1266) (by decide +kernel) (by decide +kernel)
set_option maxRecDepth 100000 in
theorem tw_1268 : Cond.instanceMethod yX5_order ∈ kg_U := tw_m (i := 1268) (by decide +kernel) (by decide +kernel)
set_option maxRecDepth 100000 in
theorem tw_1269 : Cond.code yX5_order cX5_order 4 none ∈ kg_U := tw_m (i := 1269) (by decide +kernel) (by decide +kernel)
set_option maxRecDepth 100000 in
theorem tw_1270 : Cond.methodLink RX5 181 yX5_sign ∈ kg_U := tw_m (i := 1270) (by decide +kernel) (by decide +kernel)
set_option maxRecDepth 100000 in
theorem tw_1272 : Cond.instanceMethod yX5_sign ∈ kg_U := tw_m (i := 1272) (by decide +kernel) (by decide +kernel)
set_option maxRecDepth 100000 in
theorem tw_1273 : Cond.code yX5_sign cX5_sign 1 (some .int) ∈ kg_U := tw_m (i := 1273) (by decide +kernel) (by decide +kernel)
set_option maxRecDepth 100000 in
theorem tw_1274 : Cond.methodLink RX5 194 yX5_word ∈ kg_U := tw_m (i := 1274) (by decide +kernel) (by decide +kernel)
set_option maxRecDepth 100000 in
theorem tw_1276 : Cond.instanceMethod yX5_word ∈ kg_U := tw_m (i := 1276) (by decide +kernel) (by decide +kernel)
set_option maxRecDepth 100000 in
theorem tw_1277 : Cond.code yX5_word cX5_word 3 (some .int) ∈ kg_U := tw_m (i := 1277) (by decide +kernel) (by decide +kernel)
set_option maxRecDepth 100000 in
theorem tw_1278 : Cond.methodLink RX5 188 yX5_signs ∈ kg_U := tw_m (i := 1278) (by decide +kernel) (by decide +kernel)
set_option maxRecDepth 100000 in
theorem tw_1280 : Cond.instanceMethod yX5_signs ∈ kg_U := tw_m (i := 1280) (by decide +kernel) (by decide +kernel)
set_option maxRecDepth 100000 in
theorem tw_1281 : Cond.code yX5_signs cX5_signs 4 none ∈ kg_U := tw_m (i := 1281) (by decide +kernel) (by decide +kernel)
set_option maxRecDepth 100000 in
theorem tw_1282 : Cond.methodLink RX5 184 yX5_needs ∈ kg_U := tw_m (i := 1282) (by decide +kernel) (by decide +kernel)
set_option maxRecDepth 100000 in
theorem tw_1284 : Cond.instanceMethod yX5_needs ∈ kg_U := tw_m (i := 1284) (by decide +kernel) (by decide +kernel)
set_option maxRecDepth 100000 in
theorem tw_1285 : Cond.code yX5_needs cX5_needs 2 none ∈ kg_U := tw_m (i := 1285) (by decide +kernel) (by decide +kernel)
set_option maxRecDepth 100000 in
theorem tw_1286 : Cond.methodLink RX5 197 yX5_number ∈ kg_U := tw_m (i := 1286) (by decide +kernel) (by decide +kernel)
set_option maxRecDepth 100000 in
theorem tw_1288 : Cond.instanceMethod yX5_number ∈ kg_U := tw_m (i := 1288) (by decide +kernel) (by decide +kernel)
set_option maxRecDepth 100000 in
theorem tw_1289 : Cond.code yX5_number cX5_number 4 (some .int) ∈ kg_U := tw_m (i := 1289) (by decide +kernel) (by decide +kernel)
set_option maxRecDepth 100000 in
theorem tw_1290 : Cond.methodLink RX5 200 yX5_plusOrMinus ∈ kg_U := tw_m (i := 1290) (by decide +kernel) (by decide +kernel)
set_option maxRecDepth 100000 in
theorem tw_1292 : Cond.instanceMethod yX5_plusOrMinus ∈ kg_U := tw_m (i := 1292) (by decide +kernel) (by decide +kernel)
set_option maxRecDepth 100000 in
theorem tw_1293 : Cond.code yX5_plusOrMinus cX5_plusOrMinus 2 (some .int) ∈ kg_U := tw_m (i := 1293) (by decide +kernel) (by decide +kernel)
set_option maxRecDepth 100000 in
theorem tw_1294 : Cond.methodLink RX5 209 yX5_does ∈ kg_U := tw_m (i := 1294) (by decide +kernel) (by decide +kernel)
set_option maxRecDepth 100000 in
theorem tw_1296 : Cond.instanceMethod yX5_does ∈ kg_U := tw_m (i := 1296) (by decide +kernel) (by decide +kernel)
set_option maxRecDepth 100000 in
theorem tw_1297 : Cond.code yX5_does cX5_does 4 (some .int) ∈ kg_U := tw_m (i := 1297) (by decide +kernel) (by decide +kernel)
set_option maxRecDepth 100000 in
theorem tw_1298 : Cond.methodLink RL 117 yX5_tell ∈ kg_U := tw_m (i := 1298) (by decide +kernel) (by decide +kernel)
set_option maxRecDepth 100000 in
theorem tw_1299 : Cond.instanceMethod yX5_tell ∈ kg_U := tw_m (i := 1299) (by decide +kernel) (by decide +kernel)
set_option maxRecDepth 100000 in
theorem tw_1300 : Cond.selects RX5 yX5_tell yX5_tell ∈ kg_U := tw_m (i := 1300) (by decide +kernel) (by decide +kernel)
set_option maxRecDepth 100000 in
theorem tw_1301 : Cond.code yX5_tell cX5_tell 2 (some .int) ∈ kg_U := tw_m (i := 1301) (by decide +kernel) (by decide +kernel)
set_option maxRecDepth 100000 in
theorem tw_1302 : Cond.methodLink RX5 215 yX5_writesNumber ∈ kg_U := tw_m (i := 1302) (by decide +kernel) (by decide +kernel)
set_option maxRecDepth 100000 in
theorem tw_1304 : Cond.instanceMethod yX5_writesNumber ∈ kg_U := tw_m (i := 1304) (by decide +kernel) (by decide +kernel)
set_option maxRecDepth 100000 in
theorem tw_1305 : Cond.code yX5_writesNumber cX5_writesNumber 2 none ∈ kg_U := tw_m (i := 1305) (by decide +kernel) (by decide +kernel)
set_option maxRecDepth 100000 in
theorem tw_1306 : Cond.methodLink RX5 218 yX5_writes ∈ kg_U := tw_m (i := 1306) (by decide +kernel) (by decide +kernel)
set_option maxRecDepth 100000 in
theorem tw_1308 : Cond.instanceMethod yX5_writes ∈ kg_U := tw_m (i := 1308) (by decide +kernel) (by decide +kernel)
set_option maxRecDepth 100000 in
theorem tw_1309 : Cond.code yX5_writes cX5_writes 2 none ∈ kg_U := tw_m (i := 1309) (by decide +kernel) (by decide +kernel)
set_option maxRecDepth 100000 in
theorem tw_1310 : Cond.methodLink RL 121 yX5_tellStoves ∈ kg_U := tw_m (i := 1310) (by decide +kernel) (by decide +kernel)
set_option maxRecDepth 100000 in
theorem tw_1311 : Cond.instanceMethod yX5_tellStoves ∈ kg_U := tw_m (i := 1311) (by decide +kernel) (by decide +kernel)
set_option maxRecDepth 100000 in
theorem tw_1312 : Cond.selects RX5 yX5_tellStoves yX5_tellStoves ∈ kg_U := tw_m (i := 1312) (by decide +kernel) (by decide +kernel)
set_option maxRecDepth 100000 in
theorem tw_1313 : Cond.code yX5_tellStoves cX5_tellStoves 2 (some .int) ∈ kg_U := tw_m (i := 1313) (by decide +kernel) (by decide +kernel)
set_option maxRecDepth 100000 in
theorem tw_1314 : Cond.methodLink RL 125 yX5_character ∈ kg_U := tw_m (i := 1314) (by decide +kernel) (by decide +kernel)
set_option maxRecDepth 100000 in
theorem tw_1315 : Cond.instanceMethod yX5_character ∈ kg_U := tw_m (i := 1315) (by decide +kernel) (by decide +kernel)
set_option maxRecDepth 100000 in
theorem tw_1316 : Cond.selects RX5 yX5_character yX5_character ∈ kg_U := tw_m (i := 1316) (by decide +kernel) (by decide +kernel)
set_option maxRecDepth 100000 in
theorem tw_1317 : Cond.code yX5_character cX5_character 2 (some .int) ∈ kg_U := tw_m (i := 1317) (by decide +kernel) (by decide +kernel)
set_option maxRecDepth 100000 in
theorem tw_1318 : Cond.methodLink RL 133 yX5_account ∈ kg_U := tw_m (i := 1318) (by decide +kernel) (by decide +kernel)
set_option maxRecDepth 100000 in
theorem tw_1319 : Cond.instanceMethod yX5_account ∈ kg_U := tw_m (i := 1319) (by decide +kernel) (by decide +kernel)
set_option maxRecDepth 100000 in
theorem tw_1320 : Cond.selects RX5 yX5_account yX5_account ∈ kg_U := tw_m (i := 1320) (by decide +kernel) (by decide +kernel)
set_option maxRecDepth 100000 in
theorem tw_1321 : Cond.code yX5_account cX5_account 2 (some .int) ∈ kg_U := tw_m (i := 1321) (by decide +kernel) (by decide +kernel)
set_option maxRecDepth 100000 in
theorem tw_1322 : Cond.methodLink RX5 221 yX5_ofKettles ∈ kg_U := tw_m (i := 1322) (by decide +kernel) (by decide +kernel)
set_option maxRecDepth 100000 in
theorem tw_1324 : Cond.instanceMethod yX5_ofKettles ∈ kg_U := tw_m (i := 1324) (by decide +kernel) (by decide +kernel)
set_option maxRecDepth 100000 in
theorem tw_1325 : Cond.code yX5_ofKettles cX5_ofKettles 4 (some .int) ∈ kg_U := tw_m (i := 1325) (by decide +kernel) (by decide +kernel)
set_option maxRecDepth 100000 in
theorem tw_1326 : Cond.methodLink RX5 224 yX5_allPoints ∈ kg_U := tw_m (i := 1326) (by decide +kernel) (by decide +kernel)
set_option maxRecDepth 100000 in
theorem tw_1328 : Cond.instanceMethod yX5_allPoints ∈ kg_U := tw_m (i := 1328) (by decide +kernel) (by decide +kernel)
set_option maxRecDepth 100000 in
theorem tw_1329 : Cond.code yX5_allPoints cX5_allPoints 3 (some .int) ∈ kg_U := tw_m (i := 1329) (by decide +kernel) (by decide +kernel)
set_option maxRecDepth 100000 in
theorem tw_1330 : Cond.methodLink RL 137 yX5_isBalanced ∈ kg_U := tw_m (i := 1330) (by decide +kernel) (by decide +kernel)
set_option maxRecDepth 100000 in
theorem tw_1331 : Cond.instanceMethod yX5_isBalanced ∈ kg_U := tw_m (i := 1331) (by decide +kernel) (by decide +kernel)
set_option maxRecDepth 100000 in
theorem tw_1332 : Cond.selects RX5 yX5_isBalanced yX5_isBalanced ∈ kg_U := tw_m (i := 1332) (by decide +kernel) (by decide +kernel)
set_option maxRecDepth 100000 in
theorem tw_1333 : Cond.code yX5_isBalanced cX5_isBalanced 1 (some .int) ∈ kg_U := tw_m (i := 1333) (by decide +kernel) (by decide +kernel)
set_option maxRecDepth 100000 in
theorem tw_1334 : Cond.methodLink RL 142 yX5_meanWater ∈ kg_U := tw_m (i := 1334) (by decide +kernel) (by decide +kernel)
set_option maxRecDepth 100000 in
theorem tw_1335 : Cond.instanceMethod yX5_meanWater ∈ kg_U := tw_m (i := 1335) (by decide +kernel) (by decide +kernel)
set_option maxRecDepth 100000 in
theorem tw_1336 : Cond.selects RX5 yX5_meanWater yX5_meanWater ∈ kg_U := tw_m (i := 1336) (by decide +kernel) (by decide +kernel)
set_option maxRecDepth 100000 in
theorem tw_1337 : Cond.code yX5_meanWater cX5_meanWater 1 (some .double) ∈ kg_U := tw_m (i := 1337) (by decide +kernel) (by decide +kernel)
set_option maxRecDepth 100000 in
theorem tw_1338 : Cond.methodLink RL 147 yX5_whistleShare ∈ kg_U := tw_m (i := 1338) (by decide +kernel) (by decide +kernel)
set_option maxRecDepth 100000 in
theorem tw_1339 : Cond.instanceMethod yX5_whistleShare ∈ kg_U := tw_m (i := 1339) (by decide +kernel) (by decide +kernel)
set_option maxRecDepth 100000 in
theorem tw_1340 : Cond.selects RX5 yX5_whistleShare yX5_whistleShare ∈ kg_U := tw_m (i := 1340) (by decide +kernel) (by decide +kernel)
set_option maxRecDepth 100000 in
theorem tw_1341 : Cond.code yX5_whistleShare cX5_whistleShare 1 (some .float) ∈ kg_U := tw_m (i := 1341) (by decide +kernel) (by decide +kernel)
set_option maxRecDepth 100000 in
theorem tw_1342 : Cond.methodLink RX5 227 yX5_whistling ∈ kg_U := tw_m (i := 1342) (by decide +kernel) (by decide +kernel)
set_option maxRecDepth 100000 in
theorem tw_1343 : Cond.methodLink RL 151 yX5_undo ∈ kg_U := tw_m (i := 1343) (by decide +kernel) (by decide +kernel)
set_option maxRecDepth 100000 in
theorem tw_1344 : Cond.instanceMethod yX5_undo ∈ kg_U := tw_m (i := 1344) (by decide +kernel) (by decide +kernel)
set_option maxRecDepth 100000 in
theorem tw_1345 : Cond.selects RX5 yX5_undo yX5_undo ∈ kg_U := tw_m (i := 1345) (by decide +kernel) (by decide +kernel)
set_option maxRecDepth 100000 in
theorem tw_1346 : Cond.code yX5_undo cX5_undo 1 (some .int) ∈ kg_U := tw_m (i := 1346) (by decide +kernel) (by decide +kernel)
set_option maxRecDepth 100000 in
theorem tw_1347 : Cond.methodLink RL 155 yX5_save ∈ kg_U := tw_m (i := 1347) (by decide +kernel) (by decide +kernel)
set_option maxRecDepth 100000 in
theorem tw_1348 : Cond.instanceMethod yX5_save ∈ kg_U := tw_m (i := 1348) (by decide +kernel) (by decide +kernel)
set_option maxRecDepth 100000 in
theorem tw_1349 : Cond.selects RX5 yX5_save yX5_save ∈ kg_U := tw_m (i := 1349) (by decide +kernel) (by decide +kernel)
set_option maxRecDepth 100000 in
theorem tw_1350 : Cond.code yX5_save cX5_save 1 (some .int) ∈ kg_U := tw_m (i := 1350) (by decide +kernel) (by decide +kernel)
set_option maxRecDepth 100000 in
theorem tw_1351 : Cond.methodLink RL 159 yX5_restore ∈ kg_U := tw_m (i := 1351) (by decide +kernel) (by decide +kernel)
set_option maxRecDepth 100000 in
theorem tw_1352 : Cond.instanceMethod yX5_restore ∈ kg_U := tw_m (i := 1352) (by decide +kernel) (by decide +kernel)
set_option maxRecDepth 100000 in
theorem tw_1353 : Cond.selects RX5 yX5_restore yX5_restore ∈ kg_U := tw_m (i := 1353) (by decide +kernel) (by decide +kernel)
set_option maxRecDepth 100000 in
theorem tw_1354 : Cond.code yX5_restore cX5_restore 1 (some .int) ∈ kg_U := tw_m (i := 1354) (by decide +kernel) (by decide +kernel)
set_option maxRecDepth 100000 in
theorem tw_1355 : Cond.sameMethod RJ5 RJ5 "setLength" "(I)V" ∈ kg_U := tw_m (i := 1355) (by decide +kernel) (by decide +kernel)
set_option maxRecDepth 100000 in
theorem tw_1356 : Cond.sameMethod RJ5 RJ5 "ensureCapacityInternal" "(I)V" ∈ kg_U := tw_m (i := 1356) (by decide +kernel) (by decide +kernel)
set_option maxRecDepth 100000 in
theorem tw_1357 : Cond.sameMethod RJ5 RJ5 "newCapacity" "(I)I" ∈ kg_U := tw_m (i := 1357) (by decide +kernel) (by decide +kernel)
set_option maxRecDepth 100000 in
theorem tw_1358 : Cond.sameMethod RJ5 RJ5 "append" "(I)Ljava/lang/AbstractStringBuilder;" ∈ kg_U := tw_m (i := 1358) (by decide +kernel) (by decide +kernel)
set_option maxRecDepth 100000 in
theorem tw_1359 : Cond.sameMethod RJ5 RJ5 "append" "(C)Ljava/lang/AbstractStringBuilder;" ∈ kg_U := tw_m (i := 1359) (by decide +kernel) (by decide +kernel)
set_option maxRecDepth 100000 in
theorem tw_1360 : Cond.sameMethod RJ5 RJ5 "inflate" "()V" ∈ kg_U := tw_m (i := 1360) (by decide +kernel) (by decide +kernel)
set_option maxRecDepth 100000 in
theorem tw_1361 : Cond.sameMethod RJ5 RJ5 "length" "()I" ∈ kg_U := tw_m (i := 1361) (by decide +kernel) (by decide +kernel)
set_option maxRecDepth 100000 in
theorem tw_1362 : Cond.sameMethod RJ5 RJ5 "charAt" "(I)C" ∈ kg_U := tw_m (i := 1362) (by decide +kernel) (by decide +kernel)
set_option maxRecDepth 100000 in
theorem tw_1363 : Cond.fieldLink RJ0 9 "java/lang/String" "value" "[B" ∈ kg_U := tw_m (i := 1363) (by decide +kernel) (by decide +kernel)
set_option maxRecDepth 100000 in
theorem tw_1364 : Cond.fieldLink RJ0 15 "java/lang/String" "coder" "B" ∈ kg_U := tw_m (i := 1364) (by decide +kernel) (by decide +kernel)
