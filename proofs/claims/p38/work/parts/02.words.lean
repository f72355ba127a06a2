set_option maxRecDepth 100000 in
def kg_U : List Cond := lw_tbl.filter goodWord
set_option maxRecDepth 100000 in
theorem tw_m {i : Nat} {w : Cond} (h : lw_tbl[i]? = some w) (g : goodWord w = true) : w ∈ kg_U := List.mem_filter.mpr ⟨List.mem_of_getElem? h, g⟩
set_option maxRecDepth 100000 in
theorem tw_t {w : Cond} (h : w ∈ kg_U) : w ∈ lw_tbl := (List.mem_filter.mp h).1
set_option maxRecDepth 100000 in
theorem tw_g {w : Cond} (h : w ∈ kg_U) : goodWord w = true := (List.mem_filter.mp h).2
set_option maxRecDepth 100000 in
theorem tw_G {a b : Cond} (hb : b ∈ kg_U) : GoodIn (a :: kg_U) (b :: kg_U) := fun w hw => (List.mem_cons.mp hw).elim (fun h => ⟨List.mem_cons_of_mem _ (h ▸ hb), good_of_word (tw_g (h ▸ hb))⟩) (fun h => ⟨List.mem_cons_of_mem _ h, good_of_word (tw_g h)⟩)
set_option maxRecDepth 100000 in
theorem tw_H {b : Cond} (hb : b ∈ kg_U) : GoodIn kg_U (b :: kg_U) := fun w hw => (List.mem_cons.mp hw).elim (fun h => ⟨h ▸ hb, good_of_word (tw_g (h ▸ hb))⟩) (fun h => ⟨h, good_of_word (tw_g h)⟩)
set_option maxRecDepth 100000 in
theorem tw_0 : Cond.selects RX4 yX4_isKettle yX4_isKettle ∈ kg_U := tw_m (i := 0) (by decide +kernel) (by decide +kernel)
set_option maxRecDepth 100000 in
theorem tw_1 : Cond.selects RX4 yX4_countAheadOfMember yX4_countAheadOfMember ∈ kg_U := tw_m (i := 1) (by decide +kernel) (by decide +kernel)
set_option maxRecDepth 100000 in
theorem tw_2 : Cond.selects RX4 yX4_isMemberAhead yX4_isMemberAhead ∈ kg_U := tw_m (i := 2) (by decide +kernel) (by decide +kernel)
set_option maxRecDepth 100000 in
theorem tw_3 : Cond.selects RX4 yX4_countAheadOfKettle yX4_countAheadOfKettle ∈ kg_U := tw_m (i := 3) (by decide +kernel) (by decide +kernel)
set_option maxRecDepth 100000 in
theorem tw_4 : Cond.selects RX4 yX4_isKettleAhead yX4_isKettleAhead ∈ kg_U := tw_m (i := 4) (by decide +kernel) (by decide +kernel)
set_option maxRecDepth 100000 in
theorem tw_5 : Cond.selects RX4 yX4_tellSigns yX4_tellSigns ∈ kg_U := tw_m (i := 5) (by decide +kernel) (by decide +kernel)
set_option maxRecDepth 100000 in
theorem tw_6 : Cond.selects RX4 yX4_isBoilingSame yX4_isBoilingSame ∈ kg_U := tw_m (i := 6) (by decide +kernel) (by decide +kernel)
set_option maxRecDepth 100000 in
theorem tw_7 : Cond.selects RX4 yX4_takePitch yX4_takePitch ∈ kg_U := tw_m (i := 7) (by decide +kernel) (by decide +kernel)
set_option maxRecDepth 100000 in
theorem tw_8 : Cond.selects RX4 yX4_refuse yX4_refuse ∈ kg_U := tw_m (i := 8) (by decide +kernel) (by decide +kernel)
set_option maxRecDepth 100000 in
theorem tw_9 : Cond.selects RX4 yX4_settle yX4_settle ∈ kg_U := tw_m (i := 9) (by decide +kernel) (by decide +kernel)
set_option maxRecDepth 100000 in
theorem tw_10 : Cond.selects RX4 yX4_bringKettle yX4_bringKettle ∈ kg_U := tw_m (i := 10) (by decide +kernel) (by decide +kernel)
set_option maxRecDepth 100000 in
theorem tw_11 : Cond.selects RX4 yX4_turnStove yX4_turnStove ∈ kg_U := tw_m (i := 11) (by decide +kernel) (by decide +kernel)
set_option maxRecDepth 100000 in
theorem tw_12 : Cond.selects RX4 yX4_putOnStove yX4_putOnStove ∈ kg_U := tw_m (i := 12) (by decide +kernel) (by decide +kernel)
set_option maxRecDepth 100000 in
theorem tw_13 : Cond.selects RX4 yX4_refuseStove yX4_refuseStove ∈ kg_U := tw_m (i := 13) (by decide +kernel) (by decide +kernel)
set_option maxRecDepth 100000 in
theorem tw_14 : Cond.selects RX4 yX4_takeOffStove yX4_takeOffStove ∈ kg_U := tw_m (i := 14) (by decide +kernel) (by decide +kernel)
set_option maxRecDepth 100000 in
theorem tw_15 : Cond.selects RX4 yX4_pourWater yX4_pourWater ∈ kg_U := tw_m (i := 15) (by decide +kernel) (by decide +kernel)
set_option maxRecDepth 100000 in
theorem tw_16 : Cond.selects RX4 yX4_moveLid yX4_moveLid ∈ kg_U := tw_m (i := 16) (by decide +kernel) (by decide +kernel)
set_option maxRecDepth 100000 in
theorem tw_17 : Cond.selects RX4 yX4_makeAppeal yX4_makeAppeal ∈ kg_U := tw_m (i := 17) (by decide +kernel) (by decide +kernel)
set_option maxRecDepth 100000 in
theorem tw_18 : Cond.selects RX4 yX4_passMinutes yX4_passMinutes ∈ kg_U := tw_m (i := 18) (by decide +kernel) (by decide +kernel)
set_option maxRecDepth 100000 in
theorem tw_19 : Cond.selects RX3 yX3_passMinuteOver yX3_passMinuteOver ∈ kg_U := tw_m (i := 19) (by decide +kernel) (by decide +kernel)
set_option maxRecDepth 100000 in
theorem tw_20 : Cond.selects RX3 yX3_boilDry yX3_boilDry ∈ kg_U := tw_m (i := 20) (by decide +kernel) (by decide +kernel)
set_option maxRecDepth 100000 in
theorem tw_21 : Cond.selects RX3 yX3_changeTemperature yX3_changeTemperature ∈ kg_U := tw_m (i := 21) (by decide +kernel) (by decide +kernel)
set_option maxRecDepth 100000 in
theorem tw_22 : Cond.initialized RL ∈ kg_U := tw_m (i := 22) (by decide +kernel) (by decide +kernel)
set_option maxRecDepth 100000 in
theorem tw_23 : Cond.initialized RX4 ∈ kg_U := tw_m (i := 23) (by decide +kernel) (by decide +kernel)
set_option maxRecDepth 100000 in
theorem tw_24 : Cond.initialized RX3 ∈ kg_U := tw_m (i := 24) (by decide +kernel) (by decide +kernel)
set_option maxRecDepth 100000 in
theorem tw_25 : Cond.initialized RJ7 ∈ kg_U := tw_m (i := 25) (by decide +kernel) (by decide +kernel)
set_option maxRecDepth 100000 in
theorem tw_26 : Cond.initialized RX0 ∈ kg_U := tw_m (i := 26) (by decide +kernel) (by decide +kernel)
set_option maxRecDepth 100000 in
theorem tw_27 : Cond.initialized RX2 ∈ kg_U := tw_m (i := 27) (by decide +kernel) (by decide +kernel)
set_option maxRecDepth 100000 in
theorem tw_28 : Cond.initialized RX1 ∈ kg_U := tw_m (i := 28) (by decide +kernel) (by decide +kernel)
set_option maxRecDepth 100000 in
theorem tw_29 : Cond.initialized RJ5 ∈ kg_U := tw_m (i := 29) (by decide +kernel) (by decide +kernel)
set_option maxRecDepth 100000 in
theorem tw_30 : Cond.initialized RJ4 ∈ kg_U := tw_m (i := 30) (by decide +kernel) (by decide +kernel)
set_option maxRecDepth 100000 in
theorem tw_31 : Cond.initialized RJ0 ∈ kg_U := tw_m (i := 31) (by decide +kernel) (by decide +kernel)
set_option maxRecDepth 100000 in
theorem tw_32 : Cond.initialized RJ2 ∈ kg_U := tw_m (i := 32) (by decide +kernel) (by decide +kernel)
set_option maxRecDepth 100000 in
theorem tw_33 : Cond.initialized RJ9 ∈ kg_U := tw_m (i := 33) (by decide +kernel) (by decide +kernel)
set_option maxRecDepth 100000 in
theorem tw_34 : Cond.initialized RJ10 ∈ kg_U := tw_m (i := 34) (by decide +kernel) (by decide +kernel)
set_option maxRecDepth 100000 in
theorem tw_35 : Cond.initialized "java/lang/Number" ∈ kg_U := tw_m (i := 35) (by decide +kernel) (by decide +kernel)
set_option maxRecDepth 100000 in
theorem tw_36 : Cond.initialized RJ6 ∈ kg_U := tw_m (i := 36) (by decide +kernel) (by decide +kernel)
set_option maxRecDepth 100000 in
theorem tw_37 : Cond.initialized RJ8 ∈ kg_U := tw_m (i := 37) (by decide +kernel) (by decide +kernel)
set_option maxRecDepth 100000 in
theorem tw_38 : Cond.initialized RJ1 ∈ kg_U := tw_m (i := 38) (by decide +kernel) (by decide +kernel)
set_option maxRecDepth 100000 in
theorem tw_39 : Cond.initialized RJ3 ∈ kg_U := tw_m (i := 39) (by decide +kernel) (by decide +kernel)
set_option maxRecDepth 100000 in
theorem tw_40 : Cond.classLink RL 18 RX4 ∈ kg_U := tw_m (i := 40) (by decide +kernel) (by decide +kernel)
set_option maxRecDepth 100000 in
theorem tw_41 : Cond.instantiable RX4 7 ∈ kg_U := tw_m (i := 41) (by decide +kernel) (by decide +kernel)
set_option maxRecDepth 100000 in
theorem tw_42 : Cond.methodLink RL 88 yX4_init ∈ kg_U := tw_m (i := 42) (by decide +kernel) (by decide +kernel)
set_option maxRecDepth 100000 in
theorem tw_43 : Cond.instanceMethod yX4_init ∈ kg_U := tw_m (i := 43) (by decide +kernel) (by decide +kernel)
set_option maxRecDepth 100000 in
theorem tw_44 : Cond.code yX4_init cX4_init 1 none ∈ kg_U := tw_m (i := 44) (by decide +kernel) (by decide +kernel)
set_option maxRecDepth 100000 in
theorem tw_45 : Cond.methodLink RX4 1 (⟨"java/lang/Object", "<init>", "()V"⟩ : MethodName) ∈ kg_U := tw_m (i := 45) (by decide +kernel) (by decide +kernel)
set_option maxRecDepth 100000 in
theorem tw_46 : Cond.instanceMethod (⟨"java/lang/Object", "<init>", "()V"⟩ : MethodName) ∈ kg_U := tw_m (i := 46) (by decide +kernel) (by decide +kernel)
set_option maxRecDepth 100000 in
theorem tw_47 : Cond.code (⟨"java/lang/Object", "<init>", "()V"⟩ : MethodName) object_method_1_code 1 none ∈ kg_U := tw_m (i := 47) (by decide +kernel) (by decide +kernel)
set_option maxRecDepth 100000 in
theorem tw_48 : Cond.classLink RX4 7 RX3 ∈ kg_U := tw_m (i := 48) (by decide +kernel) (by decide +kernel)
set_option maxRecDepth 100000 in
theorem tw_49 : Cond.instantiable RX3 18 ∈ kg_U := tw_m (i := 49) (by decide +kernel) (by decide +kernel)
set_option maxRecDepth 100000 in
theorem tw_50 : Cond.methodLink RX4 9 yX3_init ∈ kg_U := tw_m (i := 50) (by decide +kernel) (by decide +kernel)
set_option maxRecDepth 100000 in
theorem tw_51 : Cond.instanceMethod yX3_init ∈ kg_U := tw_m (i := 51) (by decide +kernel) (by decide +kernel)
set_option maxRecDepth 100000 in
theorem tw_52 : Cond.code yX3_init cX3_init 1 none ∈ kg_U := tw_m (i := 52) (by decide +kernel) (by decide +kernel)
set_option maxRecDepth 100000 in
theorem tw_53 : Cond.methodLink RX3 3 (⟨"java/lang/Object", "<init>", "()V"⟩ : MethodName) ∈ kg_U := tw_m (i := 53) (by decide +kernel) (by decide +kernel)
set_option maxRecDepth 100000 in
theorem tw_54 : Cond.methodLink RX3 54 yJ7_fill_53178 ∈ kg_U := tw_m (i := 54) (by decide +kernel) (by decide +kernel)
set_option maxRecDepth 100000 in
theorem tw_55 : Cond.static yJ7_fill_53178 ∈ kg_U := tw_m (i := 55) (by decide +kernel) (by decide +kernel)
set_option maxRecDepth 100000 in
theorem tw_56 : Cond.code yJ7_fill_53178 cJ7_fill_53178 4 none ∈ kg_U := tw_m (i := 56) (by decide +kernel) (by decide +kernel)
set_option maxRecDepth 100000 in
theorem tw_57 : Cond.fieldLink RX3 9 "KettleGuild$State" "owners" "[I" ∈ kg_U := tw_m (i := 57) (by decide +kernel) (by decide +kernel)
set_option maxRecDepth 100000 in
theorem tw_58 : Cond.fieldLink RX4 63 "KettleGuild$State" "owners" "[I" ∈ kg_U := tw_m (i := 58) (by decide +kernel) (by decide +kernel)
set_option maxRecDepth 100000 in
theorem tw_59 : Cond.fieldLink RX3 15 "KettleGuild$State" "points" "[I" ∈ kg_U := tw_m (i := 59) (by decide +kernel) (by decide +kernel)
set_option maxRecDepth 100000 in
theorem tw_60 : Cond.fieldLink RX4 183 "KettleGuild$State" "points" "[I" ∈ kg_U := tw_m (i := 60) (by decide +kernel) (by decide +kernel)
set_option maxRecDepth 100000 in
theorem tw_61 : Cond.fieldLink RX3 18 "KettleGuild$State" "boiledDry" "[I" ∈ kg_U := tw_m (i := 61) (by decide +kernel) (by decide +kernel)
set_option maxRecDepth 100000 in
theorem tw_62 : Cond.fieldLink RX4 195 "KettleGuild$State" "boiledDry" "[I" ∈ kg_U := tw_m (i := 62) (by decide +kernel) (by decide +kernel)
set_option maxRecDepth 100000 in
theorem tw_63 : Cond.fieldLink RX3 21 "KettleGuild$State" "appealsMade" "[I" ∈ kg_U := tw_m (i := 63) (by decide +kernel) (by decide +kernel)
set_option maxRecDepth 100000 in
theorem tw_64 : Cond.fieldLink RX4 198 "KettleGuild$State" "appealsMade" "[I" ∈ kg_U := tw_m (i := 64) (by decide +kernel) (by decide +kernel)
set_option maxRecDepth 100000 in
theorem tw_65 : Cond.fieldLink RX3 24 "KettleGuild$State" "heats" "[I" ∈ kg_U := tw_m (i := 65) (by decide +kernel) (by decide +kernel)
set_option maxRecDepth 100000 in
theorem tw_66 : Cond.fieldLink RX4 133 "KettleGuild$State" "heats" "[I" ∈ kg_U := tw_m (i := 66) (by decide +kernel) (by decide +kernel)
set_option maxRecDepth 100000 in
theorem tw_67 : Cond.fieldLink RX3 27 "KettleGuild$State" "members" "[I" ∈ kg_U := tw_m (i := 67) (by decide +kernel) (by decide +kernel)
set_option maxRecDepth 100000 in
theorem tw_68 : Cond.fieldLink RX4 80 "KettleGuild$State" "members" "[I" ∈ kg_U := tw_m (i := 68) (by decide +kernel) (by decide +kernel)
set_option maxRecDepth 100000 in
theorem tw_69 : Cond.fieldLink RX3 30 "KettleGuild$State" "pitches" "[I" ∈ kg_U := tw_m (i := 69) (by decide +kernel) (by decide +kernel)
set_option maxRecDepth 100000 in
theorem tw_70 : Cond.fieldLink RX4 83 "KettleGuild$State" "pitches" "[I" ∈ kg_U := tw_m (i := 70) (by decide +kernel) (by decide +kernel)
set_option maxRecDepth 100000 in
theorem tw_71 : Cond.fieldLink RX3 33 "KettleGuild$State" "waters" "[I" ∈ kg_U := tw_m (i := 71) (by decide +kernel) (by decide +kernel)
set_option maxRecDepth 100000 in
theorem tw_72 : Cond.fieldLink RX4 86 "KettleGuild$State" "waters" "[I" ∈ kg_U := tw_m (i := 72) (by decide +kernel) (by decide +kernel)
set_option maxRecDepth 100000 in
theorem tw_73 : Cond.fieldLink RX3 36 "KettleGuild$State" "temperatures" "[I" ∈ kg_U := tw_m (i := 73) (by decide +kernel) (by decide +kernel)
set_option maxRecDepth 100000 in
theorem tw_74 : Cond.fieldLink RX4 89 "KettleGuild$State" "temperatures" "[I" ∈ kg_U := tw_m (i := 74) (by decide +kernel) (by decide +kernel)
set_option maxRecDepth 100000 in
theorem tw_75 : Cond.fieldLink RX3 39 "KettleGuild$State" "stoves" "[I" ∈ kg_U := tw_m (i := 75) (by decide +kernel) (by decide +kernel)
set_option maxRecDepth 100000 in
theorem tw_76 : Cond.fieldLink RX4 95 "KettleGuild$State" "stoves" "[I" ∈ kg_U := tw_m (i := 76) (by decide +kernel) (by decide +kernel)
set_option maxRecDepth 100000 in
theorem tw_77 : Cond.fieldLink RX3 42 "KettleGuild$State" "bans" "[I" ∈ kg_U := tw_m (i := 77) (by decide +kernel) (by decide +kernel)
set_option maxRecDepth 100000 in
theorem tw_78 : Cond.fieldLink RX4 104 "KettleGuild$State" "bans" "[I" ∈ kg_U := tw_m (i := 78) (by decide +kernel) (by decide +kernel)
set_option maxRecDepth 100000 in
theorem tw_79 : Cond.fieldLink RX3 45 "KettleGuild$State" "lids" "[I" ∈ kg_U := tw_m (i := 79) (by decide +kernel) (by decide +kernel)
set_option maxRecDepth 100000 in
theorem tw_80 : Cond.fieldLink RX4 92 "KettleGuild$State" "lids" "[I" ∈ kg_U := tw_m (i := 80) (by decide +kernel) (by decide +kernel)
set_option maxRecDepth 100000 in
theorem tw_81 : Cond.fieldLink RX3 48 "KettleGuild$State" "bars" "[I" ∈ kg_U := tw_m (i := 81) (by decide +kernel) (by decide +kernel)
set_option maxRecDepth 100000 in
theorem tw_82 : Cond.fieldLink RX4 341 "KettleGuild$State" "bars" "[I" ∈ kg_U := tw_m (i := 82) (by decide +kernel) (by decide +kernel)
set_option maxRecDepth 100000 in
theorem tw_83 : Cond.fieldLink RX3 51 "KettleGuild$State" "appealers" "[I" ∈ kg_U := tw_m (i := 83) (by decide +kernel) (by decide +kernel)
set_option maxRecDepth 100000 in
theorem tw_84 : Cond.fieldLink RX4 107 "KettleGuild$State" "appealers" "[I" ∈ kg_U := tw_m (i := 84) (by decide +kernel) (by decide +kernel)
set_option maxRecDepth 100000 in
theorem tw_85 : Cond.fieldLink RX3 64 "KettleGuild$State" "kettles" "I" ∈ kg_U := tw_m (i := 85) (by decide +kernel) (by decide +kernel)
set_option maxRecDepth 100000 in
theorem tw_86 : Cond.fieldLink RX4 146 "KettleGuild$State" "kettles" "I" ∈ kg_U := tw_m (i := 86) (by decide +kernel) (by decide +kernel)
set_option maxRecDepth 100000 in
theorem tw_87 : Cond.fieldLink RX3 68 "KettleGuild$State" "minutes" "I" ∈ kg_U := tw_m (i := 87) (by decide +kernel) (by decide +kernel)
set_option maxRecDepth 100000 in
theorem tw_88 : Cond.fieldLink RX4 271 "KettleGuild$State" "minutes" "I" ∈ kg_U := tw_m (i := 88) (by decide +kernel) (by decide +kernel)
set_option maxRecDepth 100000 in
theorem tw_89 : Cond.fieldLink RX3 71 "KettleGuild$State" "waterCome" "I" ∈ kg_U := tw_m (i := 89) (by decide +kernel) (by decide +kernel)
set_option maxRecDepth 100000 in
theorem tw_90 : Cond.fieldLink RX4 277 "KettleGuild$State" "waterCome" "I" ∈ kg_U := tw_m (i := 90) (by decide +kernel) (by decide +kernel)
set_option maxRecDepth 100000 in
theorem tw_91 : Cond.fieldLink RX3 74 "KettleGuild$State" "waterGone" "I" ∈ kg_U := tw_m (i := 91) (by decide +kernel) (by decide +kernel)
set_option maxRecDepth 100000 in
theorem tw_92 : Cond.fieldLink RX4 280 "KettleGuild$State" "waterGone" "I" ∈ kg_U := tw_m (i := 92) (by decide +kernel) (by decide +kernel)
set_option maxRecDepth 100000 in
theorem tw_129 : Cond.superclass RX3 "java/lang/Object" ∈ kg_U := tw_m (i := 129) (by decide +kernel) (by decide +kernel)
set_option maxRecDepth 100000 in
theorem tw_130 : Cond.arrayClass .int ∈ kg_U := tw_m (i := 130) (by decide +kernel) (by decide +kernel)
set_option maxRecDepth 100000 in
theorem tw_131 : Cond.classLink RX4 19 RX0 ∈ kg_U := tw_m (i := 131) (by decide +kernel) (by decide +kernel)
set_option maxRecDepth 100000 in
theorem tw_132 : Cond.instantiable RX0 3 ∈ kg_U := tw_m (i := 132) (by decide +kernel) (by decide +kernel)
set_option maxRecDepth 100000 in
theorem tw_133 : Cond.methodLink RX4 21 yX0_init ∈ kg_U := tw_m (i := 133) (by decide +kernel) (by decide +kernel)
set_option maxRecDepth 100000 in
theorem tw_134 : Cond.instanceMethod yX0_init ∈ kg_U := tw_m (i := 134) (by decide +kernel) (by decide +kernel)
set_option maxRecDepth 100000 in
theorem tw_135 : Cond.code yX0_init cX0_init 2 none ∈ kg_U := tw_m (i := 135) (by decide +kernel) (by decide +kernel)
set_option maxRecDepth 100000 in
theorem tw_136 : Cond.methodLink RX0 3 (⟨"java/lang/Object", "<init>", "()V"⟩ : MethodName) ∈ kg_U := tw_m (i := 136) (by decide +kernel) (by decide +kernel)
set_option maxRecDepth 100000 in
theorem tw_137 : Cond.classLink RX0 9 RX3 ∈ kg_U := tw_m (i := 137) (by decide +kernel) (by decide +kernel)
set_option maxRecDepth 100000 in
theorem tw_139 : Cond.methodLink RX0 17 yX3_init ∈ kg_U := tw_m (i := 139) (by decide +kernel) (by decide +kernel)
set_option maxRecDepth 100000 in
theorem tw_140 : Cond.fieldLink RX0 11 "KettleGuild$History" "states" "[LKettleGuild$State;" ∈ kg_U := tw_m (i := 140) (by decide +kernel) (by decide +kernel)
set_option maxRecDepth 100000 in
theorem tw_141 : Cond.fieldLink RX0 18 "KettleGuild$History" "begun" "I" ∈ kg_U := tw_m (i := 141) (by decide +kernel) (by decide +kernel)
set_option maxRecDepth 100000 in
theorem tw_142 : Cond.fieldLink RX0 26 "KettleGuild$History" "count" "I" ∈ kg_U := tw_m (i := 142) (by decide +kernel) (by decide +kernel)
set_option maxRecDepth 100000 in
theorem tw_143 : Cond.fieldLink RX4 287 "KettleGuild$History" "count" "I" ∈ kg_U := tw_m (i := 143) (by decide +kernel) (by decide +kernel)
set_option maxRecDepth 100000 in
theorem tw_150 : Cond.superclass RX0 "java/lang/Object" ∈ kg_U := tw_m (i := 150) (by decide +kernel) (by decide +kernel)
set_option maxRecDepth 100000 in
theorem tw_151 : Cond.classLink RX4 26 RX2 ∈ kg_U := tw_m (i := 151) (by decide +kernel) (by decide +kernel)
set_option maxRecDepth 100000 in
theorem tw_152 : Cond.instantiable RX2 3 ∈ kg_U := tw_m (i := 152) (by decide +kernel) (by decide +kernel)
set_option maxRecDepth 100000 in
theorem tw_154 : Cond.instanceMethod yX2_init ∈ kg_U := tw_m (i := 154) (by decide +kernel) (by decide +kernel)
set_option maxRecDepth 100000 in
theorem tw_155 : Cond.code yX2_init cX2_init 1 none ∈ kg_U := tw_m (i := 155) (by decide +kernel) (by decide +kernel)
set_option maxRecDepth 100000 in
theorem tw_156 : Cond.methodLink RX2 3 (⟨"java/lang/Object", "<init>", "()V"⟩ : MethodName) ∈ kg_U := tw_m (i := 156) (by decide +kernel) (by decide +kernel)
set_option maxRecDepth 100000 in
theorem tw_157 : Cond.fieldLink RX2 9 "KettleGuild$Reasons" "numbers" "[I" ∈ kg_U := tw_m (i := 157) (by decide +kernel) (by decide +kernel)
set_option maxRecDepth 100000 in
theorem tw_158 : Cond.fieldLink RX2 15 "KettleGuild$Reasons" "details" "[I" ∈ kg_U := tw_m (i := 158) (by decide +kernel) (by decide +kernel)
set_option maxRecDepth 100000 in
theorem tw_159 : Cond.fieldLink RX2 18 "KettleGuild$Reasons" "count" "I" ∈ kg_U := tw_m (i := 159) (by decide +kernel) (by decide +kernel)
set_option maxRecDepth 100000 in
theorem tw_160 : Cond.fieldLink RX4 252 "KettleGuild$Reasons" "count" "I" ∈ kg_U := tw_m (i := 160) (by decide +kernel) (by decide +kernel)
set_option maxRecDepth 100000 in
theorem tw_167 : Cond.superclass RX2 "java/lang/Object" ∈ kg_U := tw_m (i := 167) (by decide +kernel) (by decide +kernel)
set_option maxRecDepth 100000 in
theorem tw_168 : Cond.classLink RX4 33 RX1 ∈ kg_U := tw_m (i := 168) (by decide +kernel) (by decide +kernel)
set_option maxRecDepth 100000 in
theorem tw_169 : Cond.instantiable RX1 6 ∈ kg_U := tw_m (i := 169) (by decide +kernel) (by decide +kernel)
set_option maxRecDepth 100000 in
theorem tw_171 : Cond.instanceMethod yX1_init ∈ kg_U := tw_m (i := 171) (by decide +kernel) (by decide +kernel)
set_option maxRecDepth 100000 in
theorem tw_172 : Cond.code yX1_init cX1_init 1 none ∈ kg_U := tw_m (i := 172) (by decide +kernel) (by decide +kernel)
set_option maxRecDepth 100000 in
theorem tw_173 : Cond.methodLink RX1 3 (⟨"java/lang/Object", "<init>", "()V"⟩ : MethodName) ∈ kg_U := tw_m (i := 173) (by decide +kernel) (by decide +kernel)
set_option maxRecDepth 100000 in
theorem tw_174 : Cond.fieldLink RX1 9 "KettleGuild$Orders" "text" "[C" ∈ kg_U := tw_m (i := 174) (by decide +kernel) (by decide +kernel)
set_option maxRecDepth 100000 in
theorem tw_175 : Cond.fieldLink RX1 15 "KettleGuild$Orders" "kinds" "[I" ∈ kg_U := tw_m (i := 175) (by decide +kernel) (by decide +kernel)
set_option maxRecDepth 100000 in
theorem tw_176 : Cond.fieldLink RX1 19 "KettleGuild$Orders" "numbers" "[I" ∈ kg_U := tw_m (i := 176) (by decide +kernel) (by decide +kernel)
set_option maxRecDepth 100000 in
theorem tw_177 : Cond.fieldLink RX4 211 "KettleGuild$Orders" "length" "I" ∈ kg_U := tw_m (i := 177) (by decide +kernel) (by decide +kernel)
set_option maxRecDepth 100000 in
theorem tw_190 : Cond.superclass RX1 "java/lang/Object" ∈ kg_U := tw_m (i := 190) (by decide +kernel) (by decide +kernel)
set_option maxRecDepth 100000 in
theorem tw_191 : Cond.arrayClass .char ∈ kg_U := tw_m (i := 191) (by decide +kernel) (by decide +kernel)
set_option maxRecDepth 100000 in
theorem tw_192 : Cond.classLink RX4 40 RJ4 ∈ kg_U := tw_m (i := 192) (by decide +kernel) (by decide +kernel)
set_option maxRecDepth 100000 in
theorem tw_193 : Cond.instantiable RJ4 4 ∈ kg_U := tw_m (i := 193) (by decide +kernel) (by decide +kernel)
set_option maxRecDepth 100000 in
theorem tw_194 : Cond.methodLink RX4 42 yJ4_init_da8c8 ∈ kg_U := tw_m (i := 194) (by decide +kernel) (by decide +kernel)
set_option maxRecDepth 100000 in
theorem tw_195 : Cond.instanceMethod yJ4_init_da8c8 ∈ kg_U := tw_m (i := 195) (by decide +kernel) (by decide +kernel)
set_option maxRecDepth 100000 in
theorem tw_196 : Cond.code yJ4_init_da8c8 cJ4_init_da8c8 1 none ∈ kg_U := tw_m (i := 196) (by decide +kernel) (by decide +kernel)
set_option maxRecDepth 100000 in
theorem tw_197 : Cond.methodLink RJ4 1 yJ5_init_d00df ∈ kg_U := tw_m (i := 197) (by decide +kernel) (by decide +kernel)
set_option maxRecDepth 100000 in
theorem tw_198 : Cond.instanceMethod yJ5_init_d00df ∈ kg_U := tw_m (i := 198) (by decide +kernel) (by decide +kernel)
set_option maxRecDepth 100000 in
theorem tw_199 : Cond.code yJ5_init_d00df cJ5_init_d00df 2 none ∈ kg_U := tw_m (i := 199) (by decide +kernel) (by decide +kernel)
set_option maxRecDepth 100000 in
theorem tw_200 : Cond.methodLink RJ5 3 (⟨"java/lang/Object", "<init>", "()V"⟩ : MethodName) ∈ kg_U := tw_m (i := 200) (by decide +kernel) (by decide +kernel)
set_option maxRecDepth 100000 in
theorem tw_201 : Cond.fieldLink RJ5 18 "java/lang/String" "COMPACT_STRINGS" "Z" ∈ kg_U := tw_m (i := 201) (by decide +kernel) (by decide +kernel)
set_option maxRecDepth 100000 in
theorem tw_203 : Cond.methodLink RJ5 26 yJ2_newBytesFor_77867 ∈ kg_U := tw_m (i := 203) (by decide +kernel) (by decide +kernel)
set_option maxRecDepth 100000 in
theorem tw_204 : Cond.static yJ2_newBytesFor_77867 ∈ kg_U := tw_m (i := 204) (by decide +kernel) (by decide +kernel)
set_option maxRecDepth 100000 in
theorem tw_205 : Cond.code yJ2_newBytesFor_77867 cJ2_newBytesFor_77867 1 (some (.array .byte)) ∈ kg_U := tw_m (i := 205) (by decide +kernel) (by decide +kernel)
set_option maxRecDepth 100000 in
theorem tw_206 : Cond.methodLink RJ2 11 yJ2_newBytesLength_0f7a4 ∈ kg_U := tw_m (i := 206) (by decide +kernel) (by decide +kernel)
set_option maxRecDepth 100000 in
theorem tw_207 : Cond.static yJ2_newBytesLength_0f7a4 ∈ kg_U := tw_m (i := 207) (by decide +kernel) (by decide +kernel)
set_option maxRecDepth 100000 in
theorem tw_208 : Cond.code yJ2_newBytesLength_0f7a4 cJ2_newBytesLength_0f7a4 1 (some .int) ∈ kg_U := tw_m (i := 208) (by decide +kernel) (by decide +kernel)
set_option maxRecDepth 100000 in
theorem tw_209 : Cond.constant RJ2 20 (1073741823 : Int32) ∈ kg_U := tw_m (i := 209) (by decide +kernel) (by decide +kernel)
set_option maxRecDepth 100000 in
theorem tw_210 : Cond.fieldLink RJ5 15 "java/lang/AbstractStringBuilder" "value" "[B" ∈ kg_U := tw_m (i := 210) (by decide +kernel) (by decide +kernel)
set_option maxRecDepth 100000 in
theorem tw_211 : Cond.fieldLink RJ5 22 "java/lang/AbstractStringBuilder" "coder" "B" ∈ kg_U := tw_m (i := 211) (by decide +kernel) (by decide +kernel)
set_option maxRecDepth 100000 in
theorem tw_212 : Cond.fieldLink RJ5 73 "java/lang/AbstractStringBuilder" "maybeLatin1" "Z" ∈ kg_U := tw_m (i := 212) (by decide +kernel) (by decide +kernel)
set_option maxRecDepth 100000 in
theorem tw_213 : Cond.fieldLink RJ0 1048 "java/lang/AbstractStringBuilder" "maybeLatin1" "Z" ∈ kg_U := tw_m (i := 213) (by decide +kernel) (by decide +kernel)
set_option maxRecDepth 100000 in
theorem tw_214 : Cond.fieldLink RJ5 79 "java/lang/AbstractStringBuilder" "count" "I" ∈ kg_U := tw_m (i := 214) (by decide +kernel) (by decide +kernel)
set_option maxRecDepth 100000 in
theorem tw_223 : Cond.superclass RJ4 RJ5 ∈ kg_U := tw_m (i := 223) (by decide +kernel) (by decide +kernel)
set_option maxRecDepth 100000 in
theorem tw_224 : Cond.arrayClass .byte ∈ kg_U := tw_m (i := 224) (by decide +kernel) (by decide +kernel)
set_option maxRecDepth 100000 in
theorem tw_225 : Cond.fieldLink RX4 10 "KettleGuild" "now" "LKettleGuild$State;" ∈ kg_U := tw_m (i := 225) (by decide +kernel) (by decide +kernel)
set_option maxRecDepth 100000 in
theorem tw_226 : Cond.fieldLink RX4 16 "KettleGuild" "snapshot" "LKettleGuild$State;" ∈ kg_U := tw_m (i := 226) (by decide +kernel) (by decide +kernel)
set_option maxRecDepth 100000 in
theorem tw_227 : Cond.fieldLink RX4 22 "KettleGuild" "history" "LKettleGuild$History;" ∈ kg_U := tw_m (i := 227) (by decide +kernel) (by decide +kernel)
set_option maxRecDepth 100000 in
theorem tw_228 : Cond.fieldLink RX4 29 "KettleGuild" "reasons" "LKettleGuild$Reasons;" ∈ kg_U := tw_m (i := 228) (by decide +kernel) (by decide +kernel)
set_option maxRecDepth 100000 in
theorem tw_229 : Cond.fieldLink RX4 36 "KettleGuild" "orders" "LKettleGuild$Orders;" ∈ kg_U := tw_m (i := 229) (by decide +kernel) (by decide +kernel)
set_option maxRecDepth 100000 in
theorem tw_230 : Cond.fieldLink RX4 43 "KettleGuild" "line" "Ljava/lang/StringBuilder;" ∈ kg_U := tw_m (i := 230) (by decide +kernel) (by decide +kernel)
set_option maxRecDepth 100000 in
theorem tw_245 : Cond.superclass RX4 "java/lang/Object" ∈ kg_U := tw_m (i := 245) (by decide +kernel) (by decide +kernel)
set_option maxRecDepth 100000 in
theorem tw_246 : Cond.methodLink RL 37 yX4_owner ∈ kg_U := tw_m (i := 246) (by decide +kernel) (by decide +kernel)
set_option maxRecDepth 100000 in
theorem tw_247 : Cond.instanceMethod yX4_owner ∈ kg_U := tw_m (i := 247) (by decide +kernel) (by decide +kernel)
set_option maxRecDepth 100000 in
theorem tw_248 : Cond.selects RX4 yX4_owner yX4_owner ∈ kg_U := tw_m (i := 248) (by decide +kernel) (by decide +kernel)
set_option maxRecDepth 100000 in
theorem tw_249 : Cond.code yX4_owner cX4_owner 2 (some .int) ∈ kg_U := tw_m (i := 249) (by decide +kernel) (by decide +kernel)
set_option maxRecDepth 100000 in
theorem tw_250 : Cond.methodLink RX4 59 yX4_isPitch ∈ kg_U := tw_m (i := 250) (by decide +kernel) (by decide +kernel)
set_option maxRecDepth 100000 in
theorem tw_251 : Cond.static yX4_isPitch ∈ kg_U := tw_m (i := 251) (by decide +kernel) (by decide +kernel)
set_option maxRecDepth 100000 in
theorem tw_252 : Cond.code yX4_isPitch cX4_isPitch 1 (some .boolean) ∈ kg_U := tw_m (i := 252) (by decide +kernel) (by decide +kernel)
set_option maxRecDepth 100000 in
theorem tw_253 : Cond.methodLink RX4 67 yX4_orNothing ∈ kg_U := tw_m (i := 253) (by decide +kernel) (by decide +kernel)
set_option maxRecDepth 100000 in
theorem tw_254 : Cond.static yX4_orNothing ∈ kg_U := tw_m (i := 254) (by decide +kernel) (by decide +kernel)
set_option maxRecDepth 100000 in
theorem tw_255 : Cond.code yX4_orNothing cX4_orNothing 1 (some .int) ∈ kg_U := tw_m (i := 255) (by decide +kernel) (by decide +kernel)
set_option maxRecDepth 100000 in
theorem tw_256 : Cond.methodLink RL 63 yX4_kettleOf ∈ kg_U := tw_m (i := 256) (by decide +kernel) (by decide +kernel)
set_option maxRecDepth 100000 in
theorem tw_257 : Cond.instanceMethod yX4_kettleOf ∈ kg_U := tw_m (i := 257) (by decide +kernel) (by decide +kernel)
set_option maxRecDepth 100000 in
theorem tw_258 : Cond.selects RX4 yX4_kettleOf yX4_kettleOf ∈ kg_U := tw_m (i := 258) (by decide +kernel) (by decide +kernel)
set_option maxRecDepth 100000 in
theorem tw_259 : Cond.code yX4_kettleOf cX4_kettleOf 3 (some .int) ∈ kg_U := tw_m (i := 259) (by decide +kernel) (by decide +kernel)
set_option maxRecDepth 100000 in
theorem tw_260 : Cond.methodLink RX4 77 yX4_isKettle ∈ kg_U := tw_m (i := 260) (by decide +kernel) (by decide +kernel)
set_option maxRecDepth 100000 in
theorem tw_262 : Cond.instanceMethod yX4_isKettle ∈ kg_U := tw_m (i := 262) (by decide +kernel) (by decide +kernel)
set_option maxRecDepth 100000 in
theorem tw_263 : Cond.code yX4_isKettle cX4_isKettle 2 (some .boolean) ∈ kg_U := tw_m (i := 263) (by decide +kernel) (by decide +kernel)
set_option maxRecDepth 100000 in
theorem tw_264 : Cond.methodLink RX4 98 yX3_boils ∈ kg_U := tw_m (i := 264) (by decide +kernel) (by decide +kernel)
set_option maxRecDepth 100000 in
theorem tw_265 : Cond.instanceMethod yX3_boils ∈ kg_U := tw_m (i := 265) (by decide +kernel) (by decide +kernel)
set_option maxRecDepth 100000 in
theorem tw_266 : Cond.selects RX3 yX3_boils yX3_boils ∈ kg_U := tw_m (i := 266) (by decide +kernel) (by decide +kernel)
set_option maxRecDepth 100000 in
theorem tw_267 : Cond.code yX3_boils cX3_boils 2 (some .boolean) ∈ kg_U := tw_m (i := 267) (by decide +kernel) (by decide +kernel)
set_option maxRecDepth 100000 in
theorem tw_268 : Cond.methodLink RX3 106 yX3_heatUnder ∈ kg_U := tw_m (i := 268) (by decide +kernel) (by decide +kernel)
set_option maxRecDepth 100000 in
theorem tw_269 : Cond.instanceMethod yX3_heatUnder ∈ kg_U := tw_m (i := 269) (by decide +kernel) (by decide +kernel)
set_option maxRecDepth 100000 in
theorem tw_270 : Cond.selects RX3 yX3_heatUnder yX3_heatUnder ∈ kg_U := tw_m (i := 270) (by decide +kernel) (by decide +kernel)
set_option maxRecDepth 100000 in
theorem tw_271 : Cond.code yX3_heatUnder cX3_heatUnder 3 (some .int) ∈ kg_U := tw_m (i := 271) (by decide +kernel) (by decide +kernel)
set_option maxRecDepth 100000 in
theorem tw_272 : Cond.methodLink RX4 101 yX3_whistles ∈ kg_U := tw_m (i := 272) (by decide +kernel) (by decide +kernel)
set_option maxRecDepth 100000 in
theorem tw_273 : Cond.instanceMethod yX3_whistles ∈ kg_U := tw_m (i := 273) (by decide +kernel) (by decide +kernel)
set_option maxRecDepth 100000 in
theorem tw_274 : Cond.selects RX3 yX3_whistles yX3_whistles ∈ kg_U := tw_m (i := 274) (by decide +kernel) (by decide +kernel)
set_option maxRecDepth 100000 in
theorem tw_275 : Cond.code yX3_whistles cX3_whistles 2 (some .boolean) ∈ kg_U := tw_m (i := 275) (by decide +kernel) (by decide +kernel)
set_option maxRecDepth 100000 in
theorem tw_276 : Cond.methodLink RX3 110 yX3_whistlers ∈ kg_U := tw_m (i := 276) (by decide +kernel) (by decide +kernel)
set_option maxRecDepth 100000 in
theorem tw_277 : Cond.instanceMethod yX3_whistlers ∈ kg_U := tw_m (i := 277) (by decide +kernel) (by decide +kernel)
set_option maxRecDepth 100000 in
theorem tw_278 : Cond.selects RX3 yX3_whistlers yX3_whistlers ∈ kg_U := tw_m (i := 278) (by decide +kernel) (by decide +kernel)
set_option maxRecDepth 100000 in
theorem tw_279 : Cond.code yX3_whistlers cX3_whistlers 3 (some .int) ∈ kg_U := tw_m (i := 279) (by decide +kernel) (by decide +kernel)
set_option maxRecDepth 100000 in
theorem tw_280 : Cond.methodLink RX3 93 yX3_boils ∈ kg_U := tw_m (i := 280) (by decide +kernel) (by decide +kernel)
set_option maxRecDepth 100000 in
theorem tw_282 : Cond.static yX4_isIn ∈ kg_U := tw_m (i := 282) (by decide +kernel) (by decide +kernel)
set_option maxRecDepth 100000 in
theorem tw_283 : Cond.code yX4_isIn cX4_isIn 2 (some .boolean) ∈ kg_U := tw_m (i := 283) (by decide +kernel) (by decide +kernel)
set_option maxRecDepth 100000 in
theorem tw_284 : Cond.methodLink RX4 110 yJ6_bitCount_0f7a4 ∈ kg_U := tw_m (i := 284) (by decide +kernel) (by decide +kernel)
set_option maxRecDepth 100000 in
theorem tw_285 : Cond.static yJ6_bitCount_0f7a4 ∈ kg_U := tw_m (i := 285) (by decide +kernel) (by decide +kernel)
set_option maxRecDepth 100000 in
theorem tw_286 : Cond.code yJ6_bitCount_0f7a4 cJ6_bitCount_0f7a4 1 (some .int) ∈ kg_U := tw_m (i := 286) (by decide +kernel) (by decide +kernel)
set_option maxRecDepth 100000 in
theorem tw_287 : Cond.constant RJ6 265 (1431655765 : Int32) ∈ kg_U := tw_m (i := 287) (by decide +kernel) (by decide +kernel)
set_option maxRecDepth 100000 in
theorem tw_288 : Cond.constant RJ6 266 (858993459 : Int32) ∈ kg_U := tw_m (i := 288) (by decide +kernel) (by decide +kernel)
set_option maxRecDepth 100000 in
theorem tw_289 : Cond.constant RJ6 267 (252645135 : Int32) ∈ kg_U := tw_m (i := 289) (by decide +kernel) (by decide +kernel)
set_option maxRecDepth 100000 in
theorem tw_290 : Cond.methodLink RL 66 yX4_stoveOf ∈ kg_U := tw_m (i := 290) (by decide +kernel) (by decide +kernel)
set_option maxRecDepth 100000 in
theorem tw_291 : Cond.instanceMethod yX4_stoveOf ∈ kg_U := tw_m (i := 291) (by decide +kernel) (by decide +kernel)
set_option maxRecDepth 100000 in
theorem tw_292 : Cond.selects RX4 yX4_stoveOf yX4_stoveOf ∈ kg_U := tw_m (i := 292) (by decide +kernel) (by decide +kernel)
set_option maxRecDepth 100000 in
theorem tw_293 : Cond.code yX4_stoveOf cX4_stoveOf 3 (some .int) ∈ kg_U := tw_m (i := 293) (by decide +kernel) (by decide +kernel)
set_option maxRecDepth 100000 in
theorem tw_294 : Cond.methodLink RX4 130 yX4_isStove ∈ kg_U := tw_m (i := 294) (by decide +kernel) (by decide +kernel)
set_option maxRecDepth 100000 in
theorem tw_295 : Cond.static yX4_isStove ∈ kg_U := tw_m (i := 295) (by decide +kernel) (by decide +kernel)
set_option maxRecDepth 100000 in
theorem tw_296 : Cond.code yX4_isStove cX4_isStove 1 (some .boolean) ∈ kg_U := tw_m (i := 296) (by decide +kernel) (by decide +kernel)
set_option maxRecDepth 100000 in
theorem tw_297 : Cond.methodLink RX4 136 yX3_kettleOn ∈ kg_U := tw_m (i := 297) (by decide +kernel) (by decide +kernel)
set_option maxRecDepth 100000 in
theorem tw_298 : Cond.instanceMethod yX3_kettleOn ∈ kg_U := tw_m (i := 298) (by decide +kernel) (by decide +kernel)
set_option maxRecDepth 100000 in
theorem tw_299 : Cond.selects RX3 yX3_kettleOn yX3_kettleOn ∈ kg_U := tw_m (i := 299) (by decide +kernel) (by decide +kernel)
set_option maxRecDepth 100000 in
theorem tw_300 : Cond.code yX3_kettleOn cX3_kettleOn 3 (some .int) ∈ kg_U := tw_m (i := 300) (by decide +kernel) (by decide +kernel)
set_option maxRecDepth 100000 in
theorem tw_301 : Cond.methodLink RL 167 yX4_whistling ∈ kg_U := tw_m (i := 301) (by decide +kernel) (by decide +kernel)
set_option maxRecDepth 100000 in
theorem tw_302 : Cond.instanceMethod yX4_whistling ∈ kg_U := tw_m (i := 302) (by decide +kernel) (by decide +kernel)
set_option maxRecDepth 100000 in
theorem tw_303 : Cond.selects RX4 yX4_whistling yX4_whistling ∈ kg_U := tw_m (i := 303) (by decide +kernel) (by decide +kernel)
set_option maxRecDepth 100000 in
theorem tw_304 : Cond.code yX4_whistling cX4_whistling 1 (some .int) ∈ kg_U := tw_m (i := 304) (by decide +kernel) (by decide +kernel)
set_option maxRecDepth 100000 in
theorem tw_305 : Cond.methodLink RX4 142 yX3_whistlers ∈ kg_U := tw_m (i := 305) (by decide +kernel) (by decide +kernel)
set_option maxRecDepth 100000 in
theorem tw_306 : Cond.methodLink RL 170 yX4_harmony ∈ kg_U := tw_m (i := 306) (by decide +kernel) (by decide +kernel)
set_option maxRecDepth 100000 in
theorem tw_307 : Cond.instanceMethod yX4_harmony ∈ kg_U := tw_m (i := 307) (by decide +kernel) (by decide +kernel)
set_option maxRecDepth 100000 in
theorem tw_308 : Cond.selects RX4 yX4_harmony yX4_harmony ∈ kg_U := tw_m (i := 308) (by decide +kernel) (by decide +kernel)
set_option maxRecDepth 100000 in
theorem tw_309 : Cond.code yX4_harmony cX4_harmony 5 (some .int) ∈ kg_U := tw_m (i := 309) (by decide +kernel) (by decide +kernel)
set_option maxRecDepth 100000 in
theorem tw_310 : Cond.methodLink RX4 150 yX4_isIn ∈ kg_U := tw_m (i := 310) (by decide +kernel) (by decide +kernel)
set_option maxRecDepth 100000 in
theorem tw_311 : Cond.methodLink RX4 154 yX4_soundOf ∈ kg_U := tw_m (i := 311) (by decide +kernel) (by decide +kernel)
set_option maxRecDepth 100000 in
theorem tw_312 : Cond.static yX4_soundOf ∈ kg_U := tw_m (i := 312) (by decide +kernel) (by decide +kernel)
set_option maxRecDepth 100000 in
theorem tw_313 : Cond.code yX4_soundOf cX4_soundOf 3 (some .int) ∈ kg_U := tw_m (i := 313) (by decide +kernel) (by decide +kernel)
set_option maxRecDepth 100000 in
theorem tw_314 : Cond.methodLink RX4 311 yJ9_abs_0f7a4 ∈ kg_U := tw_m (i := 314) (by decide +kernel) (by decide +kernel)
set_option maxRecDepth 100000 in
theorem tw_315 : Cond.static yJ9_abs_0f7a4 ∈ kg_U := tw_m (i := 315) (by decide +kernel) (by decide +kernel)
set_option maxRecDepth 100000 in
theorem tw_316 : Cond.code yJ9_abs_0f7a4 cJ9_abs_0f7a4 1 (some .int) ∈ kg_U := tw_m (i := 316) (by decide +kernel) (by decide +kernel)
set_option maxRecDepth 100000 in
theorem tw_317 : Cond.fieldLink RX4 160 "KettleGuild" "SOUNDS" "[I" ∈ kg_U := tw_m (i := 317) (by decide +kernel) (by decide +kernel)
set_option maxRecDepth 100000 in
theorem tw_319 : Cond.methodLink RL 173 yX4_harmonyAgain ∈ kg_U := tw_m (i := 319) (by decide +kernel) (by decide +kernel)
set_option maxRecDepth 100000 in
theorem tw_320 : Cond.instanceMethod yX4_harmonyAgain ∈ kg_U := tw_m (i := 320) (by decide +kernel) (by decide +kernel)
set_option maxRecDepth 100000 in
theorem tw_321 : Cond.selects RX4 yX4_harmonyAgain yX4_harmonyAgain ∈ kg_U := tw_m (i := 321) (by decide +kernel) (by decide +kernel)
set_option maxRecDepth 100000 in
theorem tw_322 : Cond.code yX4_harmonyAgain cX4_harmonyAgain 5 (some .int) ∈ kg_U := tw_m (i := 322) (by decide +kernel) (by decide +kernel)
set_option maxRecDepth 100000 in
theorem tw_323 : Cond.methodLink RX4 157 yX3_whistledPitches ∈ kg_U := tw_m (i := 323) (by decide +kernel) (by decide +kernel)
set_option maxRecDepth 100000 in
theorem tw_324 : Cond.instanceMethod yX3_whistledPitches ∈ kg_U := tw_m (i := 324) (by decide +kernel) (by decide +kernel)
set_option maxRecDepth 100000 in
theorem tw_325 : Cond.selects RX3 yX3_whistledPitches yX3_whistledPitches ∈ kg_U := tw_m (i := 325) (by decide +kernel) (by decide +kernel)
set_option maxRecDepth 100000 in
theorem tw_326 : Cond.code yX3_whistledPitches cX3_whistledPitches 4 (some .int) ∈ kg_U := tw_m (i := 326) (by decide +kernel) (by decide +kernel)
set_option maxRecDepth 100000 in
theorem tw_327 : Cond.methodLink RL 142 yX4_boilsIn ∈ kg_U := tw_m (i := 327) (by decide +kernel) (by decide +kernel)
set_option maxRecDepth 100000 in
theorem tw_328 : Cond.instanceMethod yX4_boilsIn ∈ kg_U := tw_m (i := 328) (by decide +kernel) (by decide +kernel)
set_option maxRecDepth 100000 in
theorem tw_329 : Cond.selects RX4 yX4_boilsIn yX4_boilsIn ∈ kg_U := tw_m (i := 329) (by decide +kernel) (by decide +kernel)
set_option maxRecDepth 100000 in
theorem tw_330 : Cond.code yX4_boilsIn cX4_boilsIn 5 (some .int) ∈ kg_U := tw_m (i := 330) (by decide +kernel) (by decide +kernel)
set_option maxRecDepth 100000 in
theorem tw_331 : Cond.methodLink RX4 163 yX3_heatUnder ∈ kg_U := tw_m (i := 331) (by decide +kernel) (by decide +kernel)
set_option maxRecDepth 100000 in
theorem tw_332 : Cond.methodLink RX4 166 yJ9_min_7cf53 ∈ kg_U := tw_m (i := 332) (by decide +kernel) (by decide +kernel)
set_option maxRecDepth 100000 in
theorem tw_333 : Cond.static yJ9_min_7cf53 ∈ kg_U := tw_m (i := 333) (by decide +kernel) (by decide +kernel)
set_option maxRecDepth 100000 in
theorem tw_334 : Cond.code yJ9_min_7cf53 cJ9_min_7cf53 2 (some .int) ∈ kg_U := tw_m (i := 334) (by decide +kernel) (by decide +kernel)
set_option maxRecDepth 100000 in
theorem tw_335 : Cond.methodLink RL 145 yX4_boilsInAgain ∈ kg_U := tw_m (i := 335) (by decide +kernel) (by decide +kernel)
set_option maxRecDepth 100000 in
theorem tw_336 : Cond.instanceMethod yX4_boilsInAgain ∈ kg_U := tw_m (i := 336) (by decide +kernel) (by decide +kernel)
set_option maxRecDepth 100000 in
theorem tw_337 : Cond.selects RX4 yX4_boilsInAgain yX4_boilsInAgain ∈ kg_U := tw_m (i := 337) (by decide +kernel) (by decide +kernel)
set_option maxRecDepth 100000 in
theorem tw_338 : Cond.code yX4_boilsInAgain cX4_boilsInAgain 4 (some .int) ∈ kg_U := tw_m (i := 338) (by decide +kernel) (by decide +kernel)
set_option maxRecDepth 100000 in
theorem tw_339 : Cond.methodLink RL 148 yX4_dryIn ∈ kg_U := tw_m (i := 339) (by decide +kernel) (by decide +kernel)
set_option maxRecDepth 100000 in
theorem tw_340 : Cond.instanceMethod yX4_dryIn ∈ kg_U := tw_m (i := 340) (by decide +kernel) (by decide +kernel)
set_option maxRecDepth 100000 in
theorem tw_341 : Cond.selects RX4 yX4_dryIn yX4_dryIn ∈ kg_U := tw_m (i := 341) (by decide +kernel) (by decide +kernel)
set_option maxRecDepth 100000 in
theorem tw_342 : Cond.code yX4_dryIn cX4_dryIn 3 (some .int) ∈ kg_U := tw_m (i := 342) (by decide +kernel) (by decide +kernel)
set_option maxRecDepth 100000 in
theorem tw_343 : Cond.methodLink RX4 171 yX4_boilsIn ∈ kg_U := tw_m (i := 343) (by decide +kernel) (by decide +kernel)
set_option maxRecDepth 100000 in
theorem tw_344 : Cond.methodLink RX4 174 yJ9_max_7cf53 ∈ kg_U := tw_m (i := 344) (by decide +kernel) (by decide +kernel)
set_option maxRecDepth 100000 in
theorem tw_345 : Cond.static yJ9_max_7cf53 ∈ kg_U := tw_m (i := 345) (by decide +kernel) (by decide +kernel)
set_option maxRecDepth 100000 in
theorem tw_346 : Cond.code yJ9_max_7cf53 cJ9_max_7cf53 2 (some .int) ∈ kg_U := tw_m (i := 346) (by decide +kernel) (by decide +kernel)
set_option maxRecDepth 100000 in
theorem tw_347 : Cond.methodLink RL 176 yX4_bestPitch ∈ kg_U := tw_m (i := 347) (by decide +kernel) (by decide +kernel)
set_option maxRecDepth 100000 in
theorem tw_348 : Cond.instanceMethod yX4_bestPitch ∈ kg_U := tw_m (i := 348) (by decide +kernel) (by decide +kernel)
set_option maxRecDepth 100000 in
theorem tw_349 : Cond.selects RX4 yX4_bestPitch yX4_bestPitch ∈ kg_U := tw_m (i := 349) (by decide +kernel) (by decide +kernel)
set_option maxRecDepth 100000 in
theorem tw_350 : Cond.code yX4_bestPitch cX4_bestPitch 6 (some .int) ∈ kg_U := tw_m (i := 350) (by decide +kernel) (by decide +kernel)
set_option maxRecDepth 100000 in
theorem tw_351 : Cond.methodLink RX4 177 yX4_fitOf ∈ kg_U := tw_m (i := 351) (by decide +kernel) (by decide +kernel)
set_option maxRecDepth 100000 in
theorem tw_352 : Cond.static yX4_fitOf ∈ kg_U := tw_m (i := 352) (by decide +kernel) (by decide +kernel)
set_option maxRecDepth 100000 in
theorem tw_353 : Cond.code yX4_fitOf cX4_fitOf 4 (some .int) ∈ kg_U := tw_m (i := 353) (by decide +kernel) (by decide +kernel)
set_option maxRecDepth 100000 in
theorem tw_354 : Cond.methodLink RL 161 yX4_memberOf ∈ kg_U := tw_m (i := 354) (by decide +kernel) (by decide +kernel)
set_option maxRecDepth 100000 in
theorem tw_355 : Cond.instanceMethod yX4_memberOf ∈ kg_U := tw_m (i := 355) (by decide +kernel) (by decide +kernel)
set_option maxRecDepth 100000 in
theorem tw_356 : Cond.selects RX4 yX4_memberOf yX4_memberOf ∈ kg_U := tw_m (i := 356) (by decide +kernel) (by decide +kernel)
set_option maxRecDepth 100000 in
theorem tw_357 : Cond.code yX4_memberOf cX4_memberOf 3 (some .int) ∈ kg_U := tw_m (i := 357) (by decide +kernel) (by decide +kernel)
set_option maxRecDepth 100000 in
theorem tw_358 : Cond.methodLink RX4 180 yX4_isMember ∈ kg_U := tw_m (i := 358) (by decide +kernel) (by decide +kernel)
set_option maxRecDepth 100000 in
theorem tw_359 : Cond.static yX4_isMember ∈ kg_U := tw_m (i := 359) (by decide +kernel) (by decide +kernel)
set_option maxRecDepth 100000 in
theorem tw_360 : Cond.code yX4_isMember cX4_isMember 1 (some .boolean) ∈ kg_U := tw_m (i := 360) (by decide +kernel) (by decide +kernel)
set_option maxRecDepth 100000 in
theorem tw_361 : Cond.methodLink RX4 186 yX3_countPitchesOf ∈ kg_U := tw_m (i := 361) (by decide +kernel) (by decide +kernel)
set_option maxRecDepth 100000 in
theorem tw_362 : Cond.instanceMethod yX3_countPitchesOf ∈ kg_U := tw_m (i := 362) (by decide +kernel) (by decide +kernel)
set_option maxRecDepth 100000 in
theorem tw_363 : Cond.selects RX3 yX3_countPitchesOf yX3_countPitchesOf ∈ kg_U := tw_m (i := 363) (by decide +kernel) (by decide +kernel)
set_option maxRecDepth 100000 in
theorem tw_364 : Cond.code yX3_countPitchesOf cX3_countPitchesOf 4 (some .int) ∈ kg_U := tw_m (i := 364) (by decide +kernel) (by decide +kernel)
set_option maxRecDepth 100000 in
theorem tw_365 : Cond.methodLink RX4 189 yX3_countKettlesOf ∈ kg_U := tw_m (i := 365) (by decide +kernel) (by decide +kernel)
set_option maxRecDepth 100000 in
theorem tw_366 : Cond.instanceMethod yX3_countKettlesOf ∈ kg_U := tw_m (i := 366) (by decide +kernel) (by decide +kernel)
set_option maxRecDepth 100000 in
theorem tw_367 : Cond.selects RX3 yX3_countKettlesOf yX3_countKettlesOf ∈ kg_U := tw_m (i := 367) (by decide +kernel) (by decide +kernel)
set_option maxRecDepth 100000 in
theorem tw_368 : Cond.code yX3_countKettlesOf cX3_countKettlesOf 4 (some .int) ∈ kg_U := tw_m (i := 368) (by decide +kernel) (by decide +kernel)
set_option maxRecDepth 100000 in
theorem tw_369 : Cond.methodLink RX4 192 yX3_countWhistlersOf ∈ kg_U := tw_m (i := 369) (by decide +kernel) (by decide +kernel)
set_option maxRecDepth 100000 in
theorem tw_370 : Cond.instanceMethod yX3_countWhistlersOf ∈ kg_U := tw_m (i := 370) (by decide +kernel) (by decide +kernel)
set_option maxRecDepth 100000 in
theorem tw_371 : Cond.selects RX3 yX3_countWhistlersOf yX3_countWhistlersOf ∈ kg_U := tw_m (i := 371) (by decide +kernel) (by decide +kernel)
set_option maxRecDepth 100000 in
theorem tw_372 : Cond.code yX3_countWhistlersOf cX3_countWhistlersOf 5 (some .int) ∈ kg_U := tw_m (i := 372) (by decide +kernel) (by decide +kernel)
set_option maxRecDepth 100000 in
theorem tw_373 : Cond.methodLink RL 182 yX4_ranked ∈ kg_U := tw_m (i := 373) (by decide +kernel) (by decide +kernel)
set_option maxRecDepth 100000 in
theorem tw_374 : Cond.instanceMethod yX4_ranked ∈ kg_U := tw_m (i := 374) (by decide +kernel) (by decide +kernel)
set_option maxRecDepth 100000 in
theorem tw_375 : Cond.selects RX4 yX4_ranked yX4_ranked ∈ kg_U := tw_m (i := 375) (by decide +kernel) (by decide +kernel)
set_option maxRecDepth 100000 in
theorem tw_376 : Cond.code yX4_ranked cX4_ranked 3 (some .int) ∈ kg_U := tw_m (i := 376) (by decide +kernel) (by decide +kernel)
set_option maxRecDepth 100000 in
theorem tw_377 : Cond.methodLink RX4 201 yX4_countAheadOfMember ∈ kg_U := tw_m (i := 377) (by decide +kernel) (by decide +kernel)
set_option maxRecDepth 100000 in
theorem tw_379 : Cond.instanceMethod yX4_countAheadOfMember ∈ kg_U := tw_m (i := 379) (by decide +kernel) (by decide +kernel)
set_option maxRecDepth 100000 in
theorem tw_380 : Cond.code yX4_countAheadOfMember cX4_countAheadOfMember 4 (some .int) ∈ kg_U := tw_m (i := 380) (by decide +kernel) (by decide +kernel)
set_option maxRecDepth 100000 in
theorem tw_381 : Cond.methodLink RX4 317 yX4_isMemberAhead ∈ kg_U := tw_m (i := 381) (by decide +kernel) (by decide +kernel)
set_option maxRecDepth 100000 in
theorem tw_383 : Cond.instanceMethod yX4_isMemberAhead ∈ kg_U := tw_m (i := 383) (by decide +kernel) (by decide +kernel)
set_option maxRecDepth 100000 in
theorem tw_384 : Cond.code yX4_isMemberAhead cX4_isMemberAhead 5 (some .boolean) ∈ kg_U := tw_m (i := 384) (by decide +kernel) (by decide +kernel)
set_option maxRecDepth 100000 in
theorem tw_385 : Cond.methodLink RX4 320 yJ6_compare_7cf53 ∈ kg_U := tw_m (i := 385) (by decide +kernel) (by decide +kernel)
set_option maxRecDepth 100000 in
theorem tw_386 : Cond.static yJ6_compare_7cf53 ∈ kg_U := tw_m (i := 386) (by decide +kernel) (by decide +kernel)
set_option maxRecDepth 100000 in
theorem tw_387 : Cond.code yJ6_compare_7cf53 cJ6_compare_7cf53 2 (some .int) ∈ kg_U := tw_m (i := 387) (by decide +kernel) (by decide +kernel)
set_option maxRecDepth 100000 in
theorem tw_388 : Cond.methodLink RL 185 yX4_hottest ∈ kg_U := tw_m (i := 388) (by decide +kernel) (by decide +kernel)
set_option maxRecDepth 100000 in
theorem tw_389 : Cond.instanceMethod yX4_hottest ∈ kg_U := tw_m (i := 389) (by decide +kernel) (by decide +kernel)
set_option maxRecDepth 100000 in
theorem tw_390 : Cond.selects RX4 yX4_hottest yX4_hottest ∈ kg_U := tw_m (i := 390) (by decide +kernel) (by decide +kernel)
set_option maxRecDepth 100000 in
theorem tw_391 : Cond.code yX4_hottest cX4_hottest 3 (some .int) ∈ kg_U := tw_m (i := 391) (by decide +kernel) (by decide +kernel)
set_option maxRecDepth 100000 in
theorem tw_392 : Cond.methodLink RX4 204 yX4_countAheadOfKettle ∈ kg_U := tw_m (i := 392) (by decide +kernel) (by decide +kernel)
set_option maxRecDepth 100000 in
theorem tw_394 : Cond.instanceMethod yX4_countAheadOfKettle ∈ kg_U := tw_m (i := 394) (by decide +kernel) (by decide +kernel)
set_option maxRecDepth 100000 in
theorem tw_395 : Cond.code yX4_countAheadOfKettle cX4_countAheadOfKettle 4 (some .int) ∈ kg_U := tw_m (i := 395) (by decide +kernel) (by decide +kernel)
set_option maxRecDepth 100000 in
theorem tw_396 : Cond.methodLink RX4 323 yX4_isKettleAhead ∈ kg_U := tw_m (i := 396) (by decide +kernel) (by decide +kernel)
set_option maxRecDepth 100000 in
theorem tw_398 : Cond.instanceMethod yX4_isKettleAhead ∈ kg_U := tw_m (i := 398) (by decide +kernel) (by decide +kernel)
set_option maxRecDepth 100000 in
theorem tw_399 : Cond.code yX4_isKettleAhead cX4_isKettleAhead 5 (some .boolean) ∈ kg_U := tw_m (i := 399) (by decide +kernel) (by decide +kernel)
set_option maxRecDepth 100000 in
theorem tw_400 : Cond.methodLink RL 97 yX4_tell ∈ kg_U := tw_m (i := 400) (by decide +kernel) (by decide +kernel)
set_option maxRecDepth 100000 in
theorem tw_401 : Cond.instanceMethod yX4_tell ∈ kg_U := tw_m (i := 401) (by decide +kernel) (by decide +kernel)
set_option maxRecDepth 100000 in
theorem tw_402 : Cond.selects RX4 yX4_tell yX4_tell ∈ kg_U := tw_m (i := 402) (by decide +kernel) (by decide +kernel)
set_option maxRecDepth 100000 in
theorem tw_403 : Cond.code yX4_tell cX4_tell 2 (some .int) ∈ kg_U := tw_m (i := 403) (by decide +kernel) (by decide +kernel)
set_option maxRecDepth 100000 in
theorem tw_404 : Cond.methodLink RX4 232 yJ4_setLength_d00df ∈ kg_U := tw_m (i := 404) (by decide +kernel) (by decide +kernel)
set_option maxRecDepth 100000 in
theorem tw_405 : Cond.instanceMethod yJ4_setLength_d00df ∈ kg_U := tw_m (i := 405) (by decide +kernel) (by decide +kernel)
set_option maxRecDepth 100000 in
theorem tw_406 : Cond.selects RJ4 yJ4_setLength_d00df yJ4_setLength_d00df ∈ kg_U := tw_m (i := 406) (by decide +kernel) (by decide +kernel)
set_option maxRecDepth 100000 in
theorem tw_407 : Cond.code yJ4_setLength_d00df cJ4_setLength_d00df 2 none ∈ kg_U := tw_m (i := 407) (by decide +kernel) (by decide +kernel)
set_option maxRecDepth 100000 in
theorem tw_408 : Cond.methodLink RJ4 333 yJ5_setLength_d00df ∈ kg_U := tw_m (i := 408) (by decide +kernel) (by decide +kernel)
set_option maxRecDepth 100000 in
theorem tw_409 : Cond.instanceMethod yJ5_setLength_d00df ∈ kg_U := tw_m (i := 409) (by decide +kernel) (by decide +kernel)
set_option maxRecDepth 100000 in
theorem tw_410 : Cond.code yJ5_setLength_d00df cJ5_setLength_d00df 2 none ∈ kg_U := tw_m (i := 410) (by decide +kernel) (by decide +kernel)
set_option maxRecDepth 100000 in
theorem tw_411 : Cond.methodLink RJ5 100 yJ5_ensureCapacityInternal_d00df ∈ kg_U := tw_m (i := 411) (by decide +kernel) (by decide +kernel)
set_option maxRecDepth 100000 in
theorem tw_413 : Cond.instanceMethod yJ5_ensureCapacityInternal_d00df ∈ kg_U := tw_m (i := 413) (by decide +kernel) (by decide +kernel)
set_option maxRecDepth 100000 in
theorem tw_414 : Cond.code yJ5_ensureCapacityInternal_d00df cJ5_ensureCapacityInternal_d00df 3 none ∈ kg_U := tw_m (i := 414) (by decide +kernel) (by decide +kernel)
set_option maxRecDepth 100000 in
theorem tw_415 : Cond.methodLink RJ5 104 yJ5_newCapacity_0f7a4 ∈ kg_U := tw_m (i := 415) (by decide +kernel) (by decide +kernel)
set_option maxRecDepth 100000 in
theorem tw_417 : Cond.instanceMethod yJ5_newCapacity_0f7a4 ∈ kg_U := tw_m (i := 417) (by decide +kernel) (by decide +kernel)
set_option maxRecDepth 100000 in
theorem tw_418 : Cond.code yJ5_newCapacity_0f7a4 cJ5_newCapacity_0f7a4 6 (some .int) ∈ kg_U := tw_m (i := 418) (by decide +kernel) (by decide +kernel)
set_option maxRecDepth 100000 in
theorem tw_419 : Cond.methodLink RJ5 114 yJ8_newLength_cabcc ∈ kg_U := tw_m (i := 419) (by decide +kernel) (by decide +kernel)
set_option maxRecDepth 100000 in
theorem tw_420 : Cond.static yJ8_newLength_cabcc ∈ kg_U := tw_m (i := 420) (by decide +kernel) (by decide +kernel)
set_option maxRecDepth 100000 in
theorem tw_421 : Cond.code yJ8_newLength_cabcc cJ8_newLength_cabcc 4 (some .int) ∈ kg_U := tw_m (i := 421) (by decide +kernel) (by decide +kernel)
set_option maxRecDepth 100000 in
theorem tw_422 : Cond.methodLink RJ8 194 yJ9_max_7cf53 ∈ kg_U := tw_m (i := 422) (by decide +kernel) (by decide +kernel)
set_option maxRecDepth 100000 in
theorem tw_423 : Cond.constant RJ8 200 (2147483639 : Int32) ∈ kg_U := tw_m (i := 423) (by decide +kernel) (by decide +kernel)
set_option maxRecDepth 100000 in
theorem tw_424 : Cond.methodLink RJ8 201 yJ8_hugeLength_7cf53 ∈ kg_U := tw_m (i := 424) (by decide +kernel) (by decide +kernel)
set_option maxRecDepth 100000 in
theorem tw_425 : Cond.static yJ8_hugeLength_7cf53 ∈ kg_U := tw_m (i := 425) (by decide +kernel) (by decide +kernel)
set_option maxRecDepth 100000 in
theorem tw_426 : Cond.code yJ8_hugeLength_7cf53 cJ8_hugeLength_7cf53 3 (some .int) ∈ kg_U := tw_m (i := 426) (by decide +kernel) (by decide +kernel)
set_option maxRecDepth 100000 in
theorem tw_427 : Cond.constant RJ5 39 (2147483647 : Int32) ∈ kg_U := tw_m (i := 427) (by decide +kernel) (by decide +kernel)
set_option maxRecDepth 100000 in
theorem tw_428 : Cond.methodLink RJ5 108 yJ7_copyOf_9075b ∈ kg_U := tw_m (i := 428) (by decide +kernel) (by decide +kernel)
set_option maxRecDepth 100000 in
theorem tw_429 : Cond.static yJ7_copyOf_9075b ∈ kg_U := tw_m (i := 429) (by decide +kernel) (by decide +kernel)
set_option maxRecDepth 100000 in
theorem tw_430 : Cond.code yJ7_copyOf_9075b cJ7_copyOf_9075b 3 (some (.array .byte)) ∈ kg_U := tw_m (i := 430) (by decide +kernel) (by decide +kernel)
set_option maxRecDepth 100000 in
theorem tw_431 : Cond.methodLink RJ7 310 (⟨"[B", "clone", "()Ljava/lang/Object;"⟩ : MethodName) ∈ kg_U := tw_m (i := 431) (by decide +kernel) (by decide +kernel)
set_option maxRecDepth 100000 in
theorem tw_432 : Cond.sameMethod "[B" "java/lang/Object" "clone" "()Ljava/lang/Object;" ∈ kg_U := tw_m (i := 432) (by decide +kernel) (by decide +kernel)
set_option maxRecDepth 100000 in
theorem tw_433 : Cond.native (⟨"java/lang/Object", "clone", "()Ljava/lang/Object;"⟩ : MethodName) ∈ kg_U := tw_m (i := 433) (by decide +kernel) (by decide +kernel)
set_option maxRecDepth 100000 in
theorem tw_434 : Cond.instanceMethod (⟨"java/lang/Object", "clone", "()Ljava/lang/Object;"⟩ : MethodName) ∈ kg_U := tw_m (i := 434) (by decide +kernel) (by decide +kernel)
set_option maxRecDepth 100000 in
theorem tw_435 : Cond.selects "[B" (⟨"[B", "clone", "()Ljava/lang/Object;"⟩ : MethodName) (⟨"java/lang/Object", "clone", "()Ljava/lang/Object;"⟩ : MethodName) ∈ kg_U := tw_m (i := 435) (by decide +kernel) (by decide +kernel)
set_option maxRecDepth 100000 in
theorem tw_437 : Cond.classLink RJ7 311 "[B" ∈ kg_U := tw_m (i := 437) (by decide +kernel) (by decide +kernel)
set_option maxRecDepth 100000 in
theorem tw_438 : Cond.methodLink RJ7 304 yJ9_min_7cf53 ∈ kg_U := tw_m (i := 438) (by decide +kernel) (by decide +kernel)
set_option maxRecDepth 100000 in
theorem tw_439 : Cond.methodLink RJ7 150 (⟨"java/lang/System", "arraycopy", "(Ljava/lang/Object;ILjava/lang/Object;II)V"⟩ : MethodName) ∈ kg_U := tw_m (i := 439) (by decide +kernel) (by decide +kernel)
set_option maxRecDepth 100000 in
theorem tw_440 : Cond.static (⟨"java/lang/System", "arraycopy", "(Ljava/lang/Object;ILjava/lang/Object;II)V"⟩ : MethodName) ∈ kg_U := tw_m (i := 440) (by decide +kernel) (by decide +kernel)
set_option maxRecDepth 100000 in
theorem tw_441 : Cond.native (⟨"java/lang/System", "arraycopy", "(Ljava/lang/Object;ILjava/lang/Object;II)V"⟩ : MethodName) ∈ kg_U := tw_m (i := 441) (by decide +kernel) (by decide +kernel)
set_option maxRecDepth 100000 in
theorem tw_442 : Cond.methodLink RJ5 83 yJ5_isLatin1_aae02 ∈ kg_U := tw_m (i := 442) (by decide +kernel) (by decide +kernel)
set_option maxRecDepth 100000 in
theorem tw_443 : Cond.instanceMethod yJ5_isLatin1_aae02 ∈ kg_U := tw_m (i := 443) (by decide +kernel) (by decide +kernel)
set_option maxRecDepth 100000 in
theorem tw_444 : Cond.sameMethod RJ5 RJ5 "isLatin1" "()Z" ∈ kg_U := tw_m (i := 444) (by decide +kernel) (by decide +kernel)
set_option maxRecDepth 100000 in
theorem tw_445 : Cond.selects RJ4 yJ5_isLatin1_aae02 yJ5_isLatin1_aae02 ∈ kg_U := tw_m (i := 445) (by decide +kernel) (by decide +kernel)
set_option maxRecDepth 100000 in
theorem tw_446 : Cond.code yJ5_isLatin1_aae02 cJ5_isLatin1_aae02 1 (some .boolean) ∈ kg_U := tw_m (i := 446) (by decide +kernel) (by decide +kernel)
set_option maxRecDepth 100000 in
theorem tw_447 : Cond.methodLink RJ5 133 yJ1_fillNull_b72d1 ∈ kg_U := tw_m (i := 447) (by decide +kernel) (by decide +kernel)
set_option maxRecDepth 100000 in
theorem tw_448 : Cond.static yJ1_fillNull_b72d1 ∈ kg_U := tw_m (i := 448) (by decide +kernel) (by decide +kernel)
set_option maxRecDepth 100000 in
theorem tw_449 : Cond.code yJ1_fillNull_b72d1 cJ1_fillNull_b72d1 3 none ∈ kg_U := tw_m (i := 449) (by decide +kernel) (by decide +kernel)
set_option maxRecDepth 100000 in
theorem tw_450 : Cond.methodLink RJ1 236 yJ7_fill_eb02e ∈ kg_U := tw_m (i := 450) (by decide +kernel) (by decide +kernel)
set_option maxRecDepth 100000 in
theorem tw_451 : Cond.static yJ7_fill_eb02e ∈ kg_U := tw_m (i := 451) (by decide +kernel) (by decide +kernel)
set_option maxRecDepth 100000 in
theorem tw_452 : Cond.code yJ7_fill_eb02e cJ7_fill_eb02e 5 none ∈ kg_U := tw_m (i := 452) (by decide +kernel) (by decide +kernel)
set_option maxRecDepth 100000 in
theorem tw_453 : Cond.methodLink RJ7 13 yJ7_rangeCheck_23922 ∈ kg_U := tw_m (i := 453) (by decide +kernel) (by decide +kernel)
set_option maxRecDepth 100000 in
theorem tw_454 : Cond.static yJ7_rangeCheck_23922 ∈ kg_U := tw_m (i := 454) (by decide +kernel) (by decide +kernel)
set_option maxRecDepth 100000 in
theorem tw_455 : Cond.code yJ7_rangeCheck_23922 cJ7_rangeCheck_23922 3 none ∈ kg_U := tw_m (i := 455) (by decide +kernel) (by decide +kernel)
set_option maxRecDepth 100000 in
theorem tw_456 : Cond.methodLink RJ5 137 yJ2_fillNull_b72d1 ∈ kg_U := tw_m (i := 456) (by decide +kernel) (by decide +kernel)
set_option maxRecDepth 100000 in
theorem tw_457 : Cond.static yJ2_fillNull_b72d1 ∈ kg_U := tw_m (i := 457) (by decide +kernel) (by decide +kernel)
set_option maxRecDepth 100000 in
theorem tw_458 : Cond.code yJ2_fillNull_b72d1 cJ2_fillNull_b72d1 3 none ∈ kg_U := tw_m (i := 458) (by decide +kernel) (by decide +kernel)
set_option maxRecDepth 100000 in
theorem tw_459 : Cond.methodLink RJ2 380 yJ7_fill_eb02e ∈ kg_U := tw_m (i := 459) (by decide +kernel) (by decide +kernel)
set_option maxRecDepth 100000 in
theorem tw_460 : Cond.methodLink RX4 236 yJ4_append_bf812 ∈ kg_U := tw_m (i := 460) (by decide +kernel) (by decide +kernel)
set_option maxRecDepth 100000 in
theorem tw_461 : Cond.instanceMethod yJ4_append_bf812 ∈ kg_U := tw_m (i := 461) (by decide +kernel) (by decide +kernel)
set_option maxRecDepth 100000 in
theorem tw_462 : Cond.selects RJ4 yJ4_append_bf812 yJ4_append_bf812 ∈ kg_U := tw_m (i := 462) (by decide +kernel) (by decide +kernel)
set_option maxRecDepth 100000 in
theorem tw_463 : Cond.code yJ4_append_bf812 cJ4_append_bf812 2 (some (.object "java/lang/StringBuilder")) ∈ kg_U := tw_m (i := 463) (by decide +kernel) (by decide +kernel)
set_option maxRecDepth 100000 in
theorem tw_464 : Cond.methodLink RJ4 53 yJ5_append_c97b9 ∈ kg_U := tw_m (i := 464) (by decide +kernel) (by decide +kernel)
set_option maxRecDepth 100000 in
theorem tw_465 : Cond.instanceMethod yJ5_append_c97b9 ∈ kg_U := tw_m (i := 465) (by decide +kernel) (by decide +kernel)
set_option maxRecDepth 100000 in
theorem tw_466 : Cond.code yJ5_append_c97b9 cJ5_append_c97b9 4 (some (.object "java/lang/AbstractStringBuilder")) ∈ kg_U := tw_m (i := 466) (by decide +kernel) (by decide +kernel)
set_option maxRecDepth 100000 in
theorem tw_467 : Cond.methodLink RJ5 245 yJ6_stringSize_0f7a4 ∈ kg_U := tw_m (i := 467) (by decide +kernel) (by decide +kernel)
set_option maxRecDepth 100000 in
theorem tw_468 : Cond.static yJ6_stringSize_0f7a4 ∈ kg_U := tw_m (i := 468) (by decide +kernel) (by decide +kernel)
set_option maxRecDepth 100000 in
theorem tw_469 : Cond.code yJ6_stringSize_0f7a4 cJ6_stringSize_0f7a4 4 (some .int) ∈ kg_U := tw_m (i := 469) (by decide +kernel) (by decide +kernel)
set_option maxRecDepth 100000 in
theorem tw_470 : Cond.methodLink RJ5 248 yJ6_getChars_ba4f3 ∈ kg_U := tw_m (i := 470) (by decide +kernel) (by decide +kernel)
set_option maxRecDepth 100000 in
theorem tw_471 : Cond.static yJ6_getChars_ba4f3 ∈ kg_U := tw_m (i := 471) (by decide +kernel) (by decide +kernel)
set_option maxRecDepth 100000 in
theorem tw_472 : Cond.code yJ6_getChars_ba4f3 cJ6_getChars_ba4f3 7 (some .int) ∈ kg_U := tw_m (i := 472) (by decide +kernel) (by decide +kernel)
set_option maxRecDepth 100000 in
theorem tw_473 : Cond.fieldLink RJ6 83 "java/lang/Integer" "DigitOnes" "[B" ∈ kg_U := tw_m (i := 473) (by decide +kernel) (by decide +kernel)
set_option maxRecDepth 100000 in
theorem tw_475 : Cond.fieldLink RJ6 87 "java/lang/Integer" "DigitTens" "[B" ∈ kg_U := tw_m (i := 475) (by decide +kernel) (by decide +kernel)
set_option maxRecDepth 100000 in
theorem tw_477 : Cond.methodLink RJ5 251 yJ2_getChars_46870 ∈ kg_U := tw_m (i := 477) (by decide +kernel) (by decide +kernel)
set_option maxRecDepth 100000 in
theorem tw_478 : Cond.static yJ2_getChars_46870 ∈ kg_U := tw_m (i := 478) (by decide +kernel) (by decide +kernel)
set_option maxRecDepth 100000 in
theorem tw_479 : Cond.code yJ2_getChars_46870 cJ2_getChars_46870 5 (some .int) ∈ kg_U := tw_m (i := 479) (by decide +kernel) (by decide +kernel)
set_option maxRecDepth 100000 in
theorem tw_480 : Cond.methodLink RJ2 96 yJ2_checkBoundsBeginEnd_d044e ∈ kg_U := tw_m (i := 480) (by decide +kernel) (by decide +kernel)
set_option maxRecDepth 100000 in
theorem tw_481 : Cond.static yJ2_checkBoundsBeginEnd_d044e ∈ kg_U := tw_m (i := 481) (by decide +kernel) (by decide +kernel)
set_option maxRecDepth 100000 in
theorem tw_482 : Cond.code yJ2_checkBoundsBeginEnd_d044e cJ2_checkBoundsBeginEnd_d044e 3 none ∈ kg_U := tw_m (i := 482) (by decide +kernel) (by decide +kernel)
set_option maxRecDepth 100000 in
theorem tw_483 : Cond.methodLink RJ2 48 yJ2_length_9d52b ∈ kg_U := tw_m (i := 483) (by decide +kernel) (by decide +kernel)
set_option maxRecDepth 100000 in
theorem tw_484 : Cond.static yJ2_length_9d52b ∈ kg_U := tw_m (i := 484) (by decide +kernel) (by decide +kernel)
set_option maxRecDepth 100000 in
theorem tw_485 : Cond.code yJ2_length_9d52b cJ2_length_9d52b 1 (some .int) ∈ kg_U := tw_m (i := 485) (by decide +kernel) (by decide +kernel)
set_option maxRecDepth 100000 in
theorem tw_486 : Cond.methodLink RJ2 241 yJ0_checkBoundsBeginEnd_23922 ∈ kg_U := tw_m (i := 486) (by decide +kernel) (by decide +kernel)
set_option maxRecDepth 100000 in
theorem tw_487 : Cond.static yJ0_checkBoundsBeginEnd_23922 ∈ kg_U := tw_m (i := 487) (by decide +kernel) (by decide +kernel)
set_option maxRecDepth 100000 in
theorem tw_488 : Cond.code yJ0_checkBoundsBeginEnd_23922 cJ0_checkBoundsBeginEnd_23922 3 none ∈ kg_U := tw_m (i := 488) (by decide +kernel) (by decide +kernel)
set_option maxRecDepth 100000 in
theorem tw_489 : Cond.fieldLink RJ0 1053 "jdk/internal/util/Preconditions" "SIOOBE_FORMATTER" "Ljava/util/function/BiFunction;" ∈ kg_U := tw_m (i := 489) (by decide +kernel) (by decide +kernel)
set_option maxRecDepth 100000 in
theorem tw_491 : Cond.methodLink RJ0 1062 yJ3_checkFromToIndex_8c36e ∈ kg_U := tw_m (i := 491) (by decide +kernel) (by decide +kernel)
set_option maxRecDepth 100000 in
theorem tw_492 : Cond.static yJ3_checkFromToIndex_8c36e ∈ kg_U := tw_m (i := 492) (by decide +kernel) (by decide +kernel)
set_option maxRecDepth 100000 in
theorem tw_493 : Cond.code yJ3_checkFromToIndex_8c36e cJ3_checkFromToIndex_8c36e 4 (some .int) ∈ kg_U := tw_m (i := 493) (by decide +kernel) (by decide +kernel)
set_option maxRecDepth 100000 in
theorem tw_494 : Cond.methodLink RJ2 393 yJ2_getChars_ba4f3 ∈ kg_U := tw_m (i := 494) (by decide +kernel) (by decide +kernel)
set_option maxRecDepth 100000 in
theorem tw_495 : Cond.static yJ2_getChars_ba4f3 ∈ kg_U := tw_m (i := 495) (by decide +kernel) (by decide +kernel)
set_option maxRecDepth 100000 in
theorem tw_496 : Cond.code yJ2_getChars_ba4f3 cJ2_getChars_ba4f3 7 (some .int) ∈ kg_U := tw_m (i := 496) (by decide +kernel) (by decide +kernel)
set_option maxRecDepth 100000 in
theorem tw_497 : Cond.fieldLink RJ2 403 "java/lang/Integer" "DigitOnes" "[B" ∈ kg_U := tw_m (i := 497) (by decide +kernel) (by decide +kernel)
set_option maxRecDepth 100000 in
theorem tw_498 : Cond.methodLink RJ2 111 yJ2_putChar_b72d1 ∈ kg_U := tw_m (i := 498) (by decide +kernel) (by decide +kernel)
set_option maxRecDepth 100000 in
theorem tw_499 : Cond.static yJ2_putChar_b72d1 ∈ kg_U := tw_m (i := 499) (by decide +kernel) (by decide +kernel)
set_option maxRecDepth 100000 in
theorem tw_500 : Cond.code yJ2_putChar_b72d1 cJ2_putChar_b72d1 3 none ∈ kg_U := tw_m (i := 500) (by decide +kernel) (by decide +kernel)
set_option maxRecDepth 100000 in
theorem tw_501 : Cond.fieldLink RJ2 44 "java/lang/StringUTF16" "$assertionsDisabled" "Z" ∈ kg_U := tw_m (i := 501) (by decide +kernel) (by decide +kernel)
set_option maxRecDepth 100000 in
theorem tw_503 : Cond.fieldLink RJ2 59 "java/lang/StringUTF16" "HI_BYTE_SHIFT" "I" ∈ kg_U := tw_m (i := 503) (by decide +kernel) (by decide +kernel)
set_option maxRecDepth 100000 in
theorem tw_505 : Cond.fieldLink RJ2 63 "java/lang/StringUTF16" "LO_BYTE_SHIFT" "I" ∈ kg_U := tw_m (i := 505) (by decide +kernel) (by decide +kernel)
set_option maxRecDepth 100000 in
theorem tw_507 : Cond.fieldLink RJ2 407 "java/lang/Integer" "DigitTens" "[B" ∈ kg_U := tw_m (i := 507) (by decide +kernel) (by decide +kernel)
set_option maxRecDepth 100000 in
theorem tw_508 : Cond.methodLink RX4 240 yJ4_append_cf468 ∈ kg_U := tw_m (i := 508) (by decide +kernel) (by decide +kernel)
set_option maxRecDepth 100000 in
theorem tw_509 : Cond.instanceMethod yJ4_append_cf468 ∈ kg_U := tw_m (i := 509) (by decide +kernel) (by decide +kernel)
set_option maxRecDepth 100000 in
theorem tw_510 : Cond.selects RJ4 yJ4_append_cf468 yJ4_append_cf468 ∈ kg_U := tw_m (i := 510) (by decide +kernel) (by decide +kernel)
set_option maxRecDepth 100000 in
theorem tw_511 : Cond.code yJ4_append_cf468 cJ4_append_cf468 2 (some (.object "java/lang/StringBuilder")) ∈ kg_U := tw_m (i := 511) (by decide +kernel) (by decide +kernel)
set_option maxRecDepth 100000 in
theorem tw_512 : Cond.methodLink RJ4 50 yJ5_append_3fe6f ∈ kg_U := tw_m (i := 512) (by decide +kernel) (by decide +kernel)
set_option maxRecDepth 100000 in
theorem tw_513 : Cond.instanceMethod yJ5_append_3fe6f ∈ kg_U := tw_m (i := 513) (by decide +kernel) (by decide +kernel)
set_option maxRecDepth 100000 in
theorem tw_514 : Cond.code yJ5_append_3fe6f cJ5_append_3fe6f 2 (some (.object "java/lang/AbstractStringBuilder")) ∈ kg_U := tw_m (i := 514) (by decide +kernel) (by decide +kernel)
set_option maxRecDepth 100000 in
theorem tw_515 : Cond.methodLink RJ5 191 yJ1_canEncode_fc78d ∈ kg_U := tw_m (i := 515) (by decide +kernel) (by decide +kernel)
set_option maxRecDepth 100000 in
theorem tw_516 : Cond.static yJ1_canEncode_fc78d ∈ kg_U := tw_m (i := 516) (by decide +kernel) (by decide +kernel)
set_option maxRecDepth 100000 in
theorem tw_517 : Cond.code yJ1_canEncode_fc78d cJ1_canEncode_fc78d 1 (some .boolean) ∈ kg_U := tw_m (i := 517) (by decide +kernel) (by decide +kernel)
set_option maxRecDepth 100000 in
theorem tw_518 : Cond.methodLink RJ5 195 yJ5_inflate_da8c8 ∈ kg_U := tw_m (i := 518) (by decide +kernel) (by decide +kernel)
set_option maxRecDepth 100000 in
theorem tw_520 : Cond.instanceMethod yJ5_inflate_da8c8 ∈ kg_U := tw_m (i := 520) (by decide +kernel) (by decide +kernel)
set_option maxRecDepth 100000 in
theorem tw_521 : Cond.code yJ5_inflate_da8c8 cJ5_inflate_da8c8 2 none ∈ kg_U := tw_m (i := 521) (by decide +kernel) (by decide +kernel)
set_option maxRecDepth 100000 in
theorem tw_522 : Cond.methodLink RJ5 125 yJ1_inflate_0e8fd ∈ kg_U := tw_m (i := 522) (by decide +kernel) (by decide +kernel)
set_option maxRecDepth 100000 in
theorem tw_523 : Cond.static yJ1_inflate_0e8fd ∈ kg_U := tw_m (i := 523) (by decide +kernel) (by decide +kernel)
set_option maxRecDepth 100000 in
theorem tw_524 : Cond.code yJ1_inflate_0e8fd cJ1_inflate_0e8fd 5 none ∈ kg_U := tw_m (i := 524) (by decide +kernel) (by decide +kernel)
set_option maxRecDepth 100000 in
theorem tw_525 : Cond.methodLink RJ1 240 yJ2_inflate_0e8fd ∈ kg_U := tw_m (i := 525) (by decide +kernel) (by decide +kernel)
set_option maxRecDepth 100000 in
theorem tw_526 : Cond.static yJ2_inflate_0e8fd ∈ kg_U := tw_m (i := 526) (by decide +kernel) (by decide +kernel)
set_option maxRecDepth 100000 in
theorem tw_527 : Cond.code yJ2_inflate_0e8fd cJ2_inflate_0e8fd 6 none ∈ kg_U := tw_m (i := 527) (by decide +kernel) (by decide +kernel)
set_option maxRecDepth 100000 in
theorem tw_528 : Cond.methodLink RJ2 173 yJ2_checkBoundsOffCount_d044e ∈ kg_U := tw_m (i := 528) (by decide +kernel) (by decide +kernel)
set_option maxRecDepth 100000 in
theorem tw_529 : Cond.static yJ2_checkBoundsOffCount_d044e ∈ kg_U := tw_m (i := 529) (by decide +kernel) (by decide +kernel)
set_option maxRecDepth 100000 in
theorem tw_530 : Cond.code yJ2_checkBoundsOffCount_d044e cJ2_checkBoundsOffCount_d044e 3 none ∈ kg_U := tw_m (i := 530) (by decide +kernel) (by decide +kernel)
set_option maxRecDepth 100000 in
theorem tw_531 : Cond.methodLink RJ2 419 yJ0_checkBoundsOffCount_cabcc ∈ kg_U := tw_m (i := 531) (by decide +kernel) (by decide +kernel)
set_option maxRecDepth 100000 in
theorem tw_532 : Cond.static yJ0_checkBoundsOffCount_cabcc ∈ kg_U := tw_m (i := 532) (by decide +kernel) (by decide +kernel)
set_option maxRecDepth 100000 in
theorem tw_533 : Cond.code yJ0_checkBoundsOffCount_cabcc cJ0_checkBoundsOffCount_cabcc 3 (some .int) ∈ kg_U := tw_m (i := 533) (by decide +kernel) (by decide +kernel)
set_option maxRecDepth 100000 in
theorem tw_534 : Cond.methodLink RJ0 1065 yJ3_checkFromIndexSize_8c36e ∈ kg_U := tw_m (i := 534) (by decide +kernel) (by decide +kernel)
set_option maxRecDepth 100000 in
theorem tw_535 : Cond.static yJ3_checkFromIndexSize_8c36e ∈ kg_U := tw_m (i := 535) (by decide +kernel) (by decide +kernel)
set_option maxRecDepth 100000 in
theorem tw_536 : Cond.code yJ3_checkFromIndexSize_8c36e cJ3_checkFromIndexSize_8c36e 4 (some .int) ∈ kg_U := tw_m (i := 536) (by decide +kernel) (by decide +kernel)
set_option maxRecDepth 100000 in
theorem tw_537 : Cond.methodLink RJ5 197 yJ2_putCharSB_b72d1 ∈ kg_U := tw_m (i := 537) (by decide +kernel) (by decide +kernel)
set_option maxRecDepth 100000 in
theorem tw_538 : Cond.static yJ2_putCharSB_b72d1 ∈ kg_U := tw_m (i := 538) (by decide +kernel) (by decide +kernel)
set_option maxRecDepth 100000 in
theorem tw_539 : Cond.code yJ2_putCharSB_b72d1 cJ2_putCharSB_b72d1 3 none ∈ kg_U := tw_m (i := 539) (by decide +kernel) (by decide +kernel)
set_option maxRecDepth 100000 in
theorem tw_540 : Cond.methodLink RJ2 67 yJ2_checkIndex_2214a ∈ kg_U := tw_m (i := 540) (by decide +kernel) (by decide +kernel)
set_option maxRecDepth 100000 in
theorem tw_541 : Cond.static yJ2_checkIndex_2214a ∈ kg_U := tw_m (i := 541) (by decide +kernel) (by decide +kernel)
set_option maxRecDepth 100000 in
theorem tw_542 : Cond.code yJ2_checkIndex_2214a cJ2_checkIndex_2214a 2 none ∈ kg_U := tw_m (i := 542) (by decide +kernel) (by decide +kernel)
set_option maxRecDepth 100000 in
theorem tw_543 : Cond.methodLink RJ2 414 yJ0_checkIndex_df160 ∈ kg_U := tw_m (i := 543) (by decide +kernel) (by decide +kernel)
set_option maxRecDepth 100000 in
theorem tw_544 : Cond.static yJ0_checkIndex_df160 ∈ kg_U := tw_m (i := 544) (by decide +kernel) (by decide +kernel)
set_option maxRecDepth 100000 in
theorem tw_545 : Cond.code yJ0_checkIndex_df160 cJ0_checkIndex_df160 2 none ∈ kg_U := tw_m (i := 545) (by decide +kernel) (by decide +kernel)
set_option maxRecDepth 100000 in
theorem tw_546 : Cond.methodLink RJ0 1059 yJ3_checkIndex_8e157 ∈ kg_U := tw_m (i := 546) (by decide +kernel) (by decide +kernel)
set_option maxRecDepth 100000 in
theorem tw_547 : Cond.static yJ3_checkIndex_8e157 ∈ kg_U := tw_m (i := 547) (by decide +kernel) (by decide +kernel)
set_option maxRecDepth 100000 in
theorem tw_548 : Cond.code yJ3_checkIndex_8e157 cJ3_checkIndex_8e157 3 (some .int) ∈ kg_U := tw_m (i := 548) (by decide +kernel) (by decide +kernel)
set_option maxRecDepth 100000 in
theorem tw_549 : Cond.methodLink RX4 243 yX4_tellSigns ∈ kg_U := tw_m (i := 549) (by decide +kernel) (by decide +kernel)
set_option maxRecDepth 100000 in
theorem tw_551 : Cond.instanceMethod yX4_tellSigns ∈ kg_U := tw_m (i := 551) (by decide +kernel) (by decide +kernel)
set_option maxRecDepth 100000 in
theorem tw_552 : Cond.code yX4_tellSigns cX4_tellSigns 2 none ∈ kg_U := tw_m (i := 552) (by decide +kernel) (by decide +kernel)
set_option maxRecDepth 100000 in
theorem tw_553 : Cond.methodLink RX4 246 yJ4_length_8abf5 ∈ kg_U := tw_m (i := 553) (by decide +kernel) (by decide +kernel)
set_option maxRecDepth 100000 in
theorem tw_554 : Cond.instanceMethod yJ4_length_8abf5 ∈ kg_U := tw_m (i := 554) (by decide +kernel) (by decide +kernel)
set_option maxRecDepth 100000 in
theorem tw_555 : Cond.selects RJ4 yJ4_length_8abf5 yJ4_length_8abf5 ∈ kg_U := tw_m (i := 555) (by decide +kernel) (by decide +kernel)
set_option maxRecDepth 100000 in
theorem tw_556 : Cond.code yJ4_length_8abf5 cJ4_length_8abf5 1 (some .int) ∈ kg_U := tw_m (i := 556) (by decide +kernel) (by decide +kernel)
set_option maxRecDepth 100000 in
theorem tw_557 : Cond.methodLink RJ4 343 yJ5_length_8abf5 ∈ kg_U := tw_m (i := 557) (by decide +kernel) (by decide +kernel)
set_option maxRecDepth 100000 in
theorem tw_558 : Cond.instanceMethod yJ5_length_8abf5 ∈ kg_U := tw_m (i := 558) (by decide +kernel) (by decide +kernel)
set_option maxRecDepth 100000 in
theorem tw_559 : Cond.code yJ5_length_8abf5 cJ5_length_8abf5 1 (some .int) ∈ kg_U := tw_m (i := 559) (by decide +kernel) (by decide +kernel)
set_option maxRecDepth 100000 in
theorem tw_560 : Cond.methodLink RL 164 yX4_tellStoves ∈ kg_U := tw_m (i := 560) (by decide +kernel) (by decide +kernel)
set_option maxRecDepth 100000 in
theorem tw_561 : Cond.instanceMethod yX4_tellStoves ∈ kg_U := tw_m (i := 561) (by decide +kernel) (by decide +kernel)
set_option maxRecDepth 100000 in
theorem tw_562 : Cond.selects RX4 yX4_tellStoves yX4_tellStoves ∈ kg_U := tw_m (i := 562) (by decide +kernel) (by decide +kernel)
set_option maxRecDepth 100000 in
theorem tw_563 : Cond.code yX4_tellStoves cX4_tellStoves 3 (some .int) ∈ kg_U := tw_m (i := 563) (by decide +kernel) (by decide +kernel)
set_option maxRecDepth 100000 in
theorem tw_564 : Cond.methodLink RL 45 yX4_account ∈ kg_U := tw_m (i := 564) (by decide +kernel) (by decide +kernel)
set_option maxRecDepth 100000 in
theorem tw_565 : Cond.instanceMethod yX4_account ∈ kg_U := tw_m (i := 565) (by decide +kernel) (by decide +kernel)
set_option maxRecDepth 100000 in
theorem tw_566 : Cond.selects RX4 yX4_account yX4_account ∈ kg_U := tw_m (i := 566) (by decide +kernel) (by decide +kernel)
set_option maxRecDepth 100000 in
theorem tw_567 : Cond.code yX4_account cX4_account 2 (some .int) ∈ kg_U := tw_m (i := 567) (by decide +kernel) (by decide +kernel)
set_option maxRecDepth 100000 in
theorem tw_568 : Cond.methodLink RX4 259 yX3_countOnStoves ∈ kg_U := tw_m (i := 568) (by decide +kernel) (by decide +kernel)
set_option maxRecDepth 100000 in
theorem tw_569 : Cond.instanceMethod yX3_countOnStoves ∈ kg_U := tw_m (i := 569) (by decide +kernel) (by decide +kernel)
set_option maxRecDepth 100000 in
theorem tw_570 : Cond.selects RX3 yX3_countOnStoves yX3_countOnStoves ∈ kg_U := tw_m (i := 570) (by decide +kernel) (by decide +kernel)
set_option maxRecDepth 100000 in
theorem tw_571 : Cond.code yX3_countOnStoves cX3_countOnStoves 3 (some .int) ∈ kg_U := tw_m (i := 571) (by decide +kernel) (by decide +kernel)
set_option maxRecDepth 100000 in
theorem tw_572 : Cond.methodLink RX4 262 yX3_countBoiling ∈ kg_U := tw_m (i := 572) (by decide +kernel) (by decide +kernel)
set_option maxRecDepth 100000 in
theorem tw_573 : Cond.instanceMethod yX3_countBoiling ∈ kg_U := tw_m (i := 573) (by decide +kernel) (by decide +kernel)
set_option maxRecDepth 100000 in
theorem tw_574 : Cond.selects RX3 yX3_countBoiling yX3_countBoiling ∈ kg_U := tw_m (i := 574) (by decide +kernel) (by decide +kernel)
set_option maxRecDepth 100000 in
theorem tw_575 : Cond.code yX3_countBoiling cX3_countBoiling 3 (some .int) ∈ kg_U := tw_m (i := 575) (by decide +kernel) (by decide +kernel)
set_option maxRecDepth 100000 in
theorem tw_576 : Cond.methodLink RX4 265 yX3_countLidsOn ∈ kg_U := tw_m (i := 576) (by decide +kernel) (by decide +kernel)
set_option maxRecDepth 100000 in
theorem tw_577 : Cond.instanceMethod yX3_countLidsOn ∈ kg_U := tw_m (i := 577) (by decide +kernel) (by decide +kernel)
set_option maxRecDepth 100000 in
theorem tw_578 : Cond.selects RX3 yX3_countLidsOn yX3_countLidsOn ∈ kg_U := tw_m (i := 578) (by decide +kernel) (by decide +kernel)
set_option maxRecDepth 100000 in
theorem tw_579 : Cond.code yX3_countLidsOn cX3_countLidsOn 3 (some .int) ∈ kg_U := tw_m (i := 579) (by decide +kernel) (by decide +kernel)
set_option maxRecDepth 100000 in
theorem tw_580 : Cond.methodLink RX4 268 yX3_countLidsBarred ∈ kg_U := tw_m (i := 580) (by decide +kernel) (by decide +kernel)
set_option maxRecDepth 100000 in
theorem tw_581 : Cond.instanceMethod yX3_countLidsBarred ∈ kg_U := tw_m (i := 581) (by decide +kernel) (by decide +kernel)
set_option maxRecDepth 100000 in
theorem tw_582 : Cond.selects RX3 yX3_countLidsBarred yX3_countLidsBarred ∈ kg_U := tw_m (i := 582) (by decide +kernel) (by decide +kernel)
set_option maxRecDepth 100000 in
theorem tw_583 : Cond.code yX3_countLidsBarred cX3_countLidsBarred 3 (some .int) ∈ kg_U := tw_m (i := 583) (by decide +kernel) (by decide +kernel)
set_option maxRecDepth 100000 in
theorem tw_584 : Cond.methodLink RX4 274 yX3_sumWater ∈ kg_U := tw_m (i := 584) (by decide +kernel) (by decide +kernel)
set_option maxRecDepth 100000 in
theorem tw_585 : Cond.instanceMethod yX3_sumWater ∈ kg_U := tw_m (i := 585) (by decide +kernel) (by decide +kernel)
set_option maxRecDepth 100000 in
theorem tw_586 : Cond.selects RX3 yX3_sumWater yX3_sumWater ∈ kg_U := tw_m (i := 586) (by decide +kernel) (by decide +kernel)
set_option maxRecDepth 100000 in
theorem tw_587 : Cond.code yX3_sumWater cX3_sumWater 3 (some .int) ∈ kg_U := tw_m (i := 587) (by decide +kernel) (by decide +kernel)
set_option maxRecDepth 100000 in
theorem tw_588 : Cond.methodLink RX4 283 yX4_sumOf ∈ kg_U := tw_m (i := 588) (by decide +kernel) (by decide +kernel)
set_option maxRecDepth 100000 in
theorem tw_589 : Cond.static yX4_sumOf ∈ kg_U := tw_m (i := 589) (by decide +kernel) (by decide +kernel)
set_option maxRecDepth 100000 in
theorem tw_590 : Cond.code yX4_sumOf cX4_sumOf 6 (some .int) ∈ kg_U := tw_m (i := 590) (by decide +kernel) (by decide +kernel)
set_option maxRecDepth 100000 in
theorem tw_591 : Cond.methodLink RL 179 yX4_isBalanced ∈ kg_U := tw_m (i := 591) (by decide +kernel) (by decide +kernel)
set_option maxRecDepth 100000 in
theorem tw_592 : Cond.instanceMethod yX4_isBalanced ∈ kg_U := tw_m (i := 592) (by decide +kernel) (by decide +kernel)
set_option maxRecDepth 100000 in
theorem tw_593 : Cond.selects RX4 yX4_isBalanced yX4_isBalanced ∈ kg_U := tw_m (i := 593) (by decide +kernel) (by decide +kernel)
set_option maxRecDepth 100000 in
theorem tw_594 : Cond.code yX4_isBalanced cX4_isBalanced 3 (some .int) ∈ kg_U := tw_m (i := 594) (by decide +kernel) (by decide +kernel)
set_option maxRecDepth 100000 in
theorem tw_595 : Cond.methodLink RX4 288 yX4_harmony ∈ kg_U := tw_m (i := 595) (by decide +kernel) (by decide +kernel)
set_option maxRecDepth 100000 in
theorem tw_596 : Cond.methodLink RX4 291 yX4_harmonyAgain ∈ kg_U := tw_m (i := 596) (by decide +kernel) (by decide +kernel)
set_option maxRecDepth 100000 in
theorem tw_597 : Cond.methodLink RX4 294 yX4_isBoilingSame ∈ kg_U := tw_m (i := 597) (by decide +kernel) (by decide +kernel)
set_option maxRecDepth 100000 in
theorem tw_599 : Cond.instanceMethod yX4_isBoilingSame ∈ kg_U := tw_m (i := 599) (by decide +kernel) (by decide +kernel)
set_option maxRecDepth 100000 in
theorem tw_600 : Cond.code yX4_isBoilingSame cX4_isBoilingSame 2 (some .boolean) ∈ kg_U := tw_m (i := 600) (by decide +kernel) (by decide +kernel)
set_option maxRecDepth 100000 in
theorem tw_601 : Cond.methodLink RX4 314 yX4_boilsInAgain ∈ kg_U := tw_m (i := 601) (by decide +kernel) (by decide +kernel)
set_option maxRecDepth 100000 in
theorem tw_602 : Cond.methodLink RX4 298 yX3_hasPitchOnTwoStoves ∈ kg_U := tw_m (i := 602) (by decide +kernel) (by decide +kernel)
set_option maxRecDepth 100000 in
theorem tw_603 : Cond.instanceMethod yX3_hasPitchOnTwoStoves ∈ kg_U := tw_m (i := 603) (by decide +kernel) (by decide +kernel)
set_option maxRecDepth 100000 in
theorem tw_604 : Cond.selects RX3 yX3_hasPitchOnTwoStoves yX3_hasPitchOnTwoStoves ∈ kg_U := tw_m (i := 604) (by decide +kernel) (by decide +kernel)
set_option maxRecDepth 100000 in
theorem tw_605 : Cond.code yX3_hasPitchOnTwoStoves cX3_hasPitchOnTwoStoves 3 (some .boolean) ∈ kg_U := tw_m (i := 605) (by decide +kernel) (by decide +kernel)
set_option maxRecDepth 100000 in
theorem tw_606 : Cond.methodLink RL 188 yX4_meanWater ∈ kg_U := tw_m (i := 606) (by decide +kernel) (by decide +kernel)
set_option maxRecDepth 100000 in
theorem tw_607 : Cond.instanceMethod yX4_meanWater ∈ kg_U := tw_m (i := 607) (by decide +kernel) (by decide +kernel)
set_option maxRecDepth 100000 in
theorem tw_608 : Cond.selects RX4 yX4_meanWater yX4_meanWater ∈ kg_U := tw_m (i := 608) (by decide +kernel) (by decide +kernel)
set_option maxRecDepth 100000 in
theorem tw_609 : Cond.code yX4_meanWater cX4_meanWater 1 (some .double) ∈ kg_U := tw_m (i := 609) (by decide +kernel) (by decide +kernel)
set_option maxRecDepth 100000 in
theorem tw_610 : Cond.methodLink RL 192 yX4_whistleShare ∈ kg_U := tw_m (i := 610) (by decide +kernel) (by decide +kernel)
set_option maxRecDepth 100000 in
theorem tw_611 : Cond.instanceMethod yX4_whistleShare ∈ kg_U := tw_m (i := 611) (by decide +kernel) (by decide +kernel)
set_option maxRecDepth 100000 in
theorem tw_612 : Cond.selects RX4 yX4_whistleShare yX4_whistleShare ∈ kg_U := tw_m (i := 612) (by decide +kernel) (by decide +kernel)
set_option maxRecDepth 100000 in
theorem tw_613 : Cond.code yX4_whistleShare cX4_whistleShare 2 (some .float) ∈ kg_U := tw_m (i := 613) (by decide +kernel) (by decide +kernel)
set_option maxRecDepth 100000 in
theorem tw_614 : Cond.methodLink RL 89 yL_build ∈ kg_U := tw_m (i := 614) (by decide +kernel) (by decide +kernel)
set_option maxRecDepth 100000 in
theorem tw_615 : Cond.static yL_build ∈ kg_U := tw_m (i := 615) (by decide +kernel) (by decide +kernel)
set_option maxRecDepth 100000 in
theorem tw_616 : Cond.code yL_build cL_build 5 none ∈ kg_U := tw_m (i := 616) (by decide +kernel) (by decide +kernel)
set_option maxRecDepth 100000 in
theorem tw_617 : Cond.methodLink RL 13 yL_some ∈ kg_U := tw_m (i := 617) (by decide +kernel) (by decide +kernel)
set_option maxRecDepth 100000 in
theorem tw_618 : Cond.static yL_some ∈ kg_U := tw_m (i := 618) (by decide +kernel) (by decide +kernel)
set_option maxRecDepth 100000 in
theorem tw_619 : Cond.code yL_some cL_some 3 (some .int) ∈ kg_U := tw_m (i := 619) (by decide +kernel) (by decide +kernel)
set_option maxRecDepth 100000 in
theorem tw_620 : Cond.methodLink RL 7 yL_cell ∈ kg_U := tw_m (i := 620) (by decide +kernel) (by decide +kernel)
set_option maxRecDepth 100000 in
theorem tw_621 : Cond.static yL_cell ∈ kg_U := tw_m (i := 621) (by decide +kernel) (by decide +kernel)
set_option maxRecDepth 100000 in
theorem tw_622 : Cond.code yL_cell cL_cell 2 (some .int) ∈ kg_U := tw_m (i := 622) (by decide +kernel) (by decide +kernel)
set_option maxRecDepth 100000 in
theorem tw_623 : Cond.methodLink RL 17 yX4_own ∈ kg_U := tw_m (i := 623) (by decide +kernel) (by decide +kernel)
set_option maxRecDepth 100000 in
theorem tw_624 : Cond.instanceMethod yX4_own ∈ kg_U := tw_m (i := 624) (by decide +kernel) (by decide +kernel)
set_option maxRecDepth 100000 in
theorem tw_625 : Cond.selects RX4 yX4_own yX4_own ∈ kg_U := tw_m (i := 625) (by decide +kernel) (by decide +kernel)
set_option maxRecDepth 100000 in
theorem tw_626 : Cond.code yX4_own cX4_own 3 (some .int) ∈ kg_U := tw_m (i := 626) (by decide +kernel) (by decide +kernel)
set_option maxRecDepth 100000 in
theorem tw_627 : Cond.methodLink RX4 47 yX0_begin ∈ kg_U := tw_m (i := 627) (by decide +kernel) (by decide +kernel)
set_option maxRecDepth 100000 in
theorem tw_628 : Cond.instanceMethod yX0_begin ∈ kg_U := tw_m (i := 628) (by decide +kernel) (by decide +kernel)
set_option maxRecDepth 100000 in
theorem tw_629 : Cond.selects RX0 yX0_begin yX0_begin ∈ kg_U := tw_m (i := 629) (by decide +kernel) (by decide +kernel)
set_option maxRecDepth 100000 in
theorem tw_630 : Cond.code yX0_begin cX0_begin 2 none ∈ kg_U := tw_m (i := 630) (by decide +kernel) (by decide +kernel)
set_option maxRecDepth 100000 in
theorem tw_631 : Cond.methodLink RX0 22 yX3_copyFrom ∈ kg_U := tw_m (i := 631) (by decide +kernel) (by decide +kernel)
set_option maxRecDepth 100000 in
theorem tw_632 : Cond.instanceMethod yX3_copyFrom ∈ kg_U := tw_m (i := 632) (by decide +kernel) (by decide +kernel)
set_option maxRecDepth 100000 in
theorem tw_633 : Cond.selects RX3 yX3_copyFrom yX3_copyFrom ∈ kg_U := tw_m (i := 633) (by decide +kernel) (by decide +kernel)
set_option maxRecDepth 100000 in
theorem tw_634 : Cond.code yX3_copyFrom cX3_copyFrom 2 none ∈ kg_U := tw_m (i := 634) (by decide +kernel) (by decide +kernel)
set_option maxRecDepth 100000 in
theorem tw_635 : Cond.methodLink RX3 60 yX3_copyRow ∈ kg_U := tw_m (i := 635) (by decide +kernel) (by decide +kernel)
set_option maxRecDepth 100000 in
theorem tw_636 : Cond.static yX3_copyRow ∈ kg_U := tw_m (i := 636) (by decide +kernel) (by decide +kernel)
set_option maxRecDepth 100000 in
theorem tw_637 : Cond.code yX3_copyRow cX3_copyRow 2 none ∈ kg_U := tw_m (i := 637) (by decide +kernel) (by decide +kernel)
set_option maxRecDepth 100000 in
theorem tw_638 : Cond.methodLink RX3 77 yJ9_min_7cf53 ∈ kg_U := tw_m (i := 638) (by decide +kernel) (by decide +kernel)
set_option maxRecDepth 100000 in
theorem tw_639 : Cond.methodLink RX3 83 (⟨"java/lang/System", "arraycopy", "(Ljava/lang/Object;ILjava/lang/Object;II)V"⟩ : MethodName) ∈ kg_U := tw_m (i := 639) (by decide +kernel) (by decide +kernel)
set_option maxRecDepth 100000 in
theorem tw_640 : Cond.methodLink RX4 51 yX4_takePitch ∈ kg_U := tw_m (i := 640) (by decide +kernel) (by decide +kernel)
set_option maxRecDepth 100000 in
theorem tw_642 : Cond.instanceMethod yX4_takePitch ∈ kg_U := tw_m (i := 642) (by decide +kernel) (by decide +kernel)
set_option maxRecDepth 100000 in
theorem tw_643 : Cond.code yX4_takePitch cX4_takePitch 4 (some .int) ∈ kg_U := tw_m (i := 643) (by decide +kernel) (by decide +kernel)
set_option maxRecDepth 100000 in
theorem tw_644 : Cond.methodLink RX4 329 yX4_refuse ∈ kg_U := tw_m (i := 644) (by decide +kernel) (by decide +kernel)
set_option maxRecDepth 100000 in
theorem tw_646 : Cond.instanceMethod yX4_refuse ∈ kg_U := tw_m (i := 646) (by decide +kernel) (by decide +kernel)
set_option maxRecDepth 100000 in
theorem tw_647 : Cond.code yX4_refuse cX4_refuse 3 (some .int) ∈ kg_U := tw_m (i := 647) (by decide +kernel) (by decide +kernel)
set_option maxRecDepth 100000 in
theorem tw_648 : Cond.methodLink RX4 359 yX2_putAhead ∈ kg_U := tw_m (i := 648) (by decide +kernel) (by decide +kernel)
set_option maxRecDepth 100000 in
theorem tw_649 : Cond.instanceMethod yX2_putAhead ∈ kg_U := tw_m (i := 649) (by decide +kernel) (by decide +kernel)
set_option maxRecDepth 100000 in
theorem tw_650 : Cond.selects RX2 yX2_putAhead yX2_putAhead ∈ kg_U := tw_m (i := 650) (by decide +kernel) (by decide +kernel)
set_option maxRecDepth 100000 in
theorem tw_651 : Cond.code yX2_putAhead cX2_putAhead 4 none ∈ kg_U := tw_m (i := 651) (by decide +kernel) (by decide +kernel)
set_option maxRecDepth 100000 in
theorem tw_652 : Cond.methodLink RX2 22 yJ9_min_7cf53 ∈ kg_U := tw_m (i := 652) (by decide +kernel) (by decide +kernel)
set_option maxRecDepth 100000 in
theorem tw_653 : Cond.methodLink RX4 55 yX4_settle ∈ kg_U := tw_m (i := 653) (by decide +kernel) (by decide +kernel)
set_option maxRecDepth 100000 in
theorem tw_655 : Cond.instanceMethod yX4_settle ∈ kg_U := tw_m (i := 655) (by decide +kernel) (by decide +kernel)
set_option maxRecDepth 100000 in
theorem tw_656 : Cond.code yX4_settle cX4_settle 2 (some .int) ∈ kg_U := tw_m (i := 656) (by decide +kernel) (by decide +kernel)
set_option maxRecDepth 100000 in
theorem tw_657 : Cond.methodLink RX4 326 yX0_keepBegun ∈ kg_U := tw_m (i := 657) (by decide +kernel) (by decide +kernel)
set_option maxRecDepth 100000 in
theorem tw_658 : Cond.instanceMethod yX0_keepBegun ∈ kg_U := tw_m (i := 658) (by decide +kernel) (by decide +kernel)
set_option maxRecDepth 100000 in
theorem tw_659 : Cond.selects RX0 yX0_keepBegun yX0_keepBegun ∈ kg_U := tw_m (i := 659) (by decide +kernel) (by decide +kernel)
set_option maxRecDepth 100000 in
theorem tw_660 : Cond.code yX0_keepBegun cX0_keepBegun 1 none ∈ kg_U := tw_m (i := 660) (by decide +kernel) (by decide +kernel)
set_option maxRecDepth 100000 in
theorem tw_661 : Cond.methodLink RX0 29 yJ9_min_7cf53 ∈ kg_U := tw_m (i := 661) (by decide +kernel) (by decide +kernel)
set_option maxRecDepth 100000 in
theorem tw_662 : Cond.methodLink RL 23 yL_brings ∈ kg_U := tw_m (i := 662) (by decide +kernel) (by decide +kernel)
set_option maxRecDepth 100000 in
theorem tw_663 : Cond.static yL_brings ∈ kg_U := tw_m (i := 663) (by decide +kernel) (by decide +kernel)
set_option maxRecDepth 100000 in
theorem tw_664 : Cond.code yL_brings cL_brings 5 (some .int) ∈ kg_U := tw_m (i := 664) (by decide +kernel) (by decide +kernel)
set_option maxRecDepth 100000 in
theorem tw_665 : Cond.methodLink RL 41 yX4_kettle ∈ kg_U := tw_m (i := 665) (by decide +kernel) (by decide +kernel)
set_option maxRecDepth 100000 in
theorem tw_666 : Cond.instanceMethod yX4_kettle ∈ kg_U := tw_m (i := 666) (by decide +kernel) (by decide +kernel)
set_option maxRecDepth 100000 in
theorem tw_667 : Cond.selects RX4 yX4_kettle yX4_kettle ∈ kg_U := tw_m (i := 667) (by decide +kernel) (by decide +kernel)
set_option maxRecDepth 100000 in
theorem tw_668 : Cond.code yX4_kettle cX4_kettle 4 (some .int) ∈ kg_U := tw_m (i := 668) (by decide +kernel) (by decide +kernel)
set_option maxRecDepth 100000 in
theorem tw_669 : Cond.methodLink RX4 70 yX4_bringKettle ∈ kg_U := tw_m (i := 669) (by decide +kernel) (by decide +kernel)
set_option maxRecDepth 100000 in
theorem tw_671 : Cond.instanceMethod yX4_bringKettle ∈ kg_U := tw_m (i := 671) (by decide +kernel) (by decide +kernel)
set_option maxRecDepth 100000 in
theorem tw_672 : Cond.code yX4_bringKettle cX4_bringKettle 4 (some .int) ∈ kg_U := tw_m (i := 672) (by decide +kernel) (by decide +kernel)
set_option maxRecDepth 100000 in
theorem tw_673 : Cond.methodLink RX4 332 yX3_addKettle ∈ kg_U := tw_m (i := 673) (by decide +kernel) (by decide +kernel)
set_option maxRecDepth 100000 in
theorem tw_674 : Cond.instanceMethod yX3_addKettle ∈ kg_U := tw_m (i := 674) (by decide +kernel) (by decide +kernel)
set_option maxRecDepth 100000 in
theorem tw_675 : Cond.selects RX3 yX3_addKettle yX3_addKettle ∈ kg_U := tw_m (i := 675) (by decide +kernel) (by decide +kernel)
set_option maxRecDepth 100000 in
theorem tw_676 : Cond.code yX3_addKettle cX3_addKettle 5 (some .int) ∈ kg_U := tw_m (i := 676) (by decide +kernel) (by decide +kernel)
set_option maxRecDepth 100000 in
theorem tw_677 : Cond.methodLink RL 27 yX4_heat ∈ kg_U := tw_m (i := 677) (by decide +kernel) (by decide +kernel)
set_option maxRecDepth 100000 in
theorem tw_678 : Cond.instanceMethod yX4_heat ∈ kg_U := tw_m (i := 678) (by decide +kernel) (by decide +kernel)
set_option maxRecDepth 100000 in
theorem tw_679 : Cond.selects RX4 yX4_heat yX4_heat ∈ kg_U := tw_m (i := 679) (by decide +kernel) (by decide +kernel)
set_option maxRecDepth 100000 in
theorem tw_680 : Cond.code yX4_heat cX4_heat 3 (some .int) ∈ kg_U := tw_m (i := 680) (by decide +kernel) (by decide +kernel)
set_option maxRecDepth 100000 in
theorem tw_681 : Cond.methodLink RX4 121 yX4_turnStove ∈ kg_U := tw_m (i := 681) (by decide +kernel) (by decide +kernel)
set_option maxRecDepth 100000 in
theorem tw_683 : Cond.instanceMethod yX4_turnStove ∈ kg_U := tw_m (i := 683) (by decide +kernel) (by decide +kernel)
set_option maxRecDepth 100000 in
theorem tw_684 : Cond.code yX4_turnStove cX4_turnStove 4 (some .int) ∈ kg_U := tw_m (i := 684) (by decide +kernel) (by decide +kernel)
set_option maxRecDepth 100000 in
theorem tw_685 : Cond.methodLink RL 30 yX4_set ∈ kg_U := tw_m (i := 685) (by decide +kernel) (by decide +kernel)
set_option maxRecDepth 100000 in
theorem tw_686 : Cond.instanceMethod yX4_set ∈ kg_U := tw_m (i := 686) (by decide +kernel) (by decide +kernel)
set_option maxRecDepth 100000 in
theorem tw_687 : Cond.selects RX4 yX4_set yX4_set ∈ kg_U := tw_m (i := 687) (by decide +kernel) (by decide +kernel)
set_option maxRecDepth 100000 in
theorem tw_688 : Cond.code yX4_set cX4_set 3 (some .int) ∈ kg_U := tw_m (i := 688) (by decide +kernel) (by decide +kernel)
set_option maxRecDepth 100000 in
theorem tw_689 : Cond.methodLink RX4 115 yX4_putOnStove ∈ kg_U := tw_m (i := 689) (by decide +kernel) (by decide +kernel)
set_option maxRecDepth 100000 in
theorem tw_691 : Cond.instanceMethod yX4_putOnStove ∈ kg_U := tw_m (i := 691) (by decide +kernel) (by decide +kernel)
set_option maxRecDepth 100000 in
theorem tw_692 : Cond.code yX4_putOnStove cX4_putOnStove 5 (some .int) ∈ kg_U := tw_m (i := 692) (by decide +kernel) (by decide +kernel)
set_option maxRecDepth 100000 in
theorem tw_693 : Cond.methodLink RX4 335 yX4_refuseStove ∈ kg_U := tw_m (i := 693) (by decide +kernel) (by decide +kernel)
set_option maxRecDepth 100000 in
theorem tw_695 : Cond.instanceMethod yX4_refuseStove ∈ kg_U := tw_m (i := 695) (by decide +kernel) (by decide +kernel)
set_option maxRecDepth 100000 in
theorem tw_696 : Cond.code yX4_refuseStove cX4_refuseStove 4 (some .int) ∈ kg_U := tw_m (i := 696) (by decide +kernel) (by decide +kernel)
set_option maxRecDepth 100000 in
theorem tw_697 : Cond.methodLink RX4 338 yX3_stoveWithPitch ∈ kg_U := tw_m (i := 697) (by decide +kernel) (by decide +kernel)
set_option maxRecDepth 100000 in
theorem tw_698 : Cond.instanceMethod yX3_stoveWithPitch ∈ kg_U := tw_m (i := 698) (by decide +kernel) (by decide +kernel)
set_option maxRecDepth 100000 in
theorem tw_699 : Cond.selects RX3 yX3_stoveWithPitch yX3_stoveWithPitch ∈ kg_U := tw_m (i := 699) (by decide +kernel) (by decide +kernel)
set_option maxRecDepth 100000 in
theorem tw_700 : Cond.code yX3_stoveWithPitch cX3_stoveWithPitch 3 (some .int) ∈ kg_U := tw_m (i := 700) (by decide +kernel) (by decide +kernel)
set_option maxRecDepth 100000 in
theorem tw_701 : Cond.methodLink RL 33 yL_acts ∈ kg_U := tw_m (i := 701) (by decide +kernel) (by decide +kernel)
set_option maxRecDepth 100000 in
theorem tw_702 : Cond.static yL_acts ∈ kg_U := tw_m (i := 702) (by decide +kernel) (by decide +kernel)
set_option maxRecDepth 100000 in
theorem tw_703 : Cond.code yL_acts cL_acts 8 none ∈ kg_U := tw_m (i := 703) (by decide +kernel) (by decide +kernel)
set_option maxRecDepth 100000 in
theorem tw_704 : Cond.methodLink RL 48 yX4_off ∈ kg_U := tw_m (i := 704) (by decide +kernel) (by decide +kernel)
set_option maxRecDepth 100000 in
theorem tw_705 : Cond.instanceMethod yX4_off ∈ kg_U := tw_m (i := 705) (by decide +kernel) (by decide +kernel)
set_option maxRecDepth 100000 in
theorem tw_706 : Cond.selects RX4 yX4_off yX4_off ∈ kg_U := tw_m (i := 706) (by decide +kernel) (by decide +kernel)
set_option maxRecDepth 100000 in
theorem tw_707 : Cond.code yX4_off cX4_off 2 (some .int) ∈ kg_U := tw_m (i := 707) (by decide +kernel) (by decide +kernel)
set_option maxRecDepth 100000 in
theorem tw_708 : Cond.methodLink RX4 118 yX4_takeOffStove ∈ kg_U := tw_m (i := 708) (by decide +kernel) (by decide +kernel)
set_option maxRecDepth 100000 in
theorem tw_710 : Cond.instanceMethod yX4_takeOffStove ∈ kg_U := tw_m (i := 710) (by decide +kernel) (by decide +kernel)
set_option maxRecDepth 100000 in
theorem tw_711 : Cond.code yX4_takeOffStove cX4_takeOffStove 3 (some .int) ∈ kg_U := tw_m (i := 711) (by decide +kernel) (by decide +kernel)
set_option maxRecDepth 100000 in
theorem tw_712 : Cond.methodLink RL 51 yX4_fill ∈ kg_U := tw_m (i := 712) (by decide +kernel) (by decide +kernel)
set_option maxRecDepth 100000 in
theorem tw_713 : Cond.instanceMethod yX4_fill ∈ kg_U := tw_m (i := 713) (by decide +kernel) (by decide +kernel)
set_option maxRecDepth 100000 in
theorem tw_714 : Cond.selects RX4 yX4_fill yX4_fill ∈ kg_U := tw_m (i := 714) (by decide +kernel) (by decide +kernel)
set_option maxRecDepth 100000 in
theorem tw_715 : Cond.code yX4_fill cX4_fill 3 (some .int) ∈ kg_U := tw_m (i := 715) (by decide +kernel) (by decide +kernel)
set_option maxRecDepth 100000 in
theorem tw_716 : Cond.methodLink RX4 74 yX4_pourWater ∈ kg_U := tw_m (i := 716) (by decide +kernel) (by decide +kernel)
set_option maxRecDepth 100000 in
theorem tw_718 : Cond.instanceMethod yX4_pourWater ∈ kg_U := tw_m (i := 718) (by decide +kernel) (by decide +kernel)
set_option maxRecDepth 100000 in
theorem tw_719 : Cond.code yX4_pourWater cX4_pourWater 4 (some .int) ∈ kg_U := tw_m (i := 719) (by decide +kernel) (by decide +kernel)
set_option maxRecDepth 100000 in
theorem tw_720 : Cond.methodLink RL 54 yX4_lid ∈ kg_U := tw_m (i := 720) (by decide +kernel) (by decide +kernel)
set_option maxRecDepth 100000 in
theorem tw_721 : Cond.instanceMethod yX4_lid ∈ kg_U := tw_m (i := 721) (by decide +kernel) (by decide +kernel)
set_option maxRecDepth 100000 in
theorem tw_722 : Cond.selects RX4 yX4_lid yX4_lid ∈ kg_U := tw_m (i := 722) (by decide +kernel) (by decide +kernel)
set_option maxRecDepth 100000 in
theorem tw_723 : Cond.code yX4_lid cX4_lid 3 (some .int) ∈ kg_U := tw_m (i := 723) (by decide +kernel) (by decide +kernel)
set_option maxRecDepth 100000 in
theorem tw_724 : Cond.methodLink RX4 124 yX4_moveLid ∈ kg_U := tw_m (i := 724) (by decide +kernel) (by decide +kernel)
set_option maxRecDepth 100000 in
theorem tw_726 : Cond.instanceMethod yX4_moveLid ∈ kg_U := tw_m (i := 726) (by decide +kernel) (by decide +kernel)
set_option maxRecDepth 100000 in
theorem tw_727 : Cond.code yX4_moveLid cX4_moveLid 3 (some .int) ∈ kg_U := tw_m (i := 727) (by decide +kernel) (by decide +kernel)
set_option maxRecDepth 100000 in
theorem tw_728 : Cond.methodLink RL 57 yX4_appeal ∈ kg_U := tw_m (i := 728) (by decide +kernel) (by decide +kernel)
set_option maxRecDepth 100000 in
theorem tw_729 : Cond.instanceMethod yX4_appeal ∈ kg_U := tw_m (i := 729) (by decide +kernel) (by decide +kernel)
set_option maxRecDepth 100000 in
theorem tw_730 : Cond.selects RX4 yX4_appeal yX4_appeal ∈ kg_U := tw_m (i := 730) (by decide +kernel) (by decide +kernel)
set_option maxRecDepth 100000 in
theorem tw_731 : Cond.code yX4_appeal cX4_appeal 3 (some .int) ∈ kg_U := tw_m (i := 731) (by decide +kernel) (by decide +kernel)
set_option maxRecDepth 100000 in
theorem tw_732 : Cond.methodLink RX4 127 yX4_makeAppeal ∈ kg_U := tw_m (i := 732) (by decide +kernel) (by decide +kernel)
set_option maxRecDepth 100000 in
theorem tw_734 : Cond.instanceMethod yX4_makeAppeal ∈ kg_U := tw_m (i := 734) (by decide +kernel) (by decide +kernel)
set_option maxRecDepth 100000 in
theorem tw_735 : Cond.code yX4_makeAppeal cX4_makeAppeal 3 (some .int) ∈ kg_U := tw_m (i := 735) (by decide +kernel) (by decide +kernel)
set_option maxRecDepth 100000 in
theorem tw_736 : Cond.methodLink RX4 344 yX3_barLid ∈ kg_U := tw_m (i := 736) (by decide +kernel) (by decide +kernel)
set_option maxRecDepth 100000 in
theorem tw_737 : Cond.instanceMethod yX3_barLid ∈ kg_U := tw_m (i := 737) (by decide +kernel) (by decide +kernel)
set_option maxRecDepth 100000 in
theorem tw_738 : Cond.selects RX3 yX3_barLid yX3_barLid ∈ kg_U := tw_m (i := 738) (by decide +kernel) (by decide +kernel)
set_option maxRecDepth 100000 in
theorem tw_739 : Cond.code yX3_barLid cX3_barLid 2 none ∈ kg_U := tw_m (i := 739) (by decide +kernel) (by decide +kernel)
set_option maxRecDepth 100000 in
theorem tw_740 : Cond.methodLink RL 60 yX4_minute ∈ kg_U := tw_m (i := 740) (by decide +kernel) (by decide +kernel)
set_option maxRecDepth 100000 in
theorem tw_741 : Cond.instanceMethod yX4_minute ∈ kg_U := tw_m (i := 741) (by decide +kernel) (by decide +kernel)
set_option maxRecDepth 100000 in
theorem tw_742 : Cond.selects RX4 yX4_minute yX4_minute ∈ kg_U := tw_m (i := 742) (by decide +kernel) (by decide +kernel)
set_option maxRecDepth 100000 in
theorem tw_743 : Cond.code yX4_minute cX4_minute 2 (some .int) ∈ kg_U := tw_m (i := 743) (by decide +kernel) (by decide +kernel)
set_option maxRecDepth 100000 in
theorem tw_744 : Cond.methodLink RX4 139 yX4_passMinutes ∈ kg_U := tw_m (i := 744) (by decide +kernel) (by decide +kernel)
set_option maxRecDepth 100000 in
theorem tw_746 : Cond.instanceMethod yX4_passMinutes ∈ kg_U := tw_m (i := 746) (by decide +kernel) (by decide +kernel)
set_option maxRecDepth 100000 in
theorem tw_747 : Cond.code yX4_passMinutes cX4_passMinutes 4 (some .int) ∈ kg_U := tw_m (i := 747) (by decide +kernel) (by decide +kernel)
set_option maxRecDepth 100000 in
theorem tw_748 : Cond.methodLink RX4 347 yX3_passMinute ∈ kg_U := tw_m (i := 748) (by decide +kernel) (by decide +kernel)
set_option maxRecDepth 100000 in
theorem tw_749 : Cond.instanceMethod yX3_passMinute ∈ kg_U := tw_m (i := 749) (by decide +kernel) (by decide +kernel)
set_option maxRecDepth 100000 in
theorem tw_750 : Cond.selects RX3 yX3_passMinute yX3_passMinute ∈ kg_U := tw_m (i := 750) (by decide +kernel) (by decide +kernel)
set_option maxRecDepth 100000 in
theorem tw_751 : Cond.code yX3_passMinute cX3_passMinute 3 (some .int) ∈ kg_U := tw_m (i := 751) (by decide +kernel) (by decide +kernel)
set_option maxRecDepth 100000 in
theorem tw_752 : Cond.methodLink RX3 89 yX3_passMinuteOver ∈ kg_U := tw_m (i := 752) (by decide +kernel) (by decide +kernel)
set_option maxRecDepth 100000 in
theorem tw_754 : Cond.instanceMethod yX3_passMinuteOver ∈ kg_U := tw_m (i := 754) (by decide +kernel) (by decide +kernel)
set_option maxRecDepth 100000 in
theorem tw_755 : Cond.code yX3_passMinuteOver cX3_passMinuteOver 4 (some .boolean) ∈ kg_U := tw_m (i := 755) (by decide +kernel) (by decide +kernel)
set_option maxRecDepth 100000 in
theorem tw_756 : Cond.methodLink RX3 96 yX3_boilDry ∈ kg_U := tw_m (i := 756) (by decide +kernel) (by decide +kernel)
set_option maxRecDepth 100000 in
theorem tw_758 : Cond.instanceMethod yX3_boilDry ∈ kg_U := tw_m (i := 758) (by decide +kernel) (by decide +kernel)
set_option maxRecDepth 100000 in
theorem tw_759 : Cond.code yX3_boilDry cX3_boilDry 3 none ∈ kg_U := tw_m (i := 759) (by decide +kernel) (by decide +kernel)
set_option maxRecDepth 100000 in
theorem tw_760 : Cond.methodLink RX3 100 yX3_changeTemperature ∈ kg_U := tw_m (i := 760) (by decide +kernel) (by decide +kernel)
set_option maxRecDepth 100000 in
theorem tw_762 : Cond.instanceMethod yX3_changeTemperature ∈ kg_U := tw_m (i := 762) (by decide +kernel) (by decide +kernel)
set_option maxRecDepth 100000 in
theorem tw_763 : Cond.code yX3_changeTemperature cX3_changeTemperature 2 none ∈ kg_U := tw_m (i := 763) (by decide +kernel) (by decide +kernel)
set_option maxRecDepth 100000 in
theorem tw_764 : Cond.methodLink RX3 103 yJ9_max_7cf53 ∈ kg_U := tw_m (i := 764) (by decide +kernel) (by decide +kernel)
set_option maxRecDepth 100000 in
theorem tw_765 : Cond.methodLink RX4 350 yX3_holdHarmony ∈ kg_U := tw_m (i := 765) (by decide +kernel) (by decide +kernel)
set_option maxRecDepth 100000 in
theorem tw_766 : Cond.instanceMethod yX3_holdHarmony ∈ kg_U := tw_m (i := 766) (by decide +kernel) (by decide +kernel)
set_option maxRecDepth 100000 in
theorem tw_767 : Cond.selects RX3 yX3_holdHarmony yX3_holdHarmony ∈ kg_U := tw_m (i := 767) (by decide +kernel) (by decide +kernel)
set_option maxRecDepth 100000 in
theorem tw_768 : Cond.code yX3_holdHarmony cX3_holdHarmony 5 none ∈ kg_U := tw_m (i := 768) (by decide +kernel) (by decide +kernel)
set_option maxRecDepth 100000 in
theorem tw_770 : Cond.methodLink RL 93 yL_heatUnder ∈ kg_U := tw_m (i := 770) (by decide +kernel) (by decide +kernel)
set_option maxRecDepth 100000 in
theorem tw_771 : Cond.static yL_heatUnder ∈ kg_U := tw_m (i := 771) (by decide +kernel) (by decide +kernel)
set_option maxRecDepth 100000 in
theorem tw_772 : Cond.code yL_heatUnder cL_heatUnder 3 (some .int) ∈ kg_U := tw_m (i := 772) (by decide +kernel) (by decide +kernel)
set_option maxRecDepth 100000 in
theorem tw_773 : Cond.methodLink RL 154 yL_sound ∈ kg_U := tw_m (i := 773) (by decide +kernel) (by decide +kernel)
set_option maxRecDepth 100000 in
theorem tw_774 : Cond.static yL_sound ∈ kg_U := tw_m (i := 774) (by decide +kernel) (by decide +kernel)
set_option maxRecDepth 100000 in
theorem tw_775 : Cond.code yL_sound cL_sound 3 (some .int) ∈ kg_U := tw_m (i := 775) (by decide +kernel) (by decide +kernel)
set_option maxRecDepth 100000 in
theorem tw_776 : Cond.methodLink RL 70 yJ9_abs_0f7a4 ∈ kg_U := tw_m (i := 776) (by decide +kernel) (by decide +kernel)
set_option maxRecDepth 100000 in
theorem tw_777 : Cond.methodLink RL 100 yL_has ∈ kg_U := tw_m (i := 777) (by decide +kernel) (by decide +kernel)
set_option maxRecDepth 100000 in
theorem tw_778 : Cond.static yL_has ∈ kg_U := tw_m (i := 778) (by decide +kernel) (by decide +kernel)
set_option maxRecDepth 100000 in
theorem tw_779 : Cond.code yL_has cL_has 4 (some .boolean) ∈ kg_U := tw_m (i := 779) (by decide +kernel) (by decide +kernel)
set_option maxRecDepth 100000 in
theorem tw_780 : Cond.methodLink RL 75 yX4_character ∈ kg_U := tw_m (i := 780) (by decide +kernel) (by decide +kernel)
set_option maxRecDepth 100000 in
theorem tw_781 : Cond.instanceMethod yX4_character ∈ kg_U := tw_m (i := 781) (by decide +kernel) (by decide +kernel)
set_option maxRecDepth 100000 in
theorem tw_782 : Cond.selects RX4 yX4_character yX4_character ∈ kg_U := tw_m (i := 782) (by decide +kernel) (by decide +kernel)
set_option maxRecDepth 100000 in
theorem tw_783 : Cond.code yX4_character cX4_character 2 (some .int) ∈ kg_U := tw_m (i := 783) (by decide +kernel) (by decide +kernel)
set_option maxRecDepth 100000 in
theorem tw_784 : Cond.methodLink RX4 248 yJ4_charAt_5068e ∈ kg_U := tw_m (i := 784) (by decide +kernel) (by decide +kernel)
set_option maxRecDepth 100000 in
theorem tw_785 : Cond.instanceMethod yJ4_charAt_5068e ∈ kg_U := tw_m (i := 785) (by decide +kernel) (by decide +kernel)
set_option maxRecDepth 100000 in
theorem tw_786 : Cond.selects RJ4 yJ4_charAt_5068e yJ4_charAt_5068e ∈ kg_U := tw_m (i := 786) (by decide +kernel) (by decide +kernel)
set_option maxRecDepth 100000 in
theorem tw_787 : Cond.code yJ4_charAt_5068e cJ4_charAt_5068e 2 (some .char) ∈ kg_U := tw_m (i := 787) (by decide +kernel) (by decide +kernel)
set_option maxRecDepth 100000 in
theorem tw_788 : Cond.methodLink RJ4 329 yJ5_charAt_5068e ∈ kg_U := tw_m (i := 788) (by decide +kernel) (by decide +kernel)
set_option maxRecDepth 100000 in
theorem tw_789 : Cond.instanceMethod yJ5_charAt_5068e ∈ kg_U := tw_m (i := 789) (by decide +kernel) (by decide +kernel)
set_option maxRecDepth 100000 in
theorem tw_790 : Cond.code yJ5_charAt_5068e cJ5_charAt_5068e 5 (some .char) ∈ kg_U := tw_m (i := 790) (by decide +kernel) (by decide +kernel)
set_option maxRecDepth 100000 in
theorem tw_791 : Cond.methodLink RJ5 138 yJ9_min_7cf53 ∈ kg_U := tw_m (i := 791) (by decide +kernel) (by decide +kernel)
set_option maxRecDepth 100000 in
theorem tw_792 : Cond.methodLink RJ5 144 yJ0_checkIndex_df160 ∈ kg_U := tw_m (i := 792) (by decide +kernel) (by decide +kernel)
set_option maxRecDepth 100000 in
theorem tw_793 : Cond.methodLink RJ5 148 yJ2_getChar_3b067 ∈ kg_U := tw_m (i := 793) (by decide +kernel) (by decide +kernel)
set_option maxRecDepth 100000 in
theorem tw_794 : Cond.static yJ2_getChar_3b067 ∈ kg_U := tw_m (i := 794) (by decide +kernel) (by decide +kernel)
set_option maxRecDepth 100000 in
theorem tw_795 : Cond.code yJ2_getChar_3b067 cJ2_getChar_3b067 2 (some .char) ∈ kg_U := tw_m (i := 795) (by decide +kernel) (by decide +kernel)
set_option maxRecDepth 100000 in
theorem tw_796 : Cond.methodLink RL 138 yL_isLine ∈ kg_U := tw_m (i := 796) (by decide +kernel) (by decide +kernel)
set_option maxRecDepth 100000 in
theorem tw_797 : Cond.static yL_isLine ∈ kg_U := tw_m (i := 797) (by decide +kernel) (by decide +kernel)
set_option maxRecDepth 100000 in
theorem tw_798 : Cond.code yL_isLine cL_isLine 4 (some .boolean) ∈ kg_U := tw_m (i := 798) (by decide +kernel) (by decide +kernel)
set_option maxRecDepth 100000 in
theorem tw_799 : Cond.methodLink RL 78 yJ0_length_8abf5 ∈ kg_U := tw_m (i := 799) (by decide +kernel) (by decide +kernel)
set_option maxRecDepth 100000 in
theorem tw_800 : Cond.instanceMethod yJ0_length_8abf5 ∈ kg_U := tw_m (i := 800) (by decide +kernel) (by decide +kernel)
set_option maxRecDepth 100000 in
theorem tw_801 : Cond.selects RJ0 yJ0_length_8abf5 yJ0_length_8abf5 ∈ kg_U := tw_m (i := 801) (by decide +kernel) (by decide +kernel)
set_option maxRecDepth 100000 in
theorem tw_802 : Cond.code yJ0_length_8abf5 cJ0_length_8abf5 1 (some .int) ∈ kg_U := tw_m (i := 802) (by decide +kernel) (by decide +kernel)
set_option maxRecDepth 100000 in
theorem tw_803 : Cond.methodLink RJ0 335 yJ0_coder_7d493 ∈ kg_U := tw_m (i := 803) (by decide +kernel) (by decide +kernel)
set_option maxRecDepth 100000 in
theorem tw_804 : Cond.instanceMethod yJ0_coder_7d493 ∈ kg_U := tw_m (i := 804) (by decide +kernel) (by decide +kernel)
set_option maxRecDepth 100000 in
theorem tw_805 : Cond.selects RJ0 yJ0_coder_7d493 yJ0_coder_7d493 ∈ kg_U := tw_m (i := 805) (by decide +kernel) (by decide +kernel)
set_option maxRecDepth 100000 in
theorem tw_806 : Cond.code yJ0_coder_7d493 cJ0_coder_7d493 1 (some .byte) ∈ kg_U := tw_m (i := 806) (by decide +kernel) (by decide +kernel)
set_option maxRecDepth 100000 in
theorem tw_807 : Cond.fieldLink RJ0 38 "java/lang/String" "COMPACT_STRINGS" "Z" ∈ kg_U := tw_m (i := 807) (by decide +kernel) (by decide +kernel)
set_option maxRecDepth 100000 in
theorem tw_808 : Cond.methodLink RL 84 yJ0_charAt_5068e ∈ kg_U := tw_m (i := 808) (by decide +kernel) (by decide +kernel)
set_option maxRecDepth 100000 in
theorem tw_809 : Cond.instanceMethod yJ0_charAt_5068e ∈ kg_U := tw_m (i := 809) (by decide +kernel) (by decide +kernel)
set_option maxRecDepth 100000 in
theorem tw_810 : Cond.selects RJ0 yJ0_charAt_5068e yJ0_charAt_5068e ∈ kg_U := tw_m (i := 810) (by decide +kernel) (by decide +kernel)
set_option maxRecDepth 100000 in
theorem tw_811 : Cond.code yJ0_charAt_5068e cJ0_charAt_5068e 2 (some .char) ∈ kg_U := tw_m (i := 811) (by decide +kernel) (by decide +kernel)
set_option maxRecDepth 100000 in
theorem tw_812 : Cond.methodLink RJ0 492 yJ0_isLatin1_aae02 ∈ kg_U := tw_m (i := 812) (by decide +kernel) (by decide +kernel)
set_option maxRecDepth 100000 in
theorem tw_813 : Cond.instanceMethod yJ0_isLatin1_aae02 ∈ kg_U := tw_m (i := 813) (by decide +kernel) (by decide +kernel)
set_option maxRecDepth 100000 in
theorem tw_814 : Cond.selects RJ0 yJ0_isLatin1_aae02 yJ0_isLatin1_aae02 ∈ kg_U := tw_m (i := 814) (by decide +kernel) (by decide +kernel)
set_option maxRecDepth 100000 in
theorem tw_815 : Cond.code yJ0_isLatin1_aae02 cJ0_isLatin1_aae02 1 (some .boolean) ∈ kg_U := tw_m (i := 815) (by decide +kernel) (by decide +kernel)
set_option maxRecDepth 100000 in
theorem tw_816 : Cond.methodLink RJ0 495 yJ1_charAt_3b067 ∈ kg_U := tw_m (i := 816) (by decide +kernel) (by decide +kernel)
set_option maxRecDepth 100000 in
theorem tw_817 : Cond.static yJ1_charAt_3b067 ∈ kg_U := tw_m (i := 817) (by decide +kernel) (by decide +kernel)
set_option maxRecDepth 100000 in
theorem tw_818 : Cond.code yJ1_charAt_3b067 cJ1_charAt_3b067 2 (some .char) ∈ kg_U := tw_m (i := 818) (by decide +kernel) (by decide +kernel)
set_option maxRecDepth 100000 in
theorem tw_819 : Cond.methodLink RJ1 9 yJ0_checkIndex_df160 ∈ kg_U := tw_m (i := 819) (by decide +kernel) (by decide +kernel)
set_option maxRecDepth 100000 in
theorem tw_820 : Cond.methodLink RJ0 498 yJ2_charAt_3b067 ∈ kg_U := tw_m (i := 820) (by decide +kernel) (by decide +kernel)
set_option maxRecDepth 100000 in
theorem tw_821 : Cond.static yJ2_charAt_3b067 ∈ kg_U := tw_m (i := 821) (by decide +kernel) (by decide +kernel)
set_option maxRecDepth 100000 in
theorem tw_822 : Cond.code yJ2_charAt_3b067 cJ2_charAt_3b067 2 (some .char) ∈ kg_U := tw_m (i := 822) (by decide +kernel) (by decide +kernel)
set_option maxRecDepth 100000 in
theorem tw_823 : Cond.methodLink RJ2 71 yJ2_getChar_3b067 ∈ kg_U := tw_m (i := 823) (by decide +kernel) (by decide +kernel)
set_option maxRecDepth 100000 in
theorem tw_824 : Cond.methodLink RL 196 yJ6_bitCount_0f7a4 ∈ kg_U := tw_m (i := 824) (by decide +kernel) (by decide +kernel)
set_option maxRecDepth 100000 in
theorem tw_825 : Cond.methodLink RL 151 yJ9_max_7cf53 ∈ kg_U := tw_m (i := 825) (by decide +kernel) (by decide +kernel)
set_option maxRecDepth 100000 in
theorem tw_826 : Cond.classLink RL 104 RJ4 ∈ kg_U := tw_m (i := 826) (by decide +kernel) (by decide +kernel)
set_option maxRecDepth 100000 in
theorem tw_827 : Cond.methodLink RL 106 yJ4_init_da8c8 ∈ kg_U := tw_m (i := 827) (by decide +kernel) (by decide +kernel)
set_option maxRecDepth 100000 in
theorem tw_828 : Cond.methodLink RL 113 yJ4_append_15ec4 ∈ kg_U := tw_m (i := 828) (by decide +kernel) (by decide +kernel)
set_option maxRecDepth 100000 in
theorem tw_829 : Cond.instanceMethod yJ4_append_15ec4 ∈ kg_U := tw_m (i := 829) (by decide +kernel) (by decide +kernel)
set_option maxRecDepth 100000 in
theorem tw_830 : Cond.selects RJ4 yJ4_append_15ec4 yJ4_append_15ec4 ∈ kg_U := tw_m (i := 830) (by decide +kernel) (by decide +kernel)
set_option maxRecDepth 100000 in
theorem tw_831 : Cond.code yJ4_append_15ec4 cJ4_append_15ec4 2 (some (.object "java/lang/StringBuilder")) ∈ kg_U := tw_m (i := 831) (by decide +kernel) (by decide +kernel)
set_option maxRecDepth 100000 in
theorem tw_832 : Cond.methodLink RJ4 29 yJ5_append_cf1ce ∈ kg_U := tw_m (i := 832) (by decide +kernel) (by decide +kernel)
set_option maxRecDepth 100000 in
theorem tw_833 : Cond.instanceMethod yJ5_append_cf1ce ∈ kg_U := tw_m (i := 833) (by decide +kernel) (by decide +kernel)
set_option maxRecDepth 100000 in
theorem tw_834 : Cond.code yJ5_append_cf1ce cJ5_append_cf1ce 3 (some (.object "java/lang/AbstractStringBuilder")) ∈ kg_U := tw_m (i := 834) (by decide +kernel) (by decide +kernel)
set_option maxRecDepth 100000 in
theorem tw_835 : Cond.methodLink RJ5 204 yJ5_appendNull_278bc ∈ kg_U := tw_m (i := 835) (by decide +kernel) (by decide +kernel)
set_option maxRecDepth 100000 in
theorem tw_837 : Cond.instanceMethod yJ5_appendNull_278bc ∈ kg_U := tw_m (i := 837) (by decide +kernel) (by decide +kernel)
set_option maxRecDepth 100000 in
theorem tw_838 : Cond.code yJ5_appendNull_278bc cJ5_appendNull_278bc 3 (some (.object "java/lang/AbstractStringBuilder")) ∈ kg_U := tw_m (i := 838) (by decide +kernel) (by decide +kernel)
set_option maxRecDepth 100000 in
theorem tw_839 : Cond.methodLink RJ5 226 yJ2_putCharsAt_cd4e5 ∈ kg_U := tw_m (i := 839) (by decide +kernel) (by decide +kernel)
set_option maxRecDepth 100000 in
theorem tw_840 : Cond.static yJ2_putCharsAt_cd4e5 ∈ kg_U := tw_m (i := 840) (by decide +kernel) (by decide +kernel)
set_option maxRecDepth 100000 in
theorem tw_841 : Cond.code yJ2_putCharsAt_cd4e5 cJ2_putCharsAt_cd4e5 7 (some .int) ∈ kg_U := tw_m (i := 841) (by decide +kernel) (by decide +kernel)
set_option maxRecDepth 100000 in
theorem tw_842 : Cond.methodLink RJ5 32 yJ0_length_8abf5 ∈ kg_U := tw_m (i := 842) (by decide +kernel) (by decide +kernel)
set_option maxRecDepth 100000 in
theorem tw_843 : Cond.methodLink RJ5 208 yJ5_putStringAt_47b60 ∈ kg_U := tw_m (i := 843) (by decide +kernel) (by decide +kernel)
set_option maxRecDepth 100000 in
theorem tw_845 : Cond.instanceMethod yJ5_putStringAt_47b60 ∈ kg_U := tw_m (i := 845) (by decide +kernel) (by decide +kernel)
set_option maxRecDepth 100000 in
theorem tw_846 : Cond.code yJ5_putStringAt_47b60 cJ5_putStringAt_47b60 3 none ∈ kg_U := tw_m (i := 846) (by decide +kernel) (by decide +kernel)
set_option maxRecDepth 100000 in
theorem tw_847 : Cond.methodLink RJ5 397 yJ5_inflateIfNeededFor_a7421 ∈ kg_U := tw_m (i := 847) (by decide +kernel) (by decide +kernel)
set_option maxRecDepth 100000 in
theorem tw_849 : Cond.instanceMethod yJ5_inflateIfNeededFor_a7421 ∈ kg_U := tw_m (i := 849) (by decide +kernel) (by decide +kernel)
set_option maxRecDepth 100000 in
theorem tw_850 : Cond.code yJ5_inflateIfNeededFor_a7421 cJ5_inflateIfNeededFor_a7421 2 none ∈ kg_U := tw_m (i := 850) (by decide +kernel) (by decide +kernel)
set_option maxRecDepth 100000 in
theorem tw_851 : Cond.methodLink RJ5 40 yJ0_coder_7d493 ∈ kg_U := tw_m (i := 851) (by decide +kernel) (by decide +kernel)
set_option maxRecDepth 100000 in
theorem tw_852 : Cond.methodLink RJ5 399 yJ0_getBytes_840e7 ∈ kg_U := tw_m (i := 852) (by decide +kernel) (by decide +kernel)
set_option maxRecDepth 100000 in
theorem tw_853 : Cond.instanceMethod yJ0_getBytes_840e7 ∈ kg_U := tw_m (i := 853) (by decide +kernel) (by decide +kernel)
set_option maxRecDepth 100000 in
theorem tw_854 : Cond.selects RJ0 yJ0_getBytes_840e7 yJ0_getBytes_840e7 ∈ kg_U := tw_m (i := 854) (by decide +kernel) (by decide +kernel)
set_option maxRecDepth 100000 in
theorem tw_855 : Cond.code yJ0_getBytes_840e7 cJ0_getBytes_840e7 4 none ∈ kg_U := tw_m (i := 855) (by decide +kernel) (by decide +kernel)
set_option maxRecDepth 100000 in
theorem tw_856 : Cond.methodLink RJ0 212 (⟨"java/lang/System", "arraycopy", "(Ljava/lang/Object;ILjava/lang/Object;II)V"⟩ : MethodName) ∈ kg_U := tw_m (i := 856) (by decide +kernel) (by decide +kernel)
set_option maxRecDepth 100000 in
theorem tw_857 : Cond.methodLink RJ0 106 yJ1_inflate_0e8fd ∈ kg_U := tw_m (i := 857) (by decide +kernel) (by decide +kernel)
set_option maxRecDepth 100000 in
theorem tw_858 : Cond.methodLink RL 107 yJ4_append_bf812 ∈ kg_U := tw_m (i := 858) (by decide +kernel) (by decide +kernel)
set_option maxRecDepth 100000 in
theorem tw_859 : Cond.methodLink RL 130 yJ4_toString_0e30d ∈ kg_U := tw_m (i := 859) (by decide +kernel) (by decide +kernel)
set_option maxRecDepth 100000 in
theorem tw_860 : Cond.instanceMethod yJ4_toString_0e30d ∈ kg_U := tw_m (i := 860) (by decide +kernel) (by decide +kernel)
set_option maxRecDepth 100000 in
theorem tw_861 : Cond.selects RJ4 yJ4_toString_0e30d yJ4_toString_0e30d ∈ kg_U := tw_m (i := 861) (by decide +kernel) (by decide +kernel)
set_option maxRecDepth 100000 in
theorem tw_862 : Cond.code yJ4_toString_0e30d cJ4_toString_0e30d 1 (some (.object "java/lang/String")) ∈ kg_U := tw_m (i := 862) (by decide +kernel) (by decide +kernel)
set_option maxRecDepth 100000 in
theorem tw_863 : Cond.classLink RJ4 18 RJ0 ∈ kg_U := tw_m (i := 863) (by decide +kernel) (by decide +kernel)
set_option maxRecDepth 100000 in
theorem tw_864 : Cond.instantiable RJ0 4 ∈ kg_U := tw_m (i := 864) (by decide +kernel) (by decide +kernel)
set_option maxRecDepth 100000 in
theorem tw_865 : Cond.methodLink RJ4 137 yJ0_init_81219 ∈ kg_U := tw_m (i := 865) (by decide +kernel) (by decide +kernel)
set_option maxRecDepth 100000 in
theorem tw_866 : Cond.instanceMethod yJ0_init_81219 ∈ kg_U := tw_m (i := 866) (by decide +kernel) (by decide +kernel)
set_option maxRecDepth 100000 in
theorem tw_867 : Cond.code yJ0_init_81219 cJ0_init_81219 2 none ∈ kg_U := tw_m (i := 867) (by decide +kernel) (by decide +kernel)
set_option maxRecDepth 100000 in
theorem tw_868 : Cond.methodLink RJ0 489 yJ0_init_db425 ∈ kg_U := tw_m (i := 868) (by decide +kernel) (by decide +kernel)
set_option maxRecDepth 100000 in
theorem tw_869 : Cond.instanceMethod yJ0_init_db425 ∈ kg_U := tw_m (i := 869) (by decide +kernel) (by decide +kernel)
set_option maxRecDepth 100000 in
theorem tw_870 : Cond.code yJ0_init_db425 cJ0_init_db425 5 none ∈ kg_U := tw_m (i := 870) (by decide +kernel) (by decide +kernel)
set_option maxRecDepth 100000 in
theorem tw_871 : Cond.methodLink RJ0 1 (⟨"java/lang/Object", "<init>", "()V"⟩ : MethodName) ∈ kg_U := tw_m (i := 871) (by decide +kernel) (by decide +kernel)
set_option maxRecDepth 100000 in
theorem tw_872 : Cond.methodLink RJ0 552 yJ5_getValue_6d5f1 ∈ kg_U := tw_m (i := 872) (by decide +kernel) (by decide +kernel)
set_option maxRecDepth 100000 in
theorem tw_873 : Cond.instanceMethod yJ5_getValue_6d5f1 ∈ kg_U := tw_m (i := 873) (by decide +kernel) (by decide +kernel)
set_option maxRecDepth 100000 in
theorem tw_874 : Cond.sameMethod RJ5 RJ5 "getValue" "()[B" ∈ kg_U := tw_m (i := 874) (by decide +kernel) (by decide +kernel)
set_option maxRecDepth 100000 in
theorem tw_875 : Cond.selects RJ4 yJ5_getValue_6d5f1 yJ5_getValue_6d5f1 ∈ kg_U := tw_m (i := 875) (by decide +kernel) (by decide +kernel)
set_option maxRecDepth 100000 in
theorem tw_876 : Cond.code yJ5_getValue_6d5f1 cJ5_getValue_6d5f1 1 (some (.array .byte)) ∈ kg_U := tw_m (i := 876) (by decide +kernel) (by decide +kernel)
set_option maxRecDepth 100000 in
theorem tw_877 : Cond.methodLink RJ0 549 yJ5_length_8abf5 ∈ kg_U := tw_m (i := 877) (by decide +kernel) (by decide +kernel)
set_option maxRecDepth 100000 in
theorem tw_878 : Cond.methodLink RJ0 1047 yJ5_isLatin1_aae02 ∈ kg_U := tw_m (i := 878) (by decide +kernel) (by decide +kernel)
set_option maxRecDepth 100000 in
theorem tw_879 : Cond.methodLink RJ0 54 yJ7_copyOfRange_39247 ∈ kg_U := tw_m (i := 879) (by decide +kernel) (by decide +kernel)
set_option maxRecDepth 100000 in
theorem tw_880 : Cond.static yJ7_copyOfRange_39247 ∈ kg_U := tw_m (i := 880) (by decide +kernel) (by decide +kernel)
set_option maxRecDepth 100000 in
theorem tw_881 : Cond.code yJ7_copyOfRange_39247 cJ7_copyOfRange_39247 3 (some (.array .byte)) ∈ kg_U := tw_m (i := 881) (by decide +kernel) (by decide +kernel)
set_option maxRecDepth 100000 in
theorem tw_882 : Cond.methodLink RJ7 339 yJ7_copyOfRangeByte_39247 ∈ kg_U := tw_m (i := 882) (by decide +kernel) (by decide +kernel)
set_option maxRecDepth 100000 in
theorem tw_883 : Cond.static yJ7_copyOfRangeByte_39247 ∈ kg_U := tw_m (i := 883) (by decide +kernel) (by decide +kernel)
set_option maxRecDepth 100000 in
theorem tw_884 : Cond.code yJ7_copyOfRangeByte_39247 cJ7_copyOfRangeByte_39247 5 (some (.array .byte)) ∈ kg_U := tw_m (i := 884) (by decide +kernel) (by decide +kernel)
set_option maxRecDepth 100000 in
theorem tw_885 : Cond.methodLink RJ7 343 yJ7_checkLength_df160 ∈ kg_U := tw_m (i := 885) (by decide +kernel) (by decide +kernel)
set_option maxRecDepth 100000 in
theorem tw_886 : Cond.static yJ7_checkLength_df160 ∈ kg_U := tw_m (i := 886) (by decide +kernel) (by decide +kernel)
set_option maxRecDepth 100000 in
theorem tw_887 : Cond.code yJ7_checkLength_df160 cJ7_checkLength_df160 2 none ∈ kg_U := tw_m (i := 887) (by decide +kernel) (by decide +kernel)
set_option maxRecDepth 100000 in
theorem tw_888 : Cond.methodLink RJ0 1051 yJ2_compress_39247 ∈ kg_U := tw_m (i := 888) (by decide +kernel) (by decide +kernel)
set_option maxRecDepth 100000 in
theorem tw_889 : Cond.static yJ2_compress_39247 ∈ kg_U := tw_m (i := 889) (by decide +kernel) (by decide +kernel)
set_option maxRecDepth 100000 in
theorem tw_890 : Cond.code yJ2_compress_39247 cJ2_compress_39247 6 (some (.array .byte)) ∈ kg_U := tw_m (i := 890) (by decide +kernel) (by decide +kernel)
set_option maxRecDepth 100000 in
theorem tw_891 : Cond.methodLink RJ2 123 yJ2_compress_5af95 ∈ kg_U := tw_m (i := 891) (by decide +kernel) (by decide +kernel)
set_option maxRecDepth 100000 in
theorem tw_892 : Cond.static yJ2_compress_5af95 ∈ kg_U := tw_m (i := 892) (by decide +kernel) (by decide +kernel)
set_option maxRecDepth 100000 in
theorem tw_893 : Cond.code yJ2_compress_5af95 cJ2_compress_5af95 7 (some .int) ∈ kg_U := tw_m (i := 893) (by decide +kernel) (by decide +kernel)
set_option maxRecDepth 100000 in
theorem tw_894 : Cond.methodLink RJ2 126 yJ7_copyOfRange_39247 ∈ kg_U := tw_m (i := 894) (by decide +kernel) (by decide +kernel)
set_option maxRecDepth 100000 in
theorem tw_895 : Cond.methodLink RJ0 47 yJ2_coderFromArrayLen_85cad ∈ kg_U := tw_m (i := 895) (by decide +kernel) (by decide +kernel)
set_option maxRecDepth 100000 in
theorem tw_896 : Cond.static yJ2_coderFromArrayLen_85cad ∈ kg_U := tw_m (i := 896) (by decide +kernel) (by decide +kernel)
set_option maxRecDepth 100000 in
theorem tw_897 : Cond.code yJ2_coderFromArrayLen_85cad cJ2_coderFromArrayLen_85cad 2 (some .byte) ∈ kg_U := tw_m (i := 897) (by decide +kernel) (by decide +kernel)
set_option maxRecDepth 100000 in
theorem tw_898 : Cond.fieldLink RJ0 9 "java/lang/String" "value" "[B" ∈ kg_U := tw_m (i := 898) (by decide +kernel) (by decide +kernel)
set_option maxRecDepth 100000 in
theorem tw_899 : Cond.fieldLink RJ0 15 "java/lang/String" "coder" "B" ∈ kg_U := tw_m (i := 899) (by decide +kernel) (by decide +kernel)
set_option maxRecDepth 100000 in
theorem tw_908 : Cond.superclass RJ0 "java/lang/Object" ∈ kg_U := tw_m (i := 908) (by decide +kernel) (by decide +kernel)
set_option maxRecDepth 100000 in
theorem tw_921 : Cond.sameMethod RJ5 RJ5 "setLength" "(I)V" ∈ kg_U := tw_m (i := 921) (by decide +kernel) (by decide +kernel)
set_option maxRecDepth 100000 in
theorem tw_922 : Cond.sameMethod RJ5 RJ5 "ensureCapacityInternal" "(I)V" ∈ kg_U := tw_m (i := 922) (by decide +kernel) (by decide +kernel)
set_option maxRecDepth 100000 in
theorem tw_923 : Cond.sameMethod RJ5 RJ5 "newCapacity" "(I)I" ∈ kg_U := tw_m (i := 923) (by decide +kernel) (by decide +kernel)
set_option maxRecDepth 100000 in
theorem tw_924 : Cond.sameMethod RJ5 RJ5 "append" "(I)Ljava/lang/AbstractStringBuilder;" ∈ kg_U := tw_m (i := 924) (by decide +kernel) (by decide +kernel)
set_option maxRecDepth 100000 in
theorem tw_925 : Cond.sameMethod RJ5 RJ5 "append" "(C)Ljava/lang/AbstractStringBuilder;" ∈ kg_U := tw_m (i := 925) (by decide +kernel) (by decide +kernel)
set_option maxRecDepth 100000 in
theorem tw_926 : Cond.sameMethod RJ5 RJ5 "inflate" "()V" ∈ kg_U := tw_m (i := 926) (by decide +kernel) (by decide +kernel)
set_option maxRecDepth 100000 in
theorem tw_927 : Cond.sameMethod RJ5 RJ5 "length" "()I" ∈ kg_U := tw_m (i := 927) (by decide +kernel) (by decide +kernel)
set_option maxRecDepth 100000 in
theorem tw_928 : Cond.sameMethod RJ5 RJ5 "charAt" "(I)C" ∈ kg_U := tw_m (i := 928) (by decide +kernel) (by decide +kernel)
set_option maxRecDepth 100000 in
theorem tw_929 : Cond.sameMethod RJ5 RJ5 "append" "(Ljava/lang/String;)Ljava/lang/AbstractStringBuilder;" ∈ kg_U := tw_m (i := 929) (by decide +kernel) (by decide +kernel)
set_option maxRecDepth 100000 in
theorem tw_930 : Cond.sameMethod RJ5 RJ5 "appendNull" "()Ljava/lang/AbstractStringBuilder;" ∈ kg_U := tw_m (i := 930) (by decide +kernel) (by decide +kernel)
set_option maxRecDepth 100000 in
theorem tw_931 : Cond.sameMethod RJ5 RJ5 "putStringAt" "(ILjava/lang/String;)V" ∈ kg_U := tw_m (i := 931) (by decide +kernel) (by decide +kernel)
set_option maxRecDepth 100000 in
theorem tw_932 : Cond.sameMethod RJ5 RJ5 "inflateIfNeededFor" "(Ljava/lang/String;)V" ∈ kg_U := tw_m (i := 932) (by decide +kernel) (by decide +kernel)
set_option maxRecDepth 100000 in
theorem tw_933 : Cond.selects RJ4 yJ5_length_8abf5 yJ4_length_8abf5 ∈ kg_U := tw_m (i := 933) (by decide +kernel) (by decide +kernel)
