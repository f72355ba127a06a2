section
-- ===== PART A: goes FIRST, ahead of the names: the tables' words, and 'selects' of the private methods out of them =====
/-- a private method of a class that the tables say can be made, by its rows of tables_1 -/
def lw_okq (q : MethodName × Nat) : Prop := (q.1.cls ≠ "java/lang/invoke/MethodHandle" ∧ q.1.cls ≠ "java/lang/invoke/VarHandle") ∧ Cond.instantiable q.1.cls q.2 ∈ tables_1 ∧ Cond.privateMethod q.1 ∈ tables_1 ∧ Cond.instanceMethod q.1 ∈ tables_1
theorem lw_p0 : lw_okq (⟨"KettleGuild", "takePitch", "(II)I"⟩, 7) := ⟨⟨by decide +kernel, by decide +kernel⟩, List.mem_of_getElem? (i := 20) (by decide +kernel), List.mem_of_getElem? (i := 253) (by decide +kernel), List.mem_of_getElem? (i := 254) (by decide +kernel)⟩
theorem lw_p1 : lw_okq (⟨"KettleGuild", "refuse", "(II)I"⟩, 7) := ⟨⟨by decide +kernel, by decide +kernel⟩, List.mem_of_getElem? (i := 20) (by decide +kernel), List.mem_of_getElem? (i := 263) (by decide +kernel), List.mem_of_getElem? (i := 264) (by decide +kernel)⟩
theorem lw_p2 : lw_okq (⟨"KettleGuild", "settle", "(I)I"⟩, 7) := ⟨⟨by decide +kernel, by decide +kernel⟩, List.mem_of_getElem? (i := 20) (by decide +kernel), List.mem_of_getElem? (i := 276) (by decide +kernel), List.mem_of_getElem? (i := 277) (by decide +kernel)⟩
theorem lw_p3 : lw_okq (⟨"KettleGuild", "bringKettle", "(III)I"⟩, 7) := ⟨⟨by decide +kernel, by decide +kernel⟩, List.mem_of_getElem? (i := 20) (by decide +kernel), List.mem_of_getElem? (i := 296) (by decide +kernel), List.mem_of_getElem? (i := 297) (by decide +kernel)⟩
theorem lw_p4 : lw_okq (⟨"KettleGuild", "pourWater", "(II)I"⟩, 7) := ⟨⟨by decide +kernel, by decide +kernel⟩, List.mem_of_getElem? (i := 20) (by decide +kernel), List.mem_of_getElem? (i := 308) (by decide +kernel), List.mem_of_getElem? (i := 309) (by decide +kernel)⟩
theorem lw_p5 : lw_okq (⟨"KettleGuild", "isKettle", "(I)Z"⟩, 7) := ⟨⟨by decide +kernel, by decide +kernel⟩, List.mem_of_getElem? (i := 20) (by decide +kernel), List.mem_of_getElem? (i := 312) (by decide +kernel), List.mem_of_getElem? (i := 313) (by decide +kernel)⟩
theorem lw_p6 : lw_okq (⟨"KettleGuild", "putOnStove", "(II)I"⟩, 7) := ⟨⟨by decide +kernel, by decide +kernel⟩, List.mem_of_getElem? (i := 20) (by decide +kernel), List.mem_of_getElem? (i := 350) (by decide +kernel), List.mem_of_getElem? (i := 351) (by decide +kernel)⟩
theorem lw_p7 : lw_okq (⟨"KettleGuild", "refuseStove", "(III)I"⟩, 7) := ⟨⟨by decide +kernel, by decide +kernel⟩, List.mem_of_getElem? (i := 20) (by decide +kernel), List.mem_of_getElem? (i := 357) (by decide +kernel), List.mem_of_getElem? (i := 358) (by decide +kernel)⟩
theorem lw_p8 : lw_okq (⟨"KettleGuild", "takeOffStove", "(I)I"⟩, 7) := ⟨⟨by decide +kernel, by decide +kernel⟩, List.mem_of_getElem? (i := 20) (by decide +kernel), List.mem_of_getElem? (i := 377) (by decide +kernel), List.mem_of_getElem? (i := 378) (by decide +kernel)⟩
theorem lw_p9 : lw_okq (⟨"KettleGuild", "turnStove", "(II)I"⟩, 7) := ⟨⟨by decide +kernel, by decide +kernel⟩, List.mem_of_getElem? (i := 20) (by decide +kernel), List.mem_of_getElem? (i := 385) (by decide +kernel), List.mem_of_getElem? (i := 386) (by decide +kernel)⟩
theorem lw_p10 : lw_okq (⟨"KettleGuild", "moveLid", "(II)I"⟩, 7) := ⟨⟨by decide +kernel, by decide +kernel⟩, List.mem_of_getElem? (i := 20) (by decide +kernel), List.mem_of_getElem? (i := 393) (by decide +kernel), List.mem_of_getElem? (i := 394) (by decide +kernel)⟩
theorem lw_p11 : lw_okq (⟨"KettleGuild", "makeAppeal", "(II)I"⟩, 7) := ⟨⟨by decide +kernel, by decide +kernel⟩, List.mem_of_getElem? (i := 20) (by decide +kernel), List.mem_of_getElem? (i := 405) (by decide +kernel), List.mem_of_getElem? (i := 406) (by decide +kernel)⟩
theorem lw_p12 : lw_okq (⟨"KettleGuild", "passMinutes", "(I)I"⟩, 7) := ⟨⟨by decide +kernel, by decide +kernel⟩, List.mem_of_getElem? (i := 20) (by decide +kernel), List.mem_of_getElem? (i := 422) (by decide +kernel), List.mem_of_getElem? (i := 423) (by decide +kernel)⟩
theorem lw_p13 : lw_okq (⟨"KettleGuild$State", "passMinuteOver", "(I)Z"⟩, 18) := ⟨⟨by decide +kernel, by decide +kernel⟩, List.mem_of_getElem? (i := 28) (by decide +kernel), List.mem_of_getElem? (i := 430) (by decide +kernel), List.mem_of_getElem? (i := 431) (by decide +kernel)⟩
theorem lw_p14 : lw_okq (⟨"KettleGuild$State", "boilDry", "(I)V"⟩, 18) := ⟨⟨by decide +kernel, by decide +kernel⟩, List.mem_of_getElem? (i := 28) (by decide +kernel), List.mem_of_getElem? (i := 434) (by decide +kernel), List.mem_of_getElem? (i := 435) (by decide +kernel)⟩
theorem lw_p15 : lw_okq (⟨"KettleGuild$State", "changeTemperature", "(I)V"⟩, 18) := ⟨⟨by decide +kernel, by decide +kernel⟩, List.mem_of_getElem? (i := 28) (by decide +kernel), List.mem_of_getElem? (i := 438) (by decide +kernel), List.mem_of_getElem? (i := 439) (by decide +kernel)⟩
def lw_privs_1 : List (MethodName × Nat) := [(⟨"KettleGuild", "takePitch", "(II)I"⟩, 7), (⟨"KettleGuild", "refuse", "(II)I"⟩, 7), (⟨"KettleGuild", "settle", "(I)I"⟩, 7), (⟨"KettleGuild", "bringKettle", "(III)I"⟩, 7), (⟨"KettleGuild", "pourWater", "(II)I"⟩, 7), (⟨"KettleGuild", "isKettle", "(I)Z"⟩, 7), (⟨"KettleGuild", "putOnStove", "(II)I"⟩, 7), (⟨"KettleGuild", "refuseStove", "(III)I"⟩, 7), (⟨"KettleGuild", "takeOffStove", "(I)I"⟩, 7), (⟨"KettleGuild", "turnStove", "(II)I"⟩, 7), (⟨"KettleGuild", "moveLid", "(II)I"⟩, 7), (⟨"KettleGuild", "makeAppeal", "(II)I"⟩, 7), (⟨"KettleGuild", "passMinutes", "(I)I"⟩, 7), (⟨"KettleGuild$State", "passMinuteOver", "(I)Z"⟩, 18), (⟨"KettleGuild$State", "boilDry", "(I)V"⟩, 18), (⟨"KettleGuild$State", "changeTemperature", "(I)V"⟩, 18)]
theorem lw_r1 : ∀ q ∈ lw_privs_1, lw_okq q := List.forall_mem_cons.mpr ⟨lw_p0, List.forall_mem_cons.mpr ⟨lw_p1, List.forall_mem_cons.mpr ⟨lw_p2, List.forall_mem_cons.mpr ⟨lw_p3, List.forall_mem_cons.mpr ⟨lw_p4, List.forall_mem_cons.mpr ⟨lw_p5, List.forall_mem_cons.mpr ⟨lw_p6, List.forall_mem_cons.mpr ⟨lw_p7, List.forall_mem_cons.mpr ⟨lw_p8, List.forall_mem_cons.mpr ⟨lw_p9, List.forall_mem_cons.mpr ⟨lw_p10, List.forall_mem_cons.mpr ⟨lw_p11, List.forall_mem_cons.mpr ⟨lw_p12, List.forall_mem_cons.mpr ⟨lw_p13, List.forall_mem_cons.mpr ⟨lw_p14, List.forall_mem_cons.mpr ⟨lw_p15, fun _ h => absurd h List.not_mem_nil⟩⟩⟩⟩⟩⟩⟩⟩⟩⟩⟩⟩⟩⟩⟩⟩
theorem lw_p16 : lw_okq (⟨"KettleGuild", "countAheadOfMember", "(I)I"⟩, 7) := ⟨⟨by decide +kernel, by decide +kernel⟩, List.mem_of_getElem? (i := 20) (by decide +kernel), List.mem_of_getElem? (i := 514) (by decide +kernel), List.mem_of_getElem? (i := 515) (by decide +kernel)⟩
theorem lw_p17 : lw_okq (⟨"KettleGuild", "isMemberAhead", "(II)Z"⟩, 7) := ⟨⟨by decide +kernel, by decide +kernel⟩, List.mem_of_getElem? (i := 20) (by decide +kernel), List.mem_of_getElem? (i := 518) (by decide +kernel), List.mem_of_getElem? (i := 519) (by decide +kernel)⟩
theorem lw_p18 : lw_okq (⟨"KettleGuild", "countAheadOfKettle", "(I)I"⟩, 7) := ⟨⟨by decide +kernel, by decide +kernel⟩, List.mem_of_getElem? (i := 20) (by decide +kernel), List.mem_of_getElem? (i := 529) (by decide +kernel), List.mem_of_getElem? (i := 530) (by decide +kernel)⟩
theorem lw_p19 : lw_okq (⟨"KettleGuild", "isKettleAhead", "(II)Z"⟩, 7) := ⟨⟨by decide +kernel, by decide +kernel⟩, List.mem_of_getElem? (i := 20) (by decide +kernel), List.mem_of_getElem? (i := 533) (by decide +kernel), List.mem_of_getElem? (i := 534) (by decide +kernel)⟩
theorem lw_p20 : lw_okq (⟨"KettleGuild$Orders", "readOrder", "(I)Z"⟩, 6) := ⟨⟨by decide +kernel, by decide +kernel⟩, List.mem_of_getElem? (i := 150) (by decide +kernel), List.mem_of_getElem? (i := 553) (by decide +kernel), List.mem_of_getElem? (i := 554) (by decide +kernel)⟩
theorem lw_p21 : lw_okq (⟨"KettleGuild$Orders", "readForm", "(Ljava/lang/String;I)Z"⟩, 6) := ⟨⟨by decide +kernel, by decide +kernel⟩, List.mem_of_getElem? (i := 150) (by decide +kernel), List.mem_of_getElem? (i := 569) (by decide +kernel), List.mem_of_getElem? (i := 570) (by decide +kernel)⟩
theorem lw_p22 : lw_okq (⟨"KettleGuild$Orders", "readNumber", "(C)I"⟩, 6) := ⟨⟨by decide +kernel, by decide +kernel⟩, List.mem_of_getElem? (i := 150) (by decide +kernel), List.mem_of_getElem? (i := 620) (by decide +kernel), List.mem_of_getElem? (i := 621) (by decide +kernel)⟩
theorem lw_p23 : lw_okq (⟨"KettleGuild$Orders", "signAtPlace", "()I"⟩, 6) := ⟨⟨by decide +kernel, by decide +kernel⟩, List.mem_of_getElem? (i := 150) (by decide +kernel), List.mem_of_getElem? (i := 624) (by decide +kernel), List.mem_of_getElem? (i := 625) (by decide +kernel)⟩
theorem lw_p24 : lw_okq (⟨"KettleGuild$Orders", "isAtPlace", "(C)Z"⟩, 6) := ⟨⟨by decide +kernel, by decide +kernel⟩, List.mem_of_getElem? (i := 150) (by decide +kernel), List.mem_of_getElem? (i := 628) (by decide +kernel), List.mem_of_getElem? (i := 629) (by decide +kernel)⟩
theorem lw_p25 : lw_okq (⟨"KettleGuild$Orders", "digitAtPlace", "()I"⟩, 6) := ⟨⟨by decide +kernel, by decide +kernel⟩, List.mem_of_getElem? (i := 150) (by decide +kernel), List.mem_of_getElem? (i := 632) (by decide +kernel), List.mem_of_getElem? (i := 633) (by decide +kernel)⟩
theorem lw_p26 : lw_okq (⟨"KettleGuild", "carryOut", "(I)I"⟩, 7) := ⟨⟨by decide +kernel, by decide +kernel⟩, List.mem_of_getElem? (i := 20) (by decide +kernel), List.mem_of_getElem? (i := 641) (by decide +kernel), List.mem_of_getElem? (i := 642) (by decide +kernel)⟩
theorem lw_p27 : lw_okq (⟨"KettleGuild", "refuseOrder", "(II)I"⟩, 7) := ⟨⟨by decide +kernel, by decide +kernel⟩, List.mem_of_getElem? (i := 20) (by decide +kernel), List.mem_of_getElem? (i := 657) (by decide +kernel), List.mem_of_getElem? (i := 658) (by decide +kernel)⟩
theorem lw_p28 : lw_okq (⟨"KettleGuild", "tellSigns", "(I)V"⟩, 7) := ⟨⟨by decide +kernel, by decide +kernel⟩, List.mem_of_getElem? (i := 20) (by decide +kernel), List.mem_of_getElem? (i := 788) (by decide +kernel), List.mem_of_getElem? (i := 789) (by decide +kernel)⟩
theorem lw_p29 : lw_okq (⟨"KettleGuild", "isBoilingSame", "()Z"⟩, 7) := ⟨⟨by decide +kernel, by decide +kernel⟩, List.mem_of_getElem? (i := 20) (by decide +kernel), List.mem_of_getElem? (i := 846) (by decide +kernel), List.mem_of_getElem? (i := 847) (by decide +kernel)⟩
theorem lw_p30 : lw_okq (⟨"KettleGuildModel", "begins", "()V"⟩, 14) := ⟨⟨by decide +kernel, by decide +kernel⟩, List.mem_of_getElem? (i := 881) (by decide +kernel), List.mem_of_getElem? (i := 941) (by decide +kernel), List.mem_of_getElem? (i := 942) (by decide +kernel)⟩
theorem lw_p31 : lw_okq (⟨"KettleGuildModel", "copies", "(II)V"⟩, 14) := ⟨⟨by decide +kernel, by decide +kernel⟩, List.mem_of_getElem? (i := 881) (by decide +kernel), List.mem_of_getElem? (i := 945) (by decide +kernel), List.mem_of_getElem? (i := 946) (by decide +kernel)⟩
def lw_privs_2 : List (MethodName × Nat) := [(⟨"KettleGuild", "countAheadOfMember", "(I)I"⟩, 7), (⟨"KettleGuild", "isMemberAhead", "(II)Z"⟩, 7), (⟨"KettleGuild", "countAheadOfKettle", "(I)I"⟩, 7), (⟨"KettleGuild", "isKettleAhead", "(II)Z"⟩, 7), (⟨"KettleGuild$Orders", "readOrder", "(I)Z"⟩, 6), (⟨"KettleGuild$Orders", "readForm", "(Ljava/lang/String;I)Z"⟩, 6), (⟨"KettleGuild$Orders", "readNumber", "(C)I"⟩, 6), (⟨"KettleGuild$Orders", "signAtPlace", "()I"⟩, 6), (⟨"KettleGuild$Orders", "isAtPlace", "(C)Z"⟩, 6), (⟨"KettleGuild$Orders", "digitAtPlace", "()I"⟩, 6), (⟨"KettleGuild", "carryOut", "(I)I"⟩, 7), (⟨"KettleGuild", "refuseOrder", "(II)I"⟩, 7), (⟨"KettleGuild", "tellSigns", "(I)V"⟩, 7), (⟨"KettleGuild", "isBoilingSame", "()Z"⟩, 7), (⟨"KettleGuildModel", "begins", "()V"⟩, 14), (⟨"KettleGuildModel", "copies", "(II)V"⟩, 14)]
theorem lw_r2 : ∀ q ∈ lw_privs_2, lw_okq q := List.forall_mem_cons.mpr ⟨lw_p16, List.forall_mem_cons.mpr ⟨lw_p17, List.forall_mem_cons.mpr ⟨lw_p18, List.forall_mem_cons.mpr ⟨lw_p19, List.forall_mem_cons.mpr ⟨lw_p20, List.forall_mem_cons.mpr ⟨lw_p21, List.forall_mem_cons.mpr ⟨lw_p22, List.forall_mem_cons.mpr ⟨lw_p23, List.forall_mem_cons.mpr ⟨lw_p24, List.forall_mem_cons.mpr ⟨lw_p25, List.forall_mem_cons.mpr ⟨lw_p26, List.forall_mem_cons.mpr ⟨lw_p27, List.forall_mem_cons.mpr ⟨lw_p28, List.forall_mem_cons.mpr ⟨lw_p29, List.forall_mem_cons.mpr ⟨lw_p30, List.forall_mem_cons.mpr ⟨lw_p31, fun _ h => absurd h List.not_mem_nil⟩⟩⟩⟩⟩⟩⟩⟩⟩⟩⟩⟩⟩⟩⟩⟩
theorem lw_p32 : lw_okq (⟨"KettleGuildModel", "owns", "(II)I"⟩, 14) := ⟨⟨by decide +kernel, by decide +kernel⟩, List.mem_of_getElem? (i := 881) (by decide +kernel), List.mem_of_getElem? (i := 949) (by decide +kernel), List.mem_of_getElem? (i := 950) (by decide +kernel)⟩
theorem lw_p33 : lw_okq (⟨"KettleGuildModel", "ownerOf", "(I)I"⟩, 14) := ⟨⟨by decide +kernel, by decide +kernel⟩, List.mem_of_getElem? (i := 881) (by decide +kernel), List.mem_of_getElem? (i := 959) (by decide +kernel), List.mem_of_getElem? (i := 960) (by decide +kernel)⟩
theorem lw_p34 : lw_okq (⟨"KettleGuildModel", "refuses", "(ZII)Z"⟩, 14) := ⟨⟨by decide +kernel, by decide +kernel⟩, List.mem_of_getElem? (i := 881) (by decide +kernel), List.mem_of_getElem? (i := 963) (by decide +kernel), List.mem_of_getElem? (i := 964) (by decide +kernel)⟩
theorem lw_p35 : lw_okq (⟨"KettleGuildModel", "pitchesOf", "(I)I"⟩, 14) := ⟨⟨by decide +kernel, by decide +kernel⟩, List.mem_of_getElem? (i := 881) (by decide +kernel), List.mem_of_getElem? (i := 967) (by decide +kernel), List.mem_of_getElem? (i := 968) (by decide +kernel)⟩
theorem lw_p36 : lw_okq (⟨"KettleGuildModel", "ends", "(I)I"⟩, 14) := ⟨⟨by decide +kernel, by decide +kernel⟩, List.mem_of_getElem? (i := 881) (by decide +kernel), List.mem_of_getElem? (i := 971) (by decide +kernel), List.mem_of_getElem? (i := 972) (by decide +kernel)⟩
theorem lw_p37 : lw_okq (⟨"KettleGuildModel", "brings", "(III)I"⟩, 14) := ⟨⟨by decide +kernel, by decide +kernel⟩, List.mem_of_getElem? (i := 881) (by decide +kernel), List.mem_of_getElem? (i := 979) (by decide +kernel), List.mem_of_getElem? (i := 980) (by decide +kernel)⟩
theorem lw_p38 : lw_okq (⟨"KettleGuildModel", "puts", "(III)V"⟩, 14) := ⟨⟨by decide +kernel, by decide +kernel⟩, List.mem_of_getElem? (i := 881) (by decide +kernel), List.mem_of_getElem? (i := 983) (by decide +kernel), List.mem_of_getElem? (i := 984) (by decide +kernel)⟩
theorem lw_p39 : lw_okq (⟨"KettleGuildModel", "fills", "(II)I"⟩, 14) := ⟨⟨by decide +kernel, by decide +kernel⟩, List.mem_of_getElem? (i := 881) (by decide +kernel), List.mem_of_getElem? (i := 991) (by decide +kernel), List.mem_of_getElem? (i := 992) (by decide +kernel)⟩
theorem lw_p40 : lw_okq (⟨"KettleGuildModel", "isKettle", "(I)Z"⟩, 14) := ⟨⟨by decide +kernel, by decide +kernel⟩, List.mem_of_getElem? (i := 881) (by decide +kernel), List.mem_of_getElem? (i := 995) (by decide +kernel), List.mem_of_getElem? (i := 996) (by decide +kernel)⟩
theorem lw_p41 : lw_okq (⟨"KettleGuildModel", "kt", "(II)I"⟩, 14) := ⟨⟨by decide +kernel, by decide +kernel⟩, List.mem_of_getElem? (i := 881) (by decide +kernel), List.mem_of_getElem? (i := 999) (by decide +kernel), List.mem_of_getElem? (i := 1000) (by decide +kernel)⟩
theorem lw_p42 : lw_okq (⟨"KettleGuildModel", "sets", "(II)I"⟩, 14) := ⟨⟨by decide +kernel, by decide +kernel⟩, List.mem_of_getElem? (i := 881) (by decide +kernel), List.mem_of_getElem? (i := 1007) (by decide +kernel), List.mem_of_getElem? (i := 1008) (by decide +kernel)⟩
theorem lw_p43 : lw_okq (⟨"KettleGuildModel", "kettleOn", "(I)I"⟩, 14) := ⟨⟨by decide +kernel, by decide +kernel⟩, List.mem_of_getElem? (i := 881) (by decide +kernel), List.mem_of_getElem? (i := 1014) (by decide +kernel), List.mem_of_getElem? (i := 1015) (by decide +kernel)⟩
theorem lw_p44 : lw_okq (⟨"KettleGuildModel", "stoveWith", "(I)I"⟩, 14) := ⟨⟨by decide +kernel, by decide +kernel⟩, List.mem_of_getElem? (i := 881) (by decide +kernel), List.mem_of_getElem? (i := 1018) (by decide +kernel), List.mem_of_getElem? (i := 1019) (by decide +kernel)⟩
theorem lw_p45 : lw_okq (⟨"KettleGuildModel", "isOnStove", "(I)Z"⟩, 14) := ⟨⟨by decide +kernel, by decide +kernel⟩, List.mem_of_getElem? (i := 881) (by decide +kernel), List.mem_of_getElem? (i := 1022) (by decide +kernel), List.mem_of_getElem? (i := 1023) (by decide +kernel)⟩
theorem lw_p46 : lw_okq (⟨"KettleGuildModel", "causes", "(II)V"⟩, 14) := ⟨⟨by decide +kernel, by decide +kernel⟩, List.mem_of_getElem? (i := 881) (by decide +kernel), List.mem_of_getElem? (i := 1026) (by decide +kernel), List.mem_of_getElem? (i := 1027) (by decide +kernel)⟩
theorem lw_p47 : lw_okq (⟨"KettleGuildModel", "onStoves", "()I"⟩, 14) := ⟨⟨by decide +kernel, by decide +kernel⟩, List.mem_of_getElem? (i := 881) (by decide +kernel), List.mem_of_getElem? (i := 1030) (by decide +kernel), List.mem_of_getElem? (i := 1031) (by decide +kernel)⟩
def lw_privs_3 : List (MethodName × Nat) := [(⟨"KettleGuildModel", "owns", "(II)I"⟩, 14), (⟨"KettleGuildModel", "ownerOf", "(I)I"⟩, 14), (⟨"KettleGuildModel", "refuses", "(ZII)Z"⟩, 14), (⟨"KettleGuildModel", "pitchesOf", "(I)I"⟩, 14), (⟨"KettleGuildModel", "ends", "(I)I"⟩, 14), (⟨"KettleGuildModel", "brings", "(III)I"⟩, 14), (⟨"KettleGuildModel", "puts", "(III)V"⟩, 14), (⟨"KettleGuildModel", "fills", "(II)I"⟩, 14), (⟨"KettleGuildModel", "isKettle", "(I)Z"⟩, 14), (⟨"KettleGuildModel", "kt", "(II)I"⟩, 14), (⟨"KettleGuildModel", "sets", "(II)I"⟩, 14), (⟨"KettleGuildModel", "kettleOn", "(I)I"⟩, 14), (⟨"KettleGuildModel", "stoveWith", "(I)I"⟩, 14), (⟨"KettleGuildModel", "isOnStove", "(I)Z"⟩, 14), (⟨"KettleGuildModel", "causes", "(II)V"⟩, 14), (⟨"KettleGuildModel", "onStoves", "()I"⟩, 14)]
theorem lw_r3 : ∀ q ∈ lw_privs_3, lw_okq q := List.forall_mem_cons.mpr ⟨lw_p32, List.forall_mem_cons.mpr ⟨lw_p33, List.forall_mem_cons.mpr ⟨lw_p34, List.forall_mem_cons.mpr ⟨lw_p35, List.forall_mem_cons.mpr ⟨lw_p36, List.forall_mem_cons.mpr ⟨lw_p37, List.forall_mem_cons.mpr ⟨lw_p38, List.forall_mem_cons.mpr ⟨lw_p39, List.forall_mem_cons.mpr ⟨lw_p40, List.forall_mem_cons.mpr ⟨lw_p41, List.forall_mem_cons.mpr ⟨lw_p42, List.forall_mem_cons.mpr ⟨lw_p43, List.forall_mem_cons.mpr ⟨lw_p44, List.forall_mem_cons.mpr ⟨lw_p45, List.forall_mem_cons.mpr ⟨lw_p46, List.forall_mem_cons.mpr ⟨lw_p47, fun _ h => absurd h List.not_mem_nil⟩⟩⟩⟩⟩⟩⟩⟩⟩⟩⟩⟩⟩⟩⟩⟩
theorem lw_p48 : lw_okq (⟨"KettleGuildModel", "takesOff", "(I)I"⟩, 14) := ⟨⟨by decide +kernel, by decide +kernel⟩, List.mem_of_getElem? (i := 881) (by decide +kernel), List.mem_of_getElem? (i := 1038) (by decide +kernel), List.mem_of_getElem? (i := 1039) (by decide +kernel)⟩
theorem lw_p49 : lw_okq (⟨"KettleGuildModel", "heats", "(II)I"⟩, 14) := ⟨⟨by decide +kernel, by decide +kernel⟩, List.mem_of_getElem? (i := 881) (by decide +kernel), List.mem_of_getElem? (i := 1046) (by decide +kernel), List.mem_of_getElem? (i := 1047) (by decide +kernel)⟩
theorem lw_p50 : lw_okq (⟨"KettleGuildModel", "putsLid", "(II)I"⟩, 14) := ⟨⟨by decide +kernel, by decide +kernel⟩, List.mem_of_getElem? (i := 881) (by decide +kernel), List.mem_of_getElem? (i := 1054) (by decide +kernel), List.mem_of_getElem? (i := 1055) (by decide +kernel)⟩
theorem lw_p51 : lw_okq (⟨"KettleGuildModel", "lidsOn", "()I"⟩, 14) := ⟨⟨by decide +kernel, by decide +kernel⟩, List.mem_of_getElem? (i := 881) (by decide +kernel), List.mem_of_getElem? (i := 1058) (by decide +kernel), List.mem_of_getElem? (i := 1059) (by decide +kernel)⟩
theorem lw_p52 : lw_okq (⟨"KettleGuildModel", "appeals", "(II)I"⟩, 14) := ⟨⟨by decide +kernel, by decide +kernel⟩, List.mem_of_getElem? (i := 881) (by decide +kernel), List.mem_of_getElem? (i := 1066) (by decide +kernel), List.mem_of_getElem? (i := 1067) (by decide +kernel)⟩
theorem lw_p53 : lw_okq (⟨"KettleGuildModel", "passes", "(I)I"⟩, 14) := ⟨⟨by decide +kernel, by decide +kernel⟩, List.mem_of_getElem? (i := 881) (by decide +kernel), List.mem_of_getElem? (i := 1077) (by decide +kernel), List.mem_of_getElem? (i := 1078) (by decide +kernel)⟩
theorem lw_p54 : lw_okq (⟨"KettleGuildModel", "goesBy", "()I"⟩, 14) := ⟨⟨by decide +kernel, by decide +kernel⟩, List.mem_of_getElem? (i := 881) (by decide +kernel), List.mem_of_getElem? (i := 1081) (by decide +kernel), List.mem_of_getElem? (i := 1082) (by decide +kernel)⟩
theorem lw_p55 : lw_okq (⟨"KettleGuildModel", "boils", "(I)Z"⟩, 14) := ⟨⟨by decide +kernel, by decide +kernel⟩, List.mem_of_getElem? (i := 881) (by decide +kernel), List.mem_of_getElem? (i := 1085) (by decide +kernel), List.mem_of_getElem? (i := 1086) (by decide +kernel)⟩
theorem lw_p56 : lw_okq (⟨"KettleGuildModel", "heatUnder", "(I)I"⟩, 14) := ⟨⟨by decide +kernel, by decide +kernel⟩, List.mem_of_getElem? (i := 881) (by decide +kernel), List.mem_of_getElem? (i := 1089) (by decide +kernel), List.mem_of_getElem? (i := 1090) (by decide +kernel)⟩
theorem lw_p57 : lw_okq (⟨"KettleGuildModel", "boilsOn", "(I)Z"⟩, 14) := ⟨⟨by decide +kernel, by decide +kernel⟩, List.mem_of_getElem? (i := 881) (by decide +kernel), List.mem_of_getElem? (i := 1093) (by decide +kernel), List.mem_of_getElem? (i := 1094) (by decide +kernel)⟩
theorem lw_p58 : lw_okq (⟨"KettleGuildModel", "sounds", "()V"⟩, 14) := ⟨⟨by decide +kernel, by decide +kernel⟩, List.mem_of_getElem? (i := 881) (by decide +kernel), List.mem_of_getElem? (i := 1097) (by decide +kernel), List.mem_of_getElem? (i := 1098) (by decide +kernel)⟩
theorem lw_p59 : lw_okq (⟨"KettleGuildModel", "whistles", "(I)Z"⟩, 14) := ⟨⟨by decide +kernel, by decide +kernel⟩, List.mem_of_getElem? (i := 881) (by decide +kernel), List.mem_of_getElem? (i := 1101) (by decide +kernel), List.mem_of_getElem? (i := 1102) (by decide +kernel)⟩
theorem lw_p60 : lw_okq (⟨"KettleGuildModel", "minutesTo", "(I)I"⟩, 14) := ⟨⟨by decide +kernel, by decide +kernel⟩, List.mem_of_getElem? (i := 881) (by decide +kernel), List.mem_of_getElem? (i := 1137) (by decide +kernel), List.mem_of_getElem? (i := 1138) (by decide +kernel)⟩
theorem lw_p61 : lw_okq (⟨"KettleGuildModel", "fits", "(I)I"⟩, 14) := ⟨⟨by decide +kernel, by decide +kernel⟩, List.mem_of_getElem? (i := 881) (by decide +kernel), List.mem_of_getElem? (i := 1154) (by decide +kernel), List.mem_of_getElem? (i := 1155) (by decide +kernel)⟩
theorem lw_p62 : lw_okq (⟨"KettleGuildModel", "m", "(II)I"⟩, 14) := ⟨⟨by decide +kernel, by decide +kernel⟩, List.mem_of_getElem? (i := 881) (by decide +kernel), List.mem_of_getElem? (i := 1162) (by decide +kernel), List.mem_of_getElem? (i := 1163) (by decide +kernel)⟩
theorem lw_p63 : lw_okq (⟨"KettleGuildModel", "kettlesOf", "(IZ)I"⟩, 14) := ⟨⟨by decide +kernel, by decide +kernel⟩, List.mem_of_getElem? (i := 881) (by decide +kernel), List.mem_of_getElem? (i := 1166) (by decide +kernel), List.mem_of_getElem? (i := 1167) (by decide +kernel)⟩
def lw_privs_4 : List (MethodName × Nat) := [(⟨"KettleGuildModel", "takesOff", "(I)I"⟩, 14), (⟨"KettleGuildModel", "heats", "(II)I"⟩, 14), (⟨"KettleGuildModel", "putsLid", "(II)I"⟩, 14), (⟨"KettleGuildModel", "lidsOn", "()I"⟩, 14), (⟨"KettleGuildModel", "appeals", "(II)I"⟩, 14), (⟨"KettleGuildModel", "passes", "(I)I"⟩, 14), (⟨"KettleGuildModel", "goesBy", "()I"⟩, 14), (⟨"KettleGuildModel", "boils", "(I)Z"⟩, 14), (⟨"KettleGuildModel", "heatUnder", "(I)I"⟩, 14), (⟨"KettleGuildModel", "boilsOn", "(I)Z"⟩, 14), (⟨"KettleGuildModel", "sounds", "()V"⟩, 14), (⟨"KettleGuildModel", "whistles", "(I)Z"⟩, 14), (⟨"KettleGuildModel", "minutesTo", "(I)I"⟩, 14), (⟨"KettleGuildModel", "fits", "(I)I"⟩, 14), (⟨"KettleGuildModel", "m", "(II)I"⟩, 14), (⟨"KettleGuildModel", "kettlesOf", "(IZ)I"⟩, 14)]
theorem lw_r4 : ∀ q ∈ lw_privs_4, lw_okq q := List.forall_mem_cons.mpr ⟨lw_p48, List.forall_mem_cons.mpr ⟨lw_p49, List.forall_mem_cons.mpr ⟨lw_p50, List.forall_mem_cons.mpr ⟨lw_p51, List.forall_mem_cons.mpr ⟨lw_p52, List.forall_mem_cons.mpr ⟨lw_p53, List.forall_mem_cons.mpr ⟨lw_p54, List.forall_mem_cons.mpr ⟨lw_p55, List.forall_mem_cons.mpr ⟨lw_p56, List.forall_mem_cons.mpr ⟨lw_p57, List.forall_mem_cons.mpr ⟨lw_p58, List.forall_mem_cons.mpr ⟨lw_p59, List.forall_mem_cons.mpr ⟨lw_p60, List.forall_mem_cons.mpr ⟨lw_p61, List.forall_mem_cons.mpr ⟨lw_p62, List.forall_mem_cons.mpr ⟨lw_p63, fun _ h => absurd h List.not_mem_nil⟩⟩⟩⟩⟩⟩⟩⟩⟩⟩⟩⟩⟩⟩⟩⟩
theorem lw_p64 : lw_okq (⟨"KettleGuildModel", "parse", "()V"⟩, 14) := ⟨⟨by decide +kernel, by decide +kernel⟩, List.mem_of_getElem? (i := 881) (by decide +kernel), List.mem_of_getElem? (i := 1186) (by decide +kernel), List.mem_of_getElem? (i := 1187) (by decide +kernel)⟩
theorem lw_p65 : lw_okq (⟨"KettleGuildModel", "order", "()V"⟩, 14) := ⟨⟨by decide +kernel, by decide +kernel⟩, List.mem_of_getElem? (i := 881) (by decide +kernel), List.mem_of_getElem? (i := 1190) (by decide +kernel), List.mem_of_getElem? (i := 1191) (by decide +kernel)⟩
theorem lw_p66 : lw_okq (⟨"KettleGuildModel", "sign", "()I"⟩, 14) := ⟨⟨by decide +kernel, by decide +kernel⟩, List.mem_of_getElem? (i := 881) (by decide +kernel), List.mem_of_getElem? (i := 1194) (by decide +kernel), List.mem_of_getElem? (i := 1195) (by decide +kernel)⟩
theorem lw_p67 : lw_okq (⟨"KettleGuildModel", "word", "(I)I"⟩, 14) := ⟨⟨by decide +kernel, by decide +kernel⟩, List.mem_of_getElem? (i := 881) (by decide +kernel), List.mem_of_getElem? (i := 1198) (by decide +kernel), List.mem_of_getElem? (i := 1199) (by decide +kernel)⟩
theorem lw_p68 : lw_okq (⟨"KettleGuildModel", "signs", "(III)V"⟩, 14) := ⟨⟨by decide +kernel, by decide +kernel⟩, List.mem_of_getElem? (i := 881) (by decide +kernel), List.mem_of_getElem? (i := 1202) (by decide +kernel), List.mem_of_getElem? (i := 1203) (by decide +kernel)⟩
theorem lw_p69 : lw_okq (⟨"KettleGuildModel", "needs", "(I)V"⟩, 14) := ⟨⟨by decide +kernel, by decide +kernel⟩, List.mem_of_getElem? (i := 881) (by decide +kernel), List.mem_of_getElem? (i := 1206) (by decide +kernel), List.mem_of_getElem? (i := 1207) (by decide +kernel)⟩
theorem lw_p70 : lw_okq (⟨"KettleGuildModel", "number", "(I)I"⟩, 14) := ⟨⟨by decide +kernel, by decide +kernel⟩, List.mem_of_getElem? (i := 881) (by decide +kernel), List.mem_of_getElem? (i := 1210) (by decide +kernel), List.mem_of_getElem? (i := 1211) (by decide +kernel)⟩
theorem lw_p71 : lw_okq (⟨"KettleGuildModel", "plusOrMinus", "()I"⟩, 14) := ⟨⟨by decide +kernel, by decide +kernel⟩, List.mem_of_getElem? (i := 881) (by decide +kernel), List.mem_of_getElem? (i := 1214) (by decide +kernel), List.mem_of_getElem? (i := 1215) (by decide +kernel)⟩
theorem lw_p72 : lw_okq (⟨"KettleGuildModel", "does", "(I)I"⟩, 14) := ⟨⟨by decide +kernel, by decide +kernel⟩, List.mem_of_getElem? (i := 881) (by decide +kernel), List.mem_of_getElem? (i := 1218) (by decide +kernel), List.mem_of_getElem? (i := 1219) (by decide +kernel)⟩
theorem lw_p73 : lw_okq (⟨"KettleGuildModel", "writesNumber", "(I)V"⟩, 14) := ⟨⟨by decide +kernel, by decide +kernel⟩, List.mem_of_getElem? (i := 881) (by decide +kernel), List.mem_of_getElem? (i := 1226) (by decide +kernel), List.mem_of_getElem? (i := 1227) (by decide +kernel)⟩
theorem lw_p74 : lw_okq (⟨"KettleGuildModel", "writes", "(I)V"⟩, 14) := ⟨⟨by decide +kernel, by decide +kernel⟩, List.mem_of_getElem? (i := 881) (by decide +kernel), List.mem_of_getElem? (i := 1230) (by decide +kernel), List.mem_of_getElem? (i := 1231) (by decide +kernel)⟩
theorem lw_p75 : lw_okq (⟨"KettleGuildModel", "ofKettles", "(I)I"⟩, 14) := ⟨⟨by decide +kernel, by decide +kernel⟩, List.mem_of_getElem? (i := 881) (by decide +kernel), List.mem_of_getElem? (i := 1246) (by decide +kernel), List.mem_of_getElem? (i := 1247) (by decide +kernel)⟩
theorem lw_p76 : lw_okq (⟨"KettleGuildModel", "allPoints", "()I"⟩, 14) := ⟨⟨by decide +kernel, by decide +kernel⟩, List.mem_of_getElem? (i := 881) (by decide +kernel), List.mem_of_getElem? (i := 1250) (by decide +kernel), List.mem_of_getElem? (i := 1251) (by decide +kernel)⟩
def lw_privs_5 : List (MethodName × Nat) := [(⟨"KettleGuildModel", "parse", "()V"⟩, 14), (⟨"KettleGuildModel", "order", "()V"⟩, 14), (⟨"KettleGuildModel", "sign", "()I"⟩, 14), (⟨"KettleGuildModel", "word", "(I)I"⟩, 14), (⟨"KettleGuildModel", "signs", "(III)V"⟩, 14), (⟨"KettleGuildModel", "needs", "(I)V"⟩, 14), (⟨"KettleGuildModel", "number", "(I)I"⟩, 14), (⟨"KettleGuildModel", "plusOrMinus", "()I"⟩, 14), (⟨"KettleGuildModel", "does", "(I)I"⟩, 14), (⟨"KettleGuildModel", "writesNumber", "(I)V"⟩, 14), (⟨"KettleGuildModel", "writes", "(I)V"⟩, 14), (⟨"KettleGuildModel", "ofKettles", "(I)I"⟩, 14), (⟨"KettleGuildModel", "allPoints", "()I"⟩, 14)]
theorem lw_r5 : ∀ q ∈ lw_privs_5, lw_okq q := List.forall_mem_cons.mpr ⟨lw_p64, List.forall_mem_cons.mpr ⟨lw_p65, List.forall_mem_cons.mpr ⟨lw_p66, List.forall_mem_cons.mpr ⟨lw_p67, List.forall_mem_cons.mpr ⟨lw_p68, List.forall_mem_cons.mpr ⟨lw_p69, List.forall_mem_cons.mpr ⟨lw_p70, List.forall_mem_cons.mpr ⟨lw_p71, List.forall_mem_cons.mpr ⟨lw_p72, List.forall_mem_cons.mpr ⟨lw_p73, List.forall_mem_cons.mpr ⟨lw_p74, List.forall_mem_cons.mpr ⟨lw_p75, List.forall_mem_cons.mpr ⟨lw_p76, fun _ h => absurd h List.not_mem_nil⟩⟩⟩⟩⟩⟩⟩⟩⟩⟩⟩⟩⟩
def lw_privs : List (MethodName × Nat) := lw_privs_1 ++ (lw_privs_2 ++ (lw_privs_3 ++ (lw_privs_4 ++ (lw_privs_5))))
def lw_tbl : List Cond := k2_sels lw_privs ++ tables_1
theorem lw_privs_ok : ∀ q ∈ lw_privs, lw_okq q := by
  show ∀ q ∈ lw_privs_1 ++ (lw_privs_2 ++ (lw_privs_3 ++ (lw_privs_4 ++ (lw_privs_5)))), lw_okq q
  exact List.forall_mem_append.mpr ⟨lw_r1, List.forall_mem_append.mpr ⟨lw_r2, List.forall_mem_append.mpr ⟨lw_r3, List.forall_mem_append.mpr ⟨lw_r4, lw_r5⟩⟩⟩⟩
/-- the streams that the claim lets the run draw from -/
abbrev lw_cs : List Choice := [Jvm.Choice.named "NaN.bits"]
theorem lw_bits : nanBits ∈ lw_cs := by first | decide | exact List.mem_cons_self | simp [lw_cs, nanBits]
end
section
def RX0 : String := "KettleGuild$History"
def TX0 : u_T := fun k => match k with
  | 0 => ("KettleGuild$History", "states", "[LKettleGuild$State;", true)
  | 1 => ("KettleGuild$History", "begun", "I", false)
  | _ => ("KettleGuild$History", "count", "I", false)
def tyX0 : Nat → FieldType := fun k => match k with
  | 0 => .array (.object "KettleGuild$State")
  | 1 => .int
  | _ => .int
abbrev wsX00 : List Cond := u_ws RX0 TX0 3
theorem nmX0 : ∀ a, a < 3 → ∀ b, b < 3 → a ≠ b → (TX0 a).2.1 ≠ (TX0 b).2.1 := by decide +kernel
theorem tyX0_ok : ∀ k, k < 3 → parseFieldDescriptor (TX0 k).2.2.1 = some (tyX0 k) := by decide +kernel
abbrev cX0_init : ByteArray := prog_2_method_1_code
def yX0_init : MethodName := ⟨RX0, "<init>", "()V"⟩
abbrev cX0_begin : ByteArray := prog_2_method_2_code
def yX0_begin : MethodName := ⟨RX0, "begin", "(LKettleGuild$State;)V"⟩
abbrev cX0_keepBegun : ByteArray := prog_2_method_3_code
def yX0_keepBegun : MethodName := ⟨RX0, "keepBegun", "()V"⟩
abbrev cX0_takeBackBegun : ByteArray := prog_2_method_4_code
def yX0_takeBackBegun : MethodName := ⟨RX0, "takeBackBegun", "(LKettleGuild$State;)V"⟩
abbrev cX0_takeBackLatest : ByteArray := prog_2_method_5_code
def yX0_takeBackLatest : MethodName := ⟨RX0, "takeBackLatest", "(LKettleGuild$State;)V"⟩
def RX1 : String := "KettleGuild$Orders"
def TX1 : u_T := fun k => match k with
  | 0 => ("KettleGuild$Orders", "text", "[C", true)
  | 1 => ("KettleGuild$Orders", "kinds", "[I", true)
  | 2 => ("KettleGuild$Orders", "numbers", "[I", true)
  | 3 => ("KettleGuild$Orders", "place", "I", false)
  | 4 => ("KettleGuild$Orders", "length", "I", false)
  | _ => ("KettleGuild$Orders", "count", "I", false)
def tyX1 : Nat → FieldType := fun k => match k with
  | 0 => .array .char
  | 1 => .array .int
  | 2 => .array .int
  | 3 => .int
  | 4 => .int
  | _ => .int
abbrev wsX10 : List Cond := u_ws RX1 TX1 6
theorem nmX1 : ∀ a, a < 6 → ∀ b, b < 6 → a ≠ b → (TX1 a).2.1 ≠ (TX1 b).2.1 := by decide +kernel
theorem tyX1_ok : ∀ k, k < 6 → parseFieldDescriptor (TX1 k).2.2.1 = some (tyX1 k) := by decide +kernel
abbrev cX1_init : ByteArray := prog_3_method_1_code
def yX1_init : MethodName := ⟨RX1, "<init>", "()V"⟩
abbrev cX1_add : ByteArray := prog_3_method_2_code
def yX1_add : MethodName := ⟨RX1, "add", "(C)Z"⟩
abbrev cX1_empty : ByteArray := prog_3_method_3_code
def yX1_empty : MethodName := ⟨RX1, "empty", "()V"⟩
abbrev cX1_kindOf : ByteArray := prog_3_method_4_code
def yX1_kindOf : MethodName := ⟨RX1, "kindOf", "(I)I"⟩
abbrev cX1_numberOf : ByteArray := prog_3_method_5_code
def yX1_numberOf : MethodName := ⟨RX1, "numberOf", "(II)I"⟩
abbrev cX1_read : ByteArray := prog_3_method_6_code
def yX1_read : MethodName := ⟨RX1, "read", "()I"⟩
abbrev cX1_readOrder : ByteArray := prog_3_method_7_code
def yX1_readOrder : MethodName := ⟨RX1, "readOrder", "(I)Z"⟩
abbrev cX1_formOf : ByteArray := prog_3_method_8_code
def yX1_formOf : MethodName := ⟨RX1, "formOf", "(I)Ljava/lang/String;"⟩
abbrev cX1_readForm : ByteArray := prog_3_method_9_code
def yX1_readForm : MethodName := ⟨RX1, "readForm", "(Ljava/lang/String;I)Z"⟩
abbrev cX1_readNumber : ByteArray := prog_3_method_10_code
def yX1_readNumber : MethodName := ⟨RX1, "readNumber", "(C)I"⟩
abbrev cX1_isAtPlace : ByteArray := prog_3_method_11_code
def yX1_isAtPlace : MethodName := ⟨RX1, "isAtPlace", "(C)Z"⟩
abbrev cX1_digitAtPlace : ByteArray := prog_3_method_12_code
def yX1_digitAtPlace : MethodName := ⟨RX1, "digitAtPlace", "()I"⟩
abbrev cX1_signAtPlace : ByteArray := prog_3_method_13_code
def yX1_signAtPlace : MethodName := ⟨RX1, "signAtPlace", "()I"⟩
def RX2 : String := "KettleGuild$Reasons"
def TX2 : u_T := fun k => match k with
  | 0 => ("KettleGuild$Reasons", "numbers", "[I", true)
  | 1 => ("KettleGuild$Reasons", "details", "[I", true)
  | _ => ("KettleGuild$Reasons", "count", "I", false)
def tyX2 : Nat → FieldType := fun k => match k with
  | 0 => .array .int
  | 1 => .array .int
  | _ => .int
abbrev wsX20 : List Cond := u_ws RX2 TX2 3
theorem nmX2 : ∀ a, a < 3 → ∀ b, b < 3 → a ≠ b → (TX2 a).2.1 ≠ (TX2 b).2.1 := by decide +kernel
theorem tyX2_ok : ∀ k, k < 3 → parseFieldDescriptor (TX2 k).2.2.1 = some (tyX2 k) := by decide +kernel
abbrev cX2_init : ByteArray := prog_4_method_1_code
def yX2_init : MethodName := ⟨RX2, "<init>", "()V"⟩
abbrev cX2_putAhead : ByteArray := prog_4_method_2_code
def yX2_putAhead : MethodName := ⟨RX2, "putAhead", "(II)V"⟩
def RX3 : String := "KettleGuild$State"
def TX3 : u_T := fun k => match k with
  | 0 => ("KettleGuild$State", "owners", "[I", true)
  | 1 => ("KettleGuild$State", "points", "[I", true)
  | 2 => ("KettleGuild$State", "boiledDry", "[I", true)
  | 3 => ("KettleGuild$State", "appealsMade", "[I", true)
  | 4 => ("KettleGuild$State", "heats", "[I", true)
  | 5 => ("KettleGuild$State", "members", "[I", true)
  | 6 => ("KettleGuild$State", "pitches", "[I", true)
  | 7 => ("KettleGuild$State", "waters", "[I", true)
  | 8 => ("KettleGuild$State", "temperatures", "[I", true)
  | 9 => ("KettleGuild$State", "stoves", "[I", true)
  | 10 => ("KettleGuild$State", "bans", "[I", true)
  | 11 => ("KettleGuild$State", "lids", "[I", true)
  | 12 => ("KettleGuild$State", "bars", "[I", true)
  | 13 => ("KettleGuild$State", "appealers", "[I", true)
  | 14 => ("KettleGuild$State", "kettles", "I", false)
  | 15 => ("KettleGuild$State", "minutes", "I", false)
  | 16 => ("KettleGuild$State", "waterCome", "I", false)
  | _ => ("KettleGuild$State", "waterGone", "I", false)
def tyX3 : Nat → FieldType := fun k => match k with
  | 0 => .array .int
  | 1 => .array .int
  | 2 => .array .int
  | 3 => .array .int
  | 4 => .array .int
  | 5 => .array .int
  | 6 => .array .int
  | 7 => .array .int
  | 8 => .array .int
  | 9 => .array .int
  | 10 => .array .int
  | 11 => .array .int
  | 12 => .array .int
  | 13 => .array .int
  | 14 => .int
  | 15 => .int
  | 16 => .int
  | _ => .int
abbrev wsX30 : List Cond := u_ws RX3 TX3 18
theorem nmX3 : ∀ a, a < 18 → ∀ b, b < 18 → a ≠ b → (TX3 a).2.1 ≠ (TX3 b).2.1 := by decide +kernel
theorem tyX3_ok : ∀ k, k < 18 → parseFieldDescriptor (TX3 k).2.2.1 = some (tyX3 k) := by decide +kernel
abbrev cX3_init : ByteArray := prog_5_method_1_code
def yX3_init : MethodName := ⟨RX3, "<init>", "()V"⟩
abbrev cX3_copyFrom : ByteArray := prog_5_method_2_code
def yX3_copyFrom : MethodName := ⟨RX3, "copyFrom", "(LKettleGuild$State;)V"⟩
abbrev cX3_copyRow : ByteArray := prog_5_method_3_code
def yX3_copyRow : MethodName := ⟨RX3, "copyRow", "([I[I)V"⟩
abbrev cX3_addKettle : ByteArray := prog_5_method_4_code
def yX3_addKettle : MethodName := ⟨RX3, "addKettle", "(III)I"⟩
abbrev cX3_barLid : ByteArray := prog_5_method_5_code
def yX3_barLid : MethodName := ⟨RX3, "barLid", "(I)V"⟩
abbrev cX3_passMinute : ByteArray := prog_5_method_6_code
def yX3_passMinute : MethodName := ⟨RX3, "passMinute", "()I"⟩
abbrev cX3_passMinuteOver : ByteArray := prog_5_method_7_code
def yX3_passMinuteOver : MethodName := ⟨RX3, "passMinuteOver", "(I)Z"⟩
abbrev cX3_boilDry : ByteArray := prog_5_method_8_code
def yX3_boilDry : MethodName := ⟨RX3, "boilDry", "(I)V"⟩
abbrev cX3_changeTemperature : ByteArray := prog_5_method_9_code
def yX3_changeTemperature : MethodName := ⟨RX3, "changeTemperature", "(I)V"⟩
abbrev cX3_holdHarmony : ByteArray := prog_5_method_10_code
def yX3_holdHarmony : MethodName := ⟨RX3, "holdHarmony", "()V"⟩
abbrev cX3_heatUnder : ByteArray := prog_5_method_11_code
def yX3_heatUnder : MethodName := ⟨RX3, "heatUnder", "(I)I"⟩
abbrev cX3_boils : ByteArray := prog_5_method_12_code
def yX3_boils : MethodName := ⟨RX3, "boils", "(I)Z"⟩
abbrev cX3_whistles : ByteArray := prog_5_method_13_code
def yX3_whistles : MethodName := ⟨RX3, "whistles", "(I)Z"⟩
abbrev cX3_whistlers : ByteArray := prog_5_method_14_code
def yX3_whistlers : MethodName := ⟨RX3, "whistlers", "()I"⟩
abbrev cX3_whistledPitches : ByteArray := prog_5_method_15_code
def yX3_whistledPitches : MethodName := ⟨RX3, "whistledPitches", "()I"⟩
abbrev cX3_kettleOn : ByteArray := prog_5_method_16_code
def yX3_kettleOn : MethodName := ⟨RX3, "kettleOn", "(I)I"⟩
abbrev cX3_stoveWithPitch : ByteArray := prog_5_method_17_code
def yX3_stoveWithPitch : MethodName := ⟨RX3, "stoveWithPitch", "(I)I"⟩
abbrev cX3_hasPitchOnTwoStoves : ByteArray := prog_5_method_18_code
def yX3_hasPitchOnTwoStoves : MethodName := ⟨RX3, "hasPitchOnTwoStoves", "()Z"⟩
abbrev cX3_countPitchesOf : ByteArray := prog_5_method_19_code
def yX3_countPitchesOf : MethodName := ⟨RX3, "countPitchesOf", "(I)I"⟩
abbrev cX3_countKettlesOf : ByteArray := prog_5_method_20_code
def yX3_countKettlesOf : MethodName := ⟨RX3, "countKettlesOf", "(I)I"⟩
abbrev cX3_countWhistlersOf : ByteArray := prog_5_method_21_code
def yX3_countWhistlersOf : MethodName := ⟨RX3, "countWhistlersOf", "(I)I"⟩
abbrev cX3_countOnStoves : ByteArray := prog_5_method_22_code
def yX3_countOnStoves : MethodName := ⟨RX3, "countOnStoves", "()I"⟩
abbrev cX3_countBoiling : ByteArray := prog_5_method_23_code
def yX3_countBoiling : MethodName := ⟨RX3, "countBoiling", "()I"⟩
abbrev cX3_countLidsOn : ByteArray := prog_5_method_24_code
def yX3_countLidsOn : MethodName := ⟨RX3, "countLidsOn", "()I"⟩
abbrev cX3_countLidsBarred : ByteArray := prog_5_method_25_code
def yX3_countLidsBarred : MethodName := ⟨RX3, "countLidsBarred", "()I"⟩
abbrev cX3_sumWater : ByteArray := prog_5_method_26_code
def yX3_sumWater : MethodName := ⟨RX3, "sumWater", "()I"⟩
def RX4 : String := "KettleGuild"
def TX4 : u_T := fun k => match k with
  | 0 => ("KettleGuild", "now", "LKettleGuild$State;", true)
  | 1 => ("KettleGuild", "snapshot", "LKettleGuild$State;", true)
  | 2 => ("KettleGuild", "history", "LKettleGuild$History;", true)
  | 3 => ("KettleGuild", "reasons", "LKettleGuild$Reasons;", true)
  | 4 => ("KettleGuild", "orders", "LKettleGuild$Orders;", true)
  | 5 => ("KettleGuild", "line", "Ljava/lang/StringBuilder;", true)
  | _ => ("KettleGuild", "isSaved", "Z", false)
def tyX4 : Nat → FieldType := fun k => match k with
  | 0 => .object "KettleGuild$State"
  | 1 => .object "KettleGuild$State"
  | 2 => .object "KettleGuild$History"
  | 3 => .object "KettleGuild$Reasons"
  | 4 => .object "KettleGuild$Orders"
  | 5 => .object "java/lang/StringBuilder"
  | _ => .boolean
abbrev wsX40 : List Cond := u_ws RX4 TX4 7
theorem nmX4 : ∀ a, a < 7 → ∀ b, b < 7 → a ≠ b → (TX4 a).2.1 ≠ (TX4 b).2.1 := by decide +kernel
theorem tyX4_ok : ∀ k, k < 7 → parseFieldDescriptor (TX4 k).2.2.1 = some (tyX4 k) := by decide +kernel
abbrev cX4_init : ByteArray := prog_1_method_1_code
def yX4_init : MethodName := ⟨RX4, "<init>", "()V"⟩
abbrev cX4_own : ByteArray := prog_1_method_2_code
def yX4_own : MethodName := ⟨RX4, "own", "(II)I"⟩
abbrev cX4_owner : ByteArray := prog_1_method_3_code
def yX4_owner : MethodName := ⟨RX4, "owner", "(I)I"⟩
abbrev cX4_kettle : ByteArray := prog_1_method_4_code
def yX4_kettle : MethodName := ⟨RX4, "kettle", "(III)I"⟩
abbrev cX4_fill : ByteArray := prog_1_method_5_code
def yX4_fill : MethodName := ⟨RX4, "fill", "(II)I"⟩
abbrev cX4_kettleOf : ByteArray := prog_1_method_6_code
def yX4_kettleOf : MethodName := ⟨RX4, "kettleOf", "(II)I"⟩
abbrev cX4_set : ByteArray := prog_1_method_7_code
def yX4_set : MethodName := ⟨RX4, "set", "(II)I"⟩
abbrev cX4_off : ByteArray := prog_1_method_8_code
def yX4_off : MethodName := ⟨RX4, "off", "(I)I"⟩
abbrev cX4_heat : ByteArray := prog_1_method_9_code
def yX4_heat : MethodName := ⟨RX4, "heat", "(II)I"⟩
abbrev cX4_lid : ByteArray := prog_1_method_10_code
def yX4_lid : MethodName := ⟨RX4, "lid", "(II)I"⟩
abbrev cX4_appeal : ByteArray := prog_1_method_11_code
def yX4_appeal : MethodName := ⟨RX4, "appeal", "(II)I"⟩
abbrev cX4_stoveOf : ByteArray := prog_1_method_12_code
def yX4_stoveOf : MethodName := ⟨RX4, "stoveOf", "(IZ)I"⟩
abbrev cX4_minute : ByteArray := prog_1_method_13_code
def yX4_minute : MethodName := ⟨RX4, "minute", "(I)I"⟩
abbrev cX4_whistling : ByteArray := prog_1_method_14_code
def yX4_whistling : MethodName := ⟨RX4, "whistling", "()I"⟩
abbrev cX4_harmony : ByteArray := prog_1_method_15_code
def yX4_harmony : MethodName := ⟨RX4, "harmony", "()I"⟩
abbrev cX4_harmonyAgain : ByteArray := prog_1_method_16_code
def yX4_harmonyAgain : MethodName := ⟨RX4, "harmonyAgain", "()I"⟩
abbrev cX4_boilsIn : ByteArray := prog_1_method_17_code
def yX4_boilsIn : MethodName := ⟨RX4, "boilsIn", "(I)I"⟩
abbrev cX4_boilsInAgain : ByteArray := prog_1_method_18_code
def yX4_boilsInAgain : MethodName := ⟨RX4, "boilsInAgain", "(I)I"⟩
abbrev cX4_dryIn : ByteArray := prog_1_method_19_code
def yX4_dryIn : MethodName := ⟨RX4, "dryIn", "(I)I"⟩
abbrev cX4_bestPitch : ByteArray := prog_1_method_20_code
def yX4_bestPitch : MethodName := ⟨RX4, "bestPitch", "()I"⟩
abbrev cX4_memberOf : ByteArray := prog_1_method_21_code
def yX4_memberOf : MethodName := ⟨RX4, "memberOf", "(II)I"⟩
abbrev cX4_ranked : ByteArray := prog_1_method_22_code
def yX4_ranked : MethodName := ⟨RX4, "ranked", "(I)I"⟩
abbrev cX4_hottest : ByteArray := prog_1_method_23_code
def yX4_hottest : MethodName := ⟨RX4, "hottest", "(I)I"⟩
abbrev cX4_append : ByteArray := prog_1_method_24_code
def yX4_append : MethodName := ⟨RX4, "append", "(I)I"⟩
abbrev cX4_run : ByteArray := prog_1_method_25_code
def yX4_run : MethodName := ⟨RX4, "run", "()I"⟩
abbrev cX4_tell : ByteArray := prog_1_method_26_code
def yX4_tell : MethodName := ⟨RX4, "tell", "(I)I"⟩
abbrev cX4_tellStoves : ByteArray := prog_1_method_27_code
def yX4_tellStoves : MethodName := ⟨RX4, "tellStoves", "()I"⟩
abbrev cX4_character : ByteArray := prog_1_method_28_code
def yX4_character : MethodName := ⟨RX4, "character", "(I)I"⟩
abbrev cX4_reason : ByteArray := prog_1_method_29_code
def yX4_reason : MethodName := ⟨RX4, "reason", "(IZ)I"⟩
abbrev cX4_account : ByteArray := prog_1_method_30_code
def yX4_account : MethodName := ⟨RX4, "account", "(I)I"⟩
abbrev cX4_isBalanced : ByteArray := prog_1_method_31_code
def yX4_isBalanced : MethodName := ⟨RX4, "isBalanced", "()I"⟩
abbrev cX4_meanWater : ByteArray := prog_1_method_32_code
def yX4_meanWater : MethodName := ⟨RX4, "meanWater", "()D"⟩
abbrev cX4_whistleShare : ByteArray := prog_1_method_33_code
def yX4_whistleShare : MethodName := ⟨RX4, "whistleShare", "()F"⟩
abbrev cX4_undo : ByteArray := prog_1_method_34_code
def yX4_undo : MethodName := ⟨RX4, "undo", "()I"⟩
abbrev cX4_save : ByteArray := prog_1_method_35_code
def yX4_save : MethodName := ⟨RX4, "save", "()I"⟩
abbrev cX4_restore : ByteArray := prog_1_method_36_code
def yX4_restore : MethodName := ⟨RX4, "restore", "()I"⟩
abbrev cX4_isMember : ByteArray := prog_1_method_37_code
def yX4_isMember : MethodName := ⟨RX4, "isMember", "(I)Z"⟩
abbrev cX4_isPitch : ByteArray := prog_1_method_38_code
def yX4_isPitch : MethodName := ⟨RX4, "isPitch", "(I)Z"⟩
abbrev cX4_isStove : ByteArray := prog_1_method_39_code
def yX4_isStove : MethodName := ⟨RX4, "isStove", "(I)Z"⟩
abbrev cX4_isKettle : ByteArray := prog_1_method_40_code
def yX4_isKettle : MethodName := ⟨RX4, "isKettle", "(I)Z"⟩
abbrev cX4_isIn : ByteArray := prog_1_method_41_code
def yX4_isIn : MethodName := ⟨RX4, "isIn", "(II)Z"⟩
abbrev cX4_orNothing : ByteArray := prog_1_method_42_code
def yX4_orNothing : MethodName := ⟨RX4, "orNothing", "(I)I"⟩
abbrev cX4_sumOf : ByteArray := prog_1_method_43_code
def yX4_sumOf : MethodName := ⟨RX4, "sumOf", "([I)I"⟩
abbrev cX4_soundOf : ByteArray := prog_1_method_44_code
def yX4_soundOf : MethodName := ⟨RX4, "soundOf", "(II)I"⟩
abbrev cX4_fitOf : ByteArray := prog_1_method_45_code
def yX4_fitOf : MethodName := ⟨RX4, "fitOf", "(II)I"⟩
abbrev cX4_isBoilingSame : ByteArray := prog_1_method_46_code
def yX4_isBoilingSame : MethodName := ⟨RX4, "isBoilingSame", "()Z"⟩
abbrev cX4_countAheadOfMember : ByteArray := prog_1_method_47_code
def yX4_countAheadOfMember : MethodName := ⟨RX4, "countAheadOfMember", "(I)I"⟩
abbrev cX4_isMemberAhead : ByteArray := prog_1_method_48_code
def yX4_isMemberAhead : MethodName := ⟨RX4, "isMemberAhead", "(II)Z"⟩
abbrev cX4_countAheadOfKettle : ByteArray := prog_1_method_49_code
def yX4_countAheadOfKettle : MethodName := ⟨RX4, "countAheadOfKettle", "(I)I"⟩
abbrev cX4_isKettleAhead : ByteArray := prog_1_method_50_code
def yX4_isKettleAhead : MethodName := ⟨RX4, "isKettleAhead", "(II)Z"⟩
abbrev cX4_settle : ByteArray := prog_1_method_51_code
def yX4_settle : MethodName := ⟨RX4, "settle", "(I)I"⟩
abbrev cX4_takePitch : ByteArray := prog_1_method_52_code
def yX4_takePitch : MethodName := ⟨RX4, "takePitch", "(II)I"⟩
abbrev cX4_bringKettle : ByteArray := prog_1_method_53_code
def yX4_bringKettle : MethodName := ⟨RX4, "bringKettle", "(III)I"⟩
abbrev cX4_pourWater : ByteArray := prog_1_method_54_code
def yX4_pourWater : MethodName := ⟨RX4, "pourWater", "(II)I"⟩
abbrev cX4_putOnStove : ByteArray := prog_1_method_55_code
def yX4_putOnStove : MethodName := ⟨RX4, "putOnStove", "(II)I"⟩
abbrev cX4_takeOffStove : ByteArray := prog_1_method_56_code
def yX4_takeOffStove : MethodName := ⟨RX4, "takeOffStove", "(I)I"⟩
abbrev cX4_turnStove : ByteArray := prog_1_method_57_code
def yX4_turnStove : MethodName := ⟨RX4, "turnStove", "(II)I"⟩
abbrev cX4_moveLid : ByteArray := prog_1_method_58_code
def yX4_moveLid : MethodName := ⟨RX4, "moveLid", "(II)I"⟩
abbrev cX4_makeAppeal : ByteArray := prog_1_method_59_code
def yX4_makeAppeal : MethodName := ⟨RX4, "makeAppeal", "(II)I"⟩
abbrev cX4_passMinutes : ByteArray := prog_1_method_60_code
def yX4_passMinutes : MethodName := ⟨RX4, "passMinutes", "(I)I"⟩
abbrev cX4_carryOut : ByteArray := prog_1_method_61_code
def yX4_carryOut : MethodName := ⟨RX4, "carryOut", "(I)I"⟩
abbrev cX4_refuse : ByteArray := prog_1_method_62_code
def yX4_refuse : MethodName := ⟨RX4, "refuse", "(II)I"⟩
abbrev cX4_refuseStove : ByteArray := prog_1_method_63_code
def yX4_refuseStove : MethodName := ⟨RX4, "refuseStove", "(III)I"⟩
abbrev cX4_refuseOrder : ByteArray := prog_1_method_64_code
def yX4_refuseOrder : MethodName := ⟨RX4, "refuseOrder", "(II)I"⟩
abbrev cX4_tellSigns : ByteArray := prog_1_method_65_code
def yX4_tellSigns : MethodName := ⟨RX4, "tellSigns", "(I)V"⟩
def RX5 : String := "KettleGuildModel"
def TX5 : u_T := fun k => match k with
  | 0 => ("KettleGuildModel", "all", "[I", true)
  | 1 => ("KettleGuildModel", "changes", "I", false)
  | 2 => ("KettleGuildModel", "isSaved", "Z", false)
  | 3 => ("KettleGuildModel", "whys", "[I", true)
  | 4 => ("KettleGuildModel", "details", "[I", true)
  | 5 => ("KettleGuildModel", "depths", "I", false)
  | 6 => ("KettleGuildModel", "input", "[C", true)
  | 7 => ("KettleGuildModel", "typed", "I", false)
  | 8 => ("KettleGuildModel", "here", "I", false)
  | 9 => ("KettleGuildModel", "fault", "I", false)
  | 10 => ("KettleGuildModel", "orders", "[I", true)
  | 11 => ("KettleGuildModel", "orderMany", "I", false)
  | 12 => ("KettleGuildModel", "laid", "[C", true)
  | _ => ("KettleGuildModel", "lineSize", "I", false)
def tyX5 : Nat → FieldType := fun k => match k with
  | 0 => .array .int
  | 1 => .int
  | 2 => .boolean
  | 3 => .array .int
  | 4 => .array .int
  | 5 => .int
  | 6 => .array .char
  | 7 => .int
  | 8 => .int
  | 9 => .int
  | 10 => .array .int
  | 11 => .int
  | 12 => .array .char
  | _ => .int
abbrev wsX50 : List Cond := u_ws RX5 TX5 14
theorem nmX5 : ∀ a, a < 14 → ∀ b, b < 14 → a ≠ b → (TX5 a).2.1 ≠ (TX5 b).2.1 := by decide +kernel
theorem tyX5_ok : ∀ k, k < 14 → parseFieldDescriptor (TX5 k).2.2.1 = some (tyX5 k) := by decide +kernel
abbrev cX5_init : ByteArray := prog_7_method_1_code
def yX5_init : MethodName := ⟨RX5, "<init>", "()V"⟩
abbrev cX5_in : ByteArray := prog_7_method_2_code
def yX5_in : MethodName := ⟨RX5, "in", "(III)Z"⟩
abbrev cX5_copies : ByteArray := prog_7_method_3_code
def yX5_copies : MethodName := ⟨RX5, "copies", "(II)V"⟩
abbrev cX5_begins : ByteArray := prog_7_method_4_code
def yX5_begins : MethodName := ⟨RX5, "begins", "()V"⟩
abbrev cX5_ends : ByteArray := prog_7_method_5_code
def yX5_ends : MethodName := ⟨RX5, "ends", "(I)I"⟩
abbrev cX5_refuses : ByteArray := prog_7_method_6_code
def yX5_refuses : MethodName := ⟨RX5, "refuses", "(ZII)Z"⟩
abbrev cX5_causes : ByteArray := prog_7_method_7_code
def yX5_causes : MethodName := ⟨RX5, "causes", "(II)V"⟩
abbrev cX5_reason : ByteArray := prog_7_method_8_code
def yX5_reason : MethodName := ⟨RX5, "reason", "(IZ)I"⟩
abbrev cX5_m : ByteArray := prog_7_method_9_code
def yX5_m : MethodName := ⟨RX5, "m", "(II)I"⟩
abbrev cX5_kt : ByteArray := prog_7_method_10_code
def yX5_kt : MethodName := ⟨RX5, "kt", "(II)I"⟩
abbrev cX5_puts : ByteArray := prog_7_method_11_code
def yX5_puts : MethodName := ⟨RX5, "puts", "(III)V"⟩
abbrev cX5_isKettle : ByteArray := prog_7_method_12_code
def yX5_isKettle : MethodName := ⟨RX5, "isKettle", "(I)Z"⟩
abbrev cX5_isMember : ByteArray := prog_7_method_13_code
def yX5_isMember : MethodName := ⟨RX5, "isMember", "(I)Z"⟩
abbrev cX5_isStove : ByteArray := prog_7_method_14_code
def yX5_isStove : MethodName := ⟨RX5, "isStove", "(I)Z"⟩
abbrev cX5_isPitch : ByteArray := prog_7_method_15_code
def yX5_isPitch : MethodName := ⟨RX5, "isPitch", "(I)Z"⟩
abbrev cX5_ownerOf : ByteArray := prog_7_method_16_code
def yX5_ownerOf : MethodName := ⟨RX5, "ownerOf", "(I)I"⟩
abbrev cX5_pitchesOf : ByteArray := prog_7_method_17_code
def yX5_pitchesOf : MethodName := ⟨RX5, "pitchesOf", "(I)I"⟩
abbrev cX5_isOnStove : ByteArray := prog_7_method_18_code
def yX5_isOnStove : MethodName := ⟨RX5, "isOnStove", "(I)Z"⟩
abbrev cX5_heatUnder : ByteArray := prog_7_method_19_code
def yX5_heatUnder : MethodName := ⟨RX5, "heatUnder", "(I)I"⟩
abbrev cX5_boils : ByteArray := prog_7_method_20_code
def yX5_boils : MethodName := ⟨RX5, "boils", "(I)Z"⟩
abbrev cX5_whistles : ByteArray := prog_7_method_21_code
def yX5_whistles : MethodName := ⟨RX5, "whistles", "(I)Z"⟩
abbrev cX5_onStoves : ByteArray := prog_7_method_22_code
def yX5_onStoves : MethodName := ⟨RX5, "onStoves", "()I"⟩
abbrev cX5_lidsOn : ByteArray := prog_7_method_23_code
def yX5_lidsOn : MethodName := ⟨RX5, "lidsOn", "()I"⟩
abbrev cX5_kettleOn : ByteArray := prog_7_method_24_code
def yX5_kettleOn : MethodName := ⟨RX5, "kettleOn", "(I)I"⟩
abbrev cX5_stoveWith : ByteArray := prog_7_method_25_code
def yX5_stoveWith : MethodName := ⟨RX5, "stoveWith", "(I)I"⟩
abbrev cX5_owns : ByteArray := prog_7_method_26_code
def yX5_owns : MethodName := ⟨RX5, "owns", "(II)I"⟩
abbrev cX5_own : ByteArray := prog_7_method_27_code
def yX5_own : MethodName := ⟨RX5, "own", "(II)I"⟩
abbrev cX5_brings : ByteArray := prog_7_method_28_code
def yX5_brings : MethodName := ⟨RX5, "brings", "(III)I"⟩
abbrev cX5_kettle : ByteArray := prog_7_method_29_code
def yX5_kettle : MethodName := ⟨RX5, "kettle", "(III)I"⟩
abbrev cX5_fills : ByteArray := prog_7_method_30_code
def yX5_fills : MethodName := ⟨RX5, "fills", "(II)I"⟩
abbrev cX5_fill : ByteArray := prog_7_method_31_code
def yX5_fill : MethodName := ⟨RX5, "fill", "(II)I"⟩
abbrev cX5_sets : ByteArray := prog_7_method_32_code
def yX5_sets : MethodName := ⟨RX5, "sets", "(II)I"⟩
abbrev cX5_set : ByteArray := prog_7_method_33_code
def yX5_set : MethodName := ⟨RX5, "set", "(II)I"⟩
abbrev cX5_takesOff : ByteArray := prog_7_method_34_code
def yX5_takesOff : MethodName := ⟨RX5, "takesOff", "(I)I"⟩
abbrev cX5_off : ByteArray := prog_7_method_35_code
def yX5_off : MethodName := ⟨RX5, "off", "(I)I"⟩
abbrev cX5_heats : ByteArray := prog_7_method_36_code
def yX5_heats : MethodName := ⟨RX5, "heats", "(II)I"⟩
abbrev cX5_heat : ByteArray := prog_7_method_37_code
def yX5_heat : MethodName := ⟨RX5, "heat", "(II)I"⟩
abbrev cX5_putsLid : ByteArray := prog_7_method_38_code
def yX5_putsLid : MethodName := ⟨RX5, "putsLid", "(II)I"⟩
abbrev cX5_lid : ByteArray := prog_7_method_39_code
def yX5_lid : MethodName := ⟨RX5, "lid", "(II)I"⟩
abbrev cX5_bits : ByteArray := prog_7_method_40_code
def yX5_bits : MethodName := ⟨RX5, "bits", "(I)I"⟩
abbrev cX5_appeals : ByteArray := prog_7_method_41_code
def yX5_appeals : MethodName := ⟨RX5, "appeals", "(II)I"⟩
abbrev cX5_appeal : ByteArray := prog_7_method_42_code
def yX5_appeal : MethodName := ⟨RX5, "appeal", "(II)I"⟩
abbrev cX5_sound : ByteArray := prog_7_method_43_code
def yX5_sound : MethodName := ⟨RX5, "sound", "(II)I"⟩
abbrev cX5_sounds : ByteArray := prog_7_method_44_code
def yX5_sounds : MethodName := ⟨RX5, "sounds", "()V"⟩
abbrev cX5_boilsOn : ByteArray := prog_7_method_45_code
def yX5_boilsOn : MethodName := ⟨RX5, "boilsOn", "(I)Z"⟩
abbrev cX5_goesBy : ByteArray := prog_7_method_46_code
def yX5_goesBy : MethodName := ⟨RX5, "goesBy", "()I"⟩
abbrev cX5_passes : ByteArray := prog_7_method_47_code
def yX5_passes : MethodName := ⟨RX5, "passes", "(I)I"⟩
abbrev cX5_minute : ByteArray := prog_7_method_48_code
def yX5_minute : MethodName := ⟨RX5, "minute", "(I)I"⟩
abbrev cX5_owner : ByteArray := prog_7_method_49_code
def yX5_owner : MethodName := ⟨RX5, "owner", "(I)I"⟩
abbrev cX5_kettleOf : ByteArray := prog_7_method_50_code
def yX5_kettleOf : MethodName := ⟨RX5, "kettleOf", "(II)I"⟩
abbrev cX5_stoveOf : ByteArray := prog_7_method_51_code
def yX5_stoveOf : MethodName := ⟨RX5, "stoveOf", "(IZ)I"⟩
abbrev cX5_whistling : ByteArray := prog_7_method_52_code
def yX5_whistling : MethodName := ⟨RX5, "whistling", "()I"⟩
abbrev cX5_harmony : ByteArray := prog_7_method_53_code
def yX5_harmony : MethodName := ⟨RX5, "harmony", "()I"⟩
abbrev cX5_harmonyAgain : ByteArray := prog_7_method_54_code
def yX5_harmonyAgain : MethodName := ⟨RX5, "harmonyAgain", "()I"⟩
abbrev cX5_minutesTo : ByteArray := prog_7_method_55_code
def yX5_minutesTo : MethodName := ⟨RX5, "minutesTo", "(I)I"⟩
abbrev cX5_boilsIn : ByteArray := prog_7_method_56_code
def yX5_boilsIn : MethodName := ⟨RX5, "boilsIn", "(I)I"⟩
abbrev cX5_boilsInAgain : ByteArray := prog_7_method_57_code
def yX5_boilsInAgain : MethodName := ⟨RX5, "boilsInAgain", "(I)I"⟩
abbrev cX5_dryIn : ByteArray := prog_7_method_58_code
def yX5_dryIn : MethodName := ⟨RX5, "dryIn", "(I)I"⟩
abbrev cX5_fits : ByteArray := prog_7_method_59_code
def yX5_fits : MethodName := ⟨RX5, "fits", "(I)I"⟩
abbrev cX5_bestPitch : ByteArray := prog_7_method_60_code
def yX5_bestPitch : MethodName := ⟨RX5, "bestPitch", "()I"⟩
abbrev cX5_kettlesOf : ByteArray := prog_7_method_61_code
def yX5_kettlesOf : MethodName := ⟨RX5, "kettlesOf", "(IZ)I"⟩
abbrev cX5_memberOf : ByteArray := prog_7_method_62_code
def yX5_memberOf : MethodName := ⟨RX5, "memberOf", "(II)I"⟩
abbrev cX5_ranked : ByteArray := prog_7_method_63_code
def yX5_ranked : MethodName := ⟨RX5, "ranked", "(I)I"⟩
abbrev cX5_hottest : ByteArray := prog_7_method_64_code
def yX5_hottest : MethodName := ⟨RX5, "hottest", "(I)I"⟩
abbrev cX5_append : ByteArray := prog_7_method_65_code
def yX5_append : MethodName := ⟨RX5, "append", "(I)I"⟩
abbrev cX5_sign : ByteArray := prog_7_method_66_code
def yX5_sign : MethodName := ⟨RX5, "sign", "()I"⟩
abbrev cX5_needs : ByteArray := prog_7_method_67_code
def yX5_needs : MethodName := ⟨RX5, "needs", "(I)V"⟩
abbrev cX5_signs : ByteArray := prog_7_method_68_code
def yX5_signs : MethodName := ⟨RX5, "signs", "(III)V"⟩
abbrev cX5_number : ByteArray := prog_7_method_69_code
def yX5_number : MethodName := ⟨RX5, "number", "(I)I"⟩
abbrev cX5_plusOrMinus : ByteArray := prog_7_method_70_code
def yX5_plusOrMinus : MethodName := ⟨RX5, "plusOrMinus", "()I"⟩
abbrev cX5_word : ByteArray := prog_7_method_71_code
def yX5_word : MethodName := ⟨RX5, "word", "(I)I"⟩
abbrev cX5_order : ByteArray := prog_7_method_72_code
def yX5_order : MethodName := ⟨RX5, "order", "()V"⟩
abbrev cX5_parse : ByteArray := prog_7_method_73_code
def yX5_parse : MethodName := ⟨RX5, "parse", "()V"⟩
abbrev cX5_does : ByteArray := prog_7_method_74_code
def yX5_does : MethodName := ⟨RX5, "does", "(I)I"⟩
abbrev cX5_run : ByteArray := prog_7_method_75_code
def yX5_run : MethodName := ⟨RX5, "run", "()I"⟩
abbrev cX5_writes : ByteArray := prog_7_method_76_code
def yX5_writes : MethodName := ⟨RX5, "writes", "(I)V"⟩
abbrev cX5_writesNumber : ByteArray := prog_7_method_77_code
def yX5_writesNumber : MethodName := ⟨RX5, "writesNumber", "(I)V"⟩
abbrev cX5_tell : ByteArray := prog_7_method_78_code
def yX5_tell : MethodName := ⟨RX5, "tell", "(I)I"⟩
abbrev cX5_tellStoves : ByteArray := prog_7_method_79_code
def yX5_tellStoves : MethodName := ⟨RX5, "tellStoves", "()I"⟩
abbrev cX5_character : ByteArray := prog_7_method_80_code
def yX5_character : MethodName := ⟨RX5, "character", "(I)I"⟩
abbrev cX5_ofKettles : ByteArray := prog_7_method_81_code
def yX5_ofKettles : MethodName := ⟨RX5, "ofKettles", "(I)I"⟩
abbrev cX5_allPoints : ByteArray := prog_7_method_82_code
def yX5_allPoints : MethodName := ⟨RX5, "allPoints", "()I"⟩
abbrev cX5_account : ByteArray := prog_7_method_83_code
def yX5_account : MethodName := ⟨RX5, "account", "(I)I"⟩
abbrev cX5_isBalanced : ByteArray := prog_7_method_84_code
def yX5_isBalanced : MethodName := ⟨RX5, "isBalanced", "()I"⟩
abbrev cX5_meanWater : ByteArray := prog_7_method_85_code
def yX5_meanWater : MethodName := ⟨RX5, "meanWater", "()D"⟩
abbrev cX5_whistleShare : ByteArray := prog_7_method_86_code
def yX5_whistleShare : MethodName := ⟨RX5, "whistleShare", "()F"⟩
abbrev cX5_undo : ByteArray := prog_7_method_87_code
def yX5_undo : MethodName := ⟨RX5, "undo", "()I"⟩
abbrev cX5_save : ByteArray := prog_7_method_88_code
def yX5_save : MethodName := ⟨RX5, "save", "()I"⟩
abbrev cX5_restore : ByteArray := prog_7_method_89_code
def yX5_restore : MethodName := ⟨RX5, "restore", "()I"⟩
def RJ5 : String := "java/lang/AbstractStringBuilder"
def TJ5 : u_T := fun k => match k with
  | _ => ("", "", "", false)
def tyJ5 : Nat → FieldType := fun k => match k with
  | _ => .int
abbrev wsJ50 : List Cond := u_ws RJ5 TJ5 0
theorem nmJ5 : ∀ a, a < 0 → ∀ b, b < 0 → a ≠ b → (TJ5 a).2.1 ≠ (TJ5 b).2.1 := by decide +kernel
theorem tyJ5_ok : ∀ k, k < 0 → parseFieldDescriptor (TJ5 k).2.2.1 = some (tyJ5 k) := by decide +kernel
abbrev cJ5_init_d00df : ByteArray := prog_8_method_2_code
def yJ5_init_d00df : MethodName := ⟨RJ5, "<init>", "(I)V"⟩
abbrev cJ5_length_8abf5 : ByteArray := prog_8_method_6_code
def yJ5_length_8abf5 : MethodName := ⟨RJ5, "length", "()I"⟩
abbrev cJ5_ensureCapacityInternal_d00df : ByteArray := prog_8_method_9_code
def yJ5_ensureCapacityInternal_d00df : MethodName := ⟨RJ5, "ensureCapacityInternal", "(I)V"⟩
abbrev cJ5_newCapacity_0f7a4 : ByteArray := prog_8_method_10_code
def yJ5_newCapacity_0f7a4 : MethodName := ⟨RJ5, "newCapacity", "(I)I"⟩
abbrev cJ5_inflate_da8c8 : ByteArray := prog_8_method_11_code
def yJ5_inflate_da8c8 : MethodName := ⟨RJ5, "inflate", "()V"⟩
abbrev cJ5_setLength_d00df : ByteArray := prog_8_method_13_code
def yJ5_setLength_d00df : MethodName := ⟨RJ5, "setLength", "(I)V"⟩
abbrev cJ5_charAt_5068e : ByteArray := prog_8_method_14_code
def yJ5_charAt_5068e : MethodName := ⟨RJ5, "charAt", "(I)C"⟩
abbrev cJ5_append_3fe6f : ByteArray := prog_8_method_31_code
def yJ5_append_3fe6f : MethodName := ⟨RJ5, "append", "(C)Ljava/lang/AbstractStringBuilder;"⟩
abbrev cJ5_append_c97b9 : ByteArray := prog_8_method_32_code
def yJ5_append_c97b9 : MethodName := ⟨RJ5, "append", "(I)Ljava/lang/AbstractStringBuilder;"⟩
abbrev cJ5_isLatin1_aae02 : ByteArray := prog_8_method_68_code
def yJ5_isLatin1_aae02 : MethodName := ⟨RJ5, "isLatin1", "()Z"⟩
def RJ6 : String := "java/lang/Integer"
def TJ6 : u_T := fun k => match k with
  | _ => ("", "", "", false)
def tyJ6 : Nat → FieldType := fun k => match k with
  | _ => .int
abbrev wsJ60 : List Cond := u_ws RJ6 TJ6 0
theorem nmJ6 : ∀ a, a < 0 → ∀ b, b < 0 → a ≠ b → (TJ6 a).2.1 ≠ (TJ6 b).2.1 := by decide +kernel
theorem tyJ6_ok : ∀ k, k < 0 → parseFieldDescriptor (TJ6 k).2.2.1 = some (tyJ6 k) := by decide +kernel
abbrev cJ6_getChars_ba4f3 : ByteArray := prog_10_method_12_code
def yJ6_getChars_ba4f3 : MethodName := ⟨RJ6, "getChars", "(II[B)I"⟩
abbrev cJ6_stringSize_0f7a4 : ByteArray := prog_10_method_13_code
def yJ6_stringSize_0f7a4 : MethodName := ⟨RJ6, "stringSize", "(I)I"⟩
abbrev cJ6_compare_7cf53 : ByteArray := prog_10_method_40_code
def yJ6_compare_7cf53 : MethodName := ⟨RJ6, "compare", "(II)I"⟩
abbrev cJ6_bitCount_0f7a4 : ByteArray := prog_10_method_49_code
def yJ6_bitCount_0f7a4 : MethodName := ⟨RJ6, "bitCount", "(I)I"⟩
def RJ9 : String := "java/lang/Math"
def TJ9 : u_T := fun k => match k with
  | _ => ("", "", "", false)
def tyJ9 : Nat → FieldType := fun k => match k with
  | _ => .int
abbrev wsJ90 : List Cond := u_ws RJ9 TJ9 0
theorem nmJ9 : ∀ a, a < 0 → ∀ b, b < 0 → a ≠ b → (TJ9 a).2.1 ≠ (TJ9 b).2.1 := by decide +kernel
theorem tyJ9_ok : ∀ k, k < 0 → parseFieldDescriptor (TJ9 k).2.2.1 = some (tyJ9 k) := by decide +kernel
abbrev cJ9_abs_0f7a4 : ByteArray := prog_11_method_59_code
def yJ9_abs_0f7a4 : MethodName := ⟨RJ9, "abs", "(I)I"⟩
abbrev cJ9_max_7cf53 : ByteArray := prog_11_method_65_code
def yJ9_max_7cf53 : MethodName := ⟨RJ9, "max", "(II)I"⟩
abbrev cJ9_min_7cf53 : ByteArray := prog_11_method_69_code
def yJ9_min_7cf53 : MethodName := ⟨RJ9, "min", "(II)I"⟩
def RJ0 : String := "java/lang/String"
def TJ0 : u_T := fun k => match k with
  | _ => ("", "", "", false)
def tyJ0 : Nat → FieldType := fun k => match k with
  | _ => .int
abbrev wsJ00 : List Cond := u_ws RJ0 TJ0 0
theorem nmJ0 : ∀ a, a < 0 → ∀ b, b < 0 → a ≠ b → (TJ0 a).2.1 ≠ (TJ0 b).2.1 := by decide +kernel
theorem tyJ0_ok : ∀ k, k < 0 → parseFieldDescriptor (TJ0 k).2.2.1 = some (tyJ0 k) := by decide +kernel
abbrev cJ0_length_8abf5 : ByteArray := prog_13_method_54_code
def yJ0_length_8abf5 : MethodName := ⟨RJ0, "length", "()I"⟩
abbrev cJ0_charAt_5068e : ByteArray := prog_13_method_56_code
def yJ0_charAt_5068e : MethodName := ⟨RJ0, "charAt", "(I)C"⟩
abbrev cJ0_coder_7d493 : ByteArray := prog_13_method_152_code
def yJ0_coder_7d493 : MethodName := ⟨RJ0, "coder", "()B"⟩
abbrev cJ0_isLatin1_aae02 : ByteArray := prog_13_method_154_code
def yJ0_isLatin1_aae02 : MethodName := ⟨RJ0, "isLatin1", "()Z"⟩
abbrev cJ0_checkIndex_df160 : ByteArray := prog_13_method_155_code
def yJ0_checkIndex_df160 : MethodName := ⟨RJ0, "checkIndex", "(II)V"⟩
abbrev cJ0_checkBoundsOffCount_cabcc : ByteArray := prog_13_method_157_code
def yJ0_checkBoundsOffCount_cabcc : MethodName := ⟨RJ0, "checkBoundsOffCount", "(III)I"⟩
abbrev cJ0_checkBoundsBeginEnd_23922 : ByteArray := prog_13_method_158_code
def yJ0_checkBoundsBeginEnd_23922 : MethodName := ⟨RJ0, "checkBoundsBeginEnd", "(III)V"⟩
def RJ4 : String := "java/lang/StringBuilder"
def TJ4 : u_T := fun k => match k with
  | 0 => ("java/lang/AbstractStringBuilder", "value", "[B", false)
  | 1 => ("java/lang/AbstractStringBuilder", "coder", "B", false)
  | 2 => ("java/lang/AbstractStringBuilder", "maybeLatin1", "Z", false)
  | _ => ("java/lang/AbstractStringBuilder", "count", "I", false)
def tyJ4 : Nat → FieldType := fun k => match k with
  | 0 => .array .byte
  | 1 => .byte
  | 2 => .boolean
  | _ => .int
abbrev wsJ40 : List Cond := u_ws RJ4 TJ4 4
theorem nmJ4 : ∀ a, a < 4 → ∀ b, b < 4 → a ≠ b → (TJ4 a).2.1 ≠ (TJ4 b).2.1 := by decide +kernel
theorem tyJ4_ok : ∀ k, k < 4 → parseFieldDescriptor (TJ4 k).2.2.1 = some (tyJ4 k) := by decide +kernel
abbrev cJ4_init_da8c8 : ByteArray := prog_14_method_1_code
def yJ4_init_da8c8 : MethodName := ⟨RJ4, "<init>", "()V"⟩
abbrev cJ4_append_cf468 : ByteArray := prog_14_method_14_code
def yJ4_append_cf468 : MethodName := ⟨RJ4, "append", "(C)Ljava/lang/StringBuilder;"⟩
abbrev cJ4_append_bf812 : ByteArray := prog_14_method_15_code
def yJ4_append_bf812 : MethodName := ⟨RJ4, "append", "(I)Ljava/lang/StringBuilder;"⟩
abbrev cJ4_charAt_5068e : ByteArray := prog_14_method_88_code
def yJ4_charAt_5068e : MethodName := ⟨RJ4, "charAt", "(I)C"⟩
abbrev cJ4_setLength_d00df : ByteArray := prog_14_method_89_code
def yJ4_setLength_d00df : MethodName := ⟨RJ4, "setLength", "(I)V"⟩
abbrev cJ4_length_8abf5 : ByteArray := prog_14_method_93_code
def yJ4_length_8abf5 : MethodName := ⟨RJ4, "length", "()I"⟩
def RJ1 : String := "java/lang/StringLatin1"
def TJ1 : u_T := fun k => match k with
  | _ => ("", "", "", false)
def tyJ1 : Nat → FieldType := fun k => match k with
  | _ => .int
abbrev wsJ10 : List Cond := u_ws RJ1 TJ1 0
theorem nmJ1 : ∀ a, a < 0 → ∀ b, b < 0 → a ≠ b → (TJ1 a).2.1 ≠ (TJ1 b).2.1 := by decide +kernel
theorem tyJ1_ok : ∀ k, k < 0 → parseFieldDescriptor (TJ1 k).2.2.1 = some (tyJ1 k) := by decide +kernel
abbrev cJ1_charAt_3b067 : ByteArray := prog_15_method_2_code
def yJ1_charAt_3b067 : MethodName := ⟨RJ1, "charAt", "([BI)C"⟩
abbrev cJ1_canEncode_fc78d : ByteArray := prog_15_method_3_code
def yJ1_canEncode_fc78d : MethodName := ⟨RJ1, "canEncode", "(C)Z"⟩
abbrev cJ1_fillNull_b72d1 : ByteArray := prog_15_method_48_code
def yJ1_fillNull_b72d1 : MethodName := ⟨RJ1, "fillNull", "([BII)V"⟩
abbrev cJ1_inflate_0e8fd : ByteArray := prog_15_method_50_code
def yJ1_inflate_0e8fd : MethodName := ⟨RJ1, "inflate", "([BI[BII)V"⟩
def RJ2 : String := "java/lang/StringUTF16"
def TJ2 : u_T := fun k => match k with
  | _ => ("", "", "", false)
def tyJ2 : Nat → FieldType := fun k => match k with
  | _ => .int
abbrev wsJ20 : List Cond := u_ws RJ2 TJ2 0
theorem nmJ2 : ∀ a, a < 0 → ∀ b, b < 0 → a ≠ b → (TJ2 a).2.1 ≠ (TJ2 b).2.1 := by decide +kernel
theorem tyJ2_ok : ∀ k, k < 0 → parseFieldDescriptor (TJ2 k).2.2.1 = some (tyJ2 k) := by decide +kernel
abbrev cJ2_newBytesFor_77867 : ByteArray := prog_16_method_2_code
def yJ2_newBytesFor_77867 : MethodName := ⟨RJ2, "newBytesFor", "(I)[B"⟩
abbrev cJ2_newBytesLength_0f7a4 : ByteArray := prog_16_method_3_code
def yJ2_newBytesLength_0f7a4 : MethodName := ⟨RJ2, "newBytesLength", "(I)I"⟩
abbrev cJ2_putChar_b72d1 : ByteArray := prog_16_method_4_code
def yJ2_putChar_b72d1 : MethodName := ⟨RJ2, "putChar", "([BII)V"⟩
abbrev cJ2_getChar_3b067 : ByteArray := prog_16_method_5_code
def yJ2_getChar_3b067 : MethodName := ⟨RJ2, "getChar", "([BI)C"⟩
abbrev cJ2_length_9d52b : ByteArray := prog_16_method_6_code
def yJ2_length_9d52b : MethodName := ⟨RJ2, "length", "([B)I"⟩
abbrev cJ2_fillNull_b72d1 : ByteArray := prog_16_method_70_code
def yJ2_fillNull_b72d1 : MethodName := ⟨RJ2, "fillNull", "([BII)V"⟩
abbrev cJ2_putCharSB_b72d1 : ByteArray := prog_16_method_71_code
def yJ2_putCharSB_b72d1 : MethodName := ⟨RJ2, "putCharSB", "([BII)V"⟩
abbrev cJ2_getChars_46870 : ByteArray := prog_16_method_77_code
def yJ2_getChars_46870 : MethodName := ⟨RJ2, "getChars", "(III[B)I"⟩
abbrev cJ2_charAt_3b067 : ByteArray := prog_16_method_83_code
def yJ2_charAt_3b067 : MethodName := ⟨RJ2, "charAt", "([BI)C"⟩
abbrev cJ2_inflate_0e8fd : ByteArray := prog_16_method_86_code
def yJ2_inflate_0e8fd : MethodName := ⟨RJ2, "inflate", "([BI[BII)V"⟩
abbrev cJ2_getChars_ba4f3 : ByteArray := prog_16_method_89_code
def yJ2_getChars_ba4f3 : MethodName := ⟨RJ2, "getChars", "(II[B)I"⟩
abbrev cJ2_checkIndex_2214a : ByteArray := prog_16_method_91_code
def yJ2_checkIndex_2214a : MethodName := ⟨RJ2, "checkIndex", "(I[B)V"⟩
abbrev cJ2_checkBoundsBeginEnd_d044e : ByteArray := prog_16_method_93_code
def yJ2_checkBoundsBeginEnd_d044e : MethodName := ⟨RJ2, "checkBoundsBeginEnd", "(II[B)V"⟩
abbrev cJ2_checkBoundsOffCount_d044e : ByteArray := prog_16_method_94_code
def yJ2_checkBoundsOffCount_d044e : MethodName := ⟨RJ2, "checkBoundsOffCount", "(II[B)V"⟩
def RJ10 : String := "java/lang/System"
def TJ10 : u_T := fun k => match k with
  | _ => ("", "", "", false)
def tyJ10 : Nat → FieldType := fun k => match k with
  | _ => .int
abbrev wsJ100 : List Cond := u_ws RJ10 TJ10 0
theorem nmJ10 : ∀ a, a < 0 → ∀ b, b < 0 → a ≠ b → (TJ10 a).2.1 ≠ (TJ10 b).2.1 := by decide +kernel
theorem tyJ10_ok : ∀ k, k < 0 → parseFieldDescriptor (TJ10 k).2.2.1 = some (tyJ10 k) := by decide +kernel
def RJ7 : String := "java/util/Arrays"
def TJ7 : u_T := fun k => match k with
  | _ => ("", "", "", false)
def tyJ7 : Nat → FieldType := fun k => match k with
  | _ => .int
abbrev wsJ70 : List Cond := u_ws RJ7 TJ7 0
theorem nmJ7 : ∀ a, a < 0 → ∀ b, b < 0 → a ≠ b → (TJ7 a).2.1 ≠ (TJ7 b).2.1 := by decide +kernel
theorem tyJ7_ok : ∀ k, k < 0 → parseFieldDescriptor (TJ7 k).2.2.1 = some (tyJ7 k) := by decide +kernel
abbrev cJ7_rangeCheck_23922 : ByteArray := prog_18_method_30_code
def yJ7_rangeCheck_23922 : MethodName := ⟨RJ7, "rangeCheck", "(III)V"⟩
abbrev cJ7_fill_53178 : ByteArray := prog_18_method_103_code
def yJ7_fill_53178 : MethodName := ⟨RJ7, "fill", "([II)V"⟩
abbrev cJ7_fill_eb02e : ByteArray := prog_18_method_110_code
def yJ7_fill_eb02e : MethodName := ⟨RJ7, "fill", "([BIIB)V"⟩
abbrev cJ7_copyOf_9075b : ByteArray := prog_18_method_121_code
def yJ7_copyOf_9075b : MethodName := ⟨RJ7, "copyOf", "([BI)[B"⟩
def RJ8 : String := "jdk/internal/util/ArraysSupport"
def TJ8 : u_T := fun k => match k with
  | _ => ("", "", "", false)
def tyJ8 : Nat → FieldType := fun k => match k with
  | _ => .int
abbrev wsJ80 : List Cond := u_ws RJ8 TJ8 0
theorem nmJ8 : ∀ a, a < 0 → ∀ b, b < 0 → a ≠ b → (TJ8 a).2.1 ≠ (TJ8 b).2.1 := by decide +kernel
theorem tyJ8_ok : ∀ k, k < 0 → parseFieldDescriptor (TJ8 k).2.2.1 = some (tyJ8 k) := by decide +kernel
abbrev cJ8_newLength_cabcc : ByteArray := prog_19_method_27_code
def yJ8_newLength_cabcc : MethodName := ⟨RJ8, "newLength", "(III)I"⟩
abbrev cJ8_hugeLength_7cf53 : ByteArray := prog_19_method_28_code
def yJ8_hugeLength_7cf53 : MethodName := ⟨RJ8, "hugeLength", "(II)I"⟩
def RJ3 : String := "jdk/internal/util/Preconditions"
def TJ3 : u_T := fun k => match k with
  | _ => ("", "", "", false)
def tyJ3 : Nat → FieldType := fun k => match k with
  | _ => .int
abbrev wsJ30 : List Cond := u_ws RJ3 TJ3 0
theorem nmJ3 : ∀ a, a < 0 → ∀ b, b < 0 → a ≠ b → (TJ3 a).2.1 ≠ (TJ3 b).2.1 := by decide +kernel
theorem tyJ3_ok : ∀ k, k < 0 → parseFieldDescriptor (TJ3 k).2.2.1 = some (tyJ3 k) := by decide +kernel
abbrev cJ3_checkIndex_8e157 : ByteArray := prog_20_method_11_code
def yJ3_checkIndex_8e157 : MethodName := ⟨RJ3, "checkIndex", "(IILjava/util/function/BiFunction;)I"⟩
abbrev cJ3_checkFromToIndex_8c36e : ByteArray := prog_20_method_12_code
def yJ3_checkFromToIndex_8c36e : MethodName := ⟨RJ3, "checkFromToIndex", "(IIILjava/util/function/BiFunction;)I"⟩
abbrev cJ3_checkFromIndexSize_8c36e : ByteArray := prog_20_method_13_code
def yJ3_checkFromIndexSize_8c36e : MethodName := ⟨RJ3, "checkFromIndexSize", "(IIILjava/util/function/BiFunction;)I"⟩
def RL : String := "KettleGuildLaw"
abbrev cL_law : ByteArray := code
def yL_law : MethodName := ⟨RL, "law", "([I)Z"⟩
abbrev vwCl : List vw_C := [(RJ4, TJ4, 4), (RX0, TX0, 3), (RX1, TX1, 6), (RX2, TX2, 3), (RX3, TX3, 18), (RX4, TX4, 7), (RX5, TX5, 14)]
end
section
theorem dX5_init_0 : decode cX5_init 0 = .ok (.aload_n 0, 1) := by decide +kernel
theorem dX5_init_1 : decode cX5_init 1 = .ok (.invokespecial 1, 3) := by decide +kernel
theorem dX5_init_4 : decode cX5_init 4 = .ok (.aload_n 0, 1) := by decide +kernel
theorem dX5_init_5 : decode cX5_init 5 = .ok (.sipush 1375, 3) := by decide +kernel
theorem dX5_init_8 : decode cX5_init 8 = .ok (.newarray .int, 2) := by decide +kernel
theorem dX5_init_10 : decode cX5_init 10 = .ok (.putfield 9, 3) := by decide +kernel
theorem dX5_init_13 : decode cX5_init 13 = .ok (.aload_n 0, 1) := by decide +kernel
theorem dX5_init_14 : decode cX5_init 14 = .ok (.iconst 3, 1) := by decide +kernel
theorem dX5_init_15 : decode cX5_init 15 = .ok (.newarray .int, 2) := by decide +kernel
theorem dX5_init_17 : decode cX5_init 17 = .ok (.putfield 13, 3) := by decide +kernel
theorem dX5_init_20 : decode cX5_init 20 = .ok (.aload_n 0, 1) := by decide +kernel
theorem dX5_init_21 : decode cX5_init 21 = .ok (.iconst 3, 1) := by decide +kernel
theorem dX5_init_22 : decode cX5_init 22 = .ok (.newarray .int, 2) := by decide +kernel
theorem dX5_init_24 : decode cX5_init 24 = .ok (.putfield 16, 3) := by decide +kernel
theorem dX5_init_27 : decode cX5_init 27 = .ok (.aload_n 0, 1) := by decide +kernel
theorem dX5_init_28 : decode cX5_init 28 = .ok (.bipush 60, 2) := by decide +kernel
theorem dX5_init_30 : decode cX5_init 30 = .ok (.newarray .char, 2) := by decide +kernel
theorem dX5_init_32 : decode cX5_init 32 = .ok (.putfield 19, 3) := by decide +kernel
theorem dX5_init_35 : decode cX5_init 35 = .ok (.aload_n 0, 1) := by decide +kernel
theorem dX5_init_36 : decode cX5_init 36 = .ok (.sipush 244, 3) := by decide +kernel
theorem dX5_init_39 : decode cX5_init 39 = .ok (.newarray .int, 2) := by decide +kernel
theorem dX5_init_41 : decode cX5_init 41 = .ok (.putfield 23, 3) := by decide +kernel
theorem dX5_init_44 : decode cX5_init 44 = .ok (.aload_n 0, 1) := by decide +kernel
theorem dX5_init_45 : decode cX5_init 45 = .ok (.bipush 40, 2) := by decide +kernel
theorem dX5_init_47 : decode cX5_init 47 = .ok (.newarray .char, 2) := by decide +kernel
theorem dX5_init_49 : decode cX5_init 49 = .ok (.putfield 26, 3) := by decide +kernel
theorem dX5_init_52 : decode cX5_init 52 = .ok (.return_, 1) := by decide +kernel
theorem dX5_in_0 : decode cX5_in 0 = .ok (.iload_n 0, 1) := by decide +kernel
theorem dX5_in_1 : decode cX5_in 1 = .ok (.iload_n 1, 1) := by decide +kernel
theorem dX5_in_2 : decode cX5_in 2 = .ok (.if_icmp .lt 12, 3) := by decide +kernel
theorem dX5_in_5 : decode cX5_in 5 = .ok (.iload_n 0, 1) := by decide +kernel
theorem dX5_in_6 : decode cX5_in 6 = .ok (.iload_n 2, 1) := by decide +kernel
theorem dX5_in_7 : decode cX5_in 7 = .ok (.if_icmp .gt 7, 3) := by decide +kernel
theorem dX5_in_10 : decode cX5_in 10 = .ok (.iconst 1, 1) := by decide +kernel
theorem dX5_in_11 : decode cX5_in 11 = .ok (.goto 4, 3) := by decide +kernel
theorem dX5_in_14 : decode cX5_in 14 = .ok (.iconst 0, 1) := by decide +kernel
theorem dX5_in_15 : decode cX5_in 15 = .ok (.ireturn, 1) := by decide +kernel
theorem dX5_copies_0 : decode cX5_copies 0 = .ok (.iconst 0, 1) := by decide +kernel
theorem dX5_copies_1 : decode cX5_copies 1 = .ok (.istore_n 3, 1) := by decide +kernel
theorem dX5_copies_2 : decode cX5_copies 2 = .ok (.iload_n 3, 1) := by decide +kernel
theorem dX5_copies_3 : decode cX5_copies 3 = .ok (.bipush 125, 2) := by decide +kernel
theorem dX5_copies_5 : decode cX5_copies 5 = .ok (.if_icmp .ge 31, 3) := by decide +kernel
theorem dX5_copies_8 : decode cX5_copies 8 = .ok (.aload_n 0, 1) := by decide +kernel
theorem dX5_copies_9 : decode cX5_copies 9 = .ok (.getfield 9, 3) := by decide +kernel
theorem dX5_copies_12 : decode cX5_copies 12 = .ok (.bipush 125, 2) := by decide +kernel
theorem dX5_copies_14 : decode cX5_copies 14 = .ok (.iload_n 2, 1) := by decide +kernel
theorem dX5_copies_15 : decode cX5_copies 15 = .ok (.imul, 1) := by decide +kernel
theorem dX5_copies_16 : decode cX5_copies 16 = .ok (.iload_n 3, 1) := by decide +kernel
theorem dX5_copies_17 : decode cX5_copies 17 = .ok (.iadd, 1) := by decide +kernel
theorem dX5_copies_18 : decode cX5_copies 18 = .ok (.aload_n 0, 1) := by decide +kernel
theorem dX5_copies_19 : decode cX5_copies 19 = .ok (.getfield 9, 3) := by decide +kernel
theorem dX5_copies_22 : decode cX5_copies 22 = .ok (.bipush 125, 2) := by decide +kernel
theorem dX5_copies_24 : decode cX5_copies 24 = .ok (.iload_n 1, 1) := by decide +kernel
theorem dX5_copies_25 : decode cX5_copies 25 = .ok (.imul, 1) := by decide +kernel
theorem dX5_copies_26 : decode cX5_copies 26 = .ok (.iload_n 3, 1) := by decide +kernel
theorem dX5_copies_27 : decode cX5_copies 27 = .ok (.iadd, 1) := by decide +kernel
theorem dX5_copies_28 : decode cX5_copies 28 = .ok (.iaload, 1) := by decide +kernel
theorem dX5_copies_29 : decode cX5_copies 29 = .ok (.iastore, 1) := by decide +kernel
theorem dX5_copies_30 : decode cX5_copies 30 = .ok (.iinc 3 1, 3) := by decide +kernel
theorem dX5_copies_33 : decode cX5_copies 33 = .ok (.goto (-31), 3) := by decide +kernel
theorem dX5_copies_36 : decode cX5_copies 36 = .ok (.return_, 1) := by decide +kernel
theorem dX5_begins_0 : decode cX5_begins 0 = .ok (.aload_n 0, 1) := by decide +kernel
theorem dX5_begins_1 : decode cX5_begins 1 = .ok (.iconst 0, 1) := by decide +kernel
theorem dX5_begins_2 : decode cX5_begins 2 = .ok (.bipush 10, 2) := by decide +kernel
theorem dX5_begins_4 : decode cX5_begins 4 = .ok (.invokevirtual 29, 3) := by decide +kernel
theorem dX5_begins_7 : decode cX5_begins 7 = .ok (.return_, 1) := by decide +kernel
theorem dX5_ends_0 : decode cX5_ends 0 = .ok (.iload_n 1, 1) := by decide +kernel
theorem dX5_ends_1 : decode cX5_ends 1 = .ok (.sipush (-1011), 3) := by decide +kernel
theorem dX5_ends_4 : decode cX5_ends 4 = .ok (.if_icmp .gt 12, 3) := by decide +kernel
theorem dX5_ends_7 : decode cX5_ends 7 = .ok (.aload_n 0, 1) := by decide +kernel
theorem dX5_ends_8 : decode cX5_ends 8 = .ok (.bipush 10, 2) := by decide +kernel
theorem dX5_ends_10 : decode cX5_ends 10 = .ok (.iconst 0, 1) := by decide +kernel
theorem dX5_ends_11 : decode cX5_ends 11 = .ok (.invokevirtual 29, 3) := by decide +kernel
theorem dX5_ends_14 : decode cX5_ends 14 = .ok (.iload_n 1, 1) := by decide +kernel
theorem dX5_ends_15 : decode cX5_ends 15 = .ok (.ireturn, 1) := by decide +kernel
theorem dX5_ends_16 : decode cX5_ends 16 = .ok (.aload_n 0, 1) := by decide +kernel
theorem dX5_ends_17 : decode cX5_ends 17 = .ok (.getfield 33, 3) := by decide +kernel
theorem dX5_ends_20 : decode cX5_ends 20 = .ok (.bipush 8, 2) := by decide +kernel
theorem dX5_ends_22 : decode cX5_ends 22 = .ok (.if_icmp .ne 35, 3) := by decide +kernel
theorem dX5_ends_25 : decode cX5_ends 25 = .ok (.iconst 1, 1) := by decide +kernel
theorem dX5_ends_26 : decode cX5_ends 26 = .ok (.istore_n 2, 1) := by decide +kernel
theorem dX5_ends_27 : decode cX5_ends 27 = .ok (.iload_n 2, 1) := by decide +kernel
theorem dX5_ends_28 : decode cX5_ends 28 = .ok (.bipush 8, 2) := by decide +kernel
theorem dX5_ends_30 : decode cX5_ends 30 = .ok (.if_icmp .ge 17, 3) := by decide +kernel
theorem dX5_ends_33 : decode cX5_ends 33 = .ok (.aload_n 0, 1) := by decide +kernel
theorem dX5_ends_34 : decode cX5_ends 34 = .ok (.iload_n 2, 1) := by decide +kernel
theorem dX5_ends_35 : decode cX5_ends 35 = .ok (.iconst 1, 1) := by decide +kernel
theorem dX5_ends_36 : decode cX5_ends 36 = .ok (.iadd, 1) := by decide +kernel
theorem dX5_ends_37 : decode cX5_ends 37 = .ok (.iload_n 2, 1) := by decide +kernel
theorem dX5_ends_38 : decode cX5_ends 38 = .ok (.invokevirtual 29, 3) := by decide +kernel
theorem dX5_ends_41 : decode cX5_ends 41 = .ok (.iinc 2 1, 3) := by decide +kernel
theorem dX5_ends_44 : decode cX5_ends 44 = .ok (.goto (-17), 3) := by decide +kernel
theorem dX5_ends_47 : decode cX5_ends 47 = .ok (.aload_n 0, 1) := by decide +kernel
theorem dX5_ends_48 : decode cX5_ends 48 = .ok (.dup, 1) := by decide +kernel
theorem dX5_ends_49 : decode cX5_ends 49 = .ok (.getfield 33, 3) := by decide +kernel
theorem dX5_ends_52 : decode cX5_ends 52 = .ok (.iconst 1, 1) := by decide +kernel
theorem dX5_ends_53 : decode cX5_ends 53 = .ok (.isub, 1) := by decide +kernel
theorem dX5_ends_54 : decode cX5_ends 54 = .ok (.putfield 33, 3) := by decide +kernel
theorem dX5_ends_57 : decode cX5_ends 57 = .ok (.aload_n 0, 1) := by decide +kernel
theorem dX5_ends_58 : decode cX5_ends 58 = .ok (.dup, 1) := by decide +kernel
theorem dX5_ends_59 : decode cX5_ends 59 = .ok (.getfield 33, 3) := by decide +kernel
theorem dX5_ends_62 : decode cX5_ends 62 = .ok (.iconst 1, 1) := by decide +kernel
theorem dX5_ends_63 : decode cX5_ends 63 = .ok (.iadd, 1) := by decide +kernel
theorem dX5_ends_64 : decode cX5_ends 64 = .ok (.putfield 33, 3) := by decide +kernel
theorem dX5_ends_67 : decode cX5_ends 67 = .ok (.aload_n 0, 1) := by decide +kernel
theorem dX5_ends_68 : decode cX5_ends 68 = .ok (.bipush 10, 2) := by decide +kernel
theorem dX5_ends_70 : decode cX5_ends 70 = .ok (.aload_n 0, 1) := by decide +kernel
theorem dX5_ends_71 : decode cX5_ends 71 = .ok (.getfield 33, 3) := by decide +kernel
theorem dX5_ends_74 : decode cX5_ends 74 = .ok (.invokevirtual 29, 3) := by decide +kernel
theorem dX5_ends_77 : decode cX5_ends 77 = .ok (.iload_n 1, 1) := by decide +kernel
theorem dX5_ends_78 : decode cX5_ends 78 = .ok (.ireturn, 1) := by decide +kernel
theorem dX5_refuses_0 : decode cX5_refuses 0 = .ok (.iload_n 1, 1) := by decide +kernel
theorem dX5_refuses_1 : decode cX5_refuses 1 = .ok (.ifCond .eq 22, 3) := by decide +kernel
theorem dX5_refuses_4 : decode cX5_refuses 4 = .ok (.aload_n 0, 1) := by decide +kernel
theorem dX5_refuses_5 : decode cX5_refuses 5 = .ok (.getfield 13, 3) := by decide +kernel
theorem dX5_refuses_8 : decode cX5_refuses 8 = .ok (.iconst 0, 1) := by decide +kernel
theorem dX5_refuses_9 : decode cX5_refuses 9 = .ok (.iload_n 2, 1) := by decide +kernel
theorem dX5_refuses_10 : decode cX5_refuses 10 = .ok (.iastore, 1) := by decide +kernel
theorem dX5_refuses_11 : decode cX5_refuses 11 = .ok (.aload_n 0, 1) := by decide +kernel
theorem dX5_refuses_12 : decode cX5_refuses 12 = .ok (.getfield 16, 3) := by decide +kernel
theorem dX5_refuses_15 : decode cX5_refuses 15 = .ok (.iconst 0, 1) := by decide +kernel
theorem dX5_refuses_16 : decode cX5_refuses 16 = .ok (.iload_n 3, 1) := by decide +kernel
theorem dX5_refuses_17 : decode cX5_refuses 17 = .ok (.iastore, 1) := by decide +kernel
theorem dX5_refuses_18 : decode cX5_refuses 18 = .ok (.aload_n 0, 1) := by decide +kernel
theorem dX5_refuses_19 : decode cX5_refuses 19 = .ok (.iconst 1, 1) := by decide +kernel
theorem dX5_refuses_20 : decode cX5_refuses 20 = .ok (.putfield 37, 3) := by decide +kernel
theorem dX5_refuses_23 : decode cX5_refuses 23 = .ok (.iload_n 1, 1) := by decide +kernel
theorem dX5_refuses_24 : decode cX5_refuses 24 = .ok (.ireturn, 1) := by decide +kernel
theorem dX5_causes_0 : decode cX5_causes 0 = .ok (.aload_n 0, 1) := by decide +kernel
theorem dX5_causes_1 : decode cX5_causes 1 = .ok (.getfield 37, 3) := by decide +kernel
theorem dX5_causes_4 : decode cX5_causes 4 = .ok (.istore_n 3, 1) := by decide +kernel
theorem dX5_causes_5 : decode cX5_causes 5 = .ok (.iload_n 3, 1) := by decide +kernel
theorem dX5_causes_6 : decode cX5_causes 6 = .ok (.ifCond .le 37, 3) := by decide +kernel
theorem dX5_causes_9 : decode cX5_causes 9 = .ok (.aload_n 0, 1) := by decide +kernel
theorem dX5_causes_10 : decode cX5_causes 10 = .ok (.getfield 13, 3) := by decide +kernel
theorem dX5_causes_13 : decode cX5_causes 13 = .ok (.iload_n 3, 1) := by decide +kernel
theorem dX5_causes_14 : decode cX5_causes 14 = .ok (.aload_n 0, 1) := by decide +kernel
theorem dX5_causes_15 : decode cX5_causes 15 = .ok (.getfield 13, 3) := by decide +kernel
theorem dX5_causes_18 : decode cX5_causes 18 = .ok (.iload_n 3, 1) := by decide +kernel
theorem dX5_causes_19 : decode cX5_causes 19 = .ok (.iconst 1, 1) := by decide +kernel
theorem dX5_causes_20 : decode cX5_causes 20 = .ok (.isub, 1) := by decide +kernel
theorem dX5_causes_21 : decode cX5_causes 21 = .ok (.iaload, 1) := by decide +kernel
theorem dX5_causes_22 : decode cX5_causes 22 = .ok (.iastore, 1) := by decide +kernel
theorem dX5_causes_23 : decode cX5_causes 23 = .ok (.aload_n 0, 1) := by decide +kernel
theorem dX5_causes_24 : decode cX5_causes 24 = .ok (.getfield 16, 3) := by decide +kernel
theorem dX5_causes_27 : decode cX5_causes 27 = .ok (.iload_n 3, 1) := by decide +kernel
theorem dX5_causes_28 : decode cX5_causes 28 = .ok (.aload_n 0, 1) := by decide +kernel
theorem dX5_causes_29 : decode cX5_causes 29 = .ok (.getfield 16, 3) := by decide +kernel
theorem dX5_causes_32 : decode cX5_causes 32 = .ok (.iload_n 3, 1) := by decide +kernel
theorem dX5_causes_33 : decode cX5_causes 33 = .ok (.iconst 1, 1) := by decide +kernel
theorem dX5_causes_34 : decode cX5_causes 34 = .ok (.isub, 1) := by decide +kernel
theorem dX5_causes_35 : decode cX5_causes 35 = .ok (.iaload, 1) := by decide +kernel
theorem dX5_causes_36 : decode cX5_causes 36 = .ok (.iastore, 1) := by decide +kernel
theorem dX5_causes_37 : decode cX5_causes 37 = .ok (.iinc 3 (-1), 3) := by decide +kernel
theorem dX5_causes_40 : decode cX5_causes 40 = .ok (.goto (-35), 3) := by decide +kernel
theorem dX5_causes_43 : decode cX5_causes 43 = .ok (.aload_n 0, 1) := by decide +kernel
theorem dX5_causes_44 : decode cX5_causes 44 = .ok (.getfield 13, 3) := by decide +kernel
theorem dX5_causes_47 : decode cX5_causes 47 = .ok (.iconst 0, 1) := by decide +kernel
theorem dX5_causes_48 : decode cX5_causes 48 = .ok (.iload_n 1, 1) := by decide +kernel
theorem dX5_causes_49 : decode cX5_causes 49 = .ok (.iastore, 1) := by decide +kernel
theorem dX5_causes_50 : decode cX5_causes 50 = .ok (.aload_n 0, 1) := by decide +kernel
theorem dX5_causes_51 : decode cX5_causes 51 = .ok (.getfield 16, 3) := by decide +kernel
theorem dX5_causes_54 : decode cX5_causes 54 = .ok (.iconst 0, 1) := by decide +kernel
theorem dX5_causes_55 : decode cX5_causes 55 = .ok (.iload_n 2, 1) := by decide +kernel
theorem dX5_causes_56 : decode cX5_causes 56 = .ok (.iastore, 1) := by decide +kernel
theorem dX5_causes_57 : decode cX5_causes 57 = .ok (.aload_n 0, 1) := by decide +kernel
theorem dX5_causes_58 : decode cX5_causes 58 = .ok (.dup, 1) := by decide +kernel
theorem dX5_causes_59 : decode cX5_causes 59 = .ok (.getfield 37, 3) := by decide +kernel
theorem dX5_causes_62 : decode cX5_causes 62 = .ok (.iconst 1, 1) := by decide +kernel
theorem dX5_causes_63 : decode cX5_causes 63 = .ok (.iadd, 1) := by decide +kernel
theorem dX5_causes_64 : decode cX5_causes 64 = .ok (.putfield 37, 3) := by decide +kernel
theorem dX5_causes_67 : decode cX5_causes 67 = .ok (.return_, 1) := by decide +kernel
theorem dX5_reason_0 : decode cX5_reason 0 = .ok (.iload_n 1, 1) := by decide +kernel
theorem dX5_reason_1 : decode cX5_reason 1 = .ok (.iconst 0, 1) := by decide +kernel
theorem dX5_reason_2 : decode cX5_reason 2 = .ok (.iconst 2, 1) := by decide +kernel
theorem dX5_reason_3 : decode cX5_reason 3 = .ok (.invokestatic 40, 3) := by decide +kernel
theorem dX5_reason_6 : decode cX5_reason 6 = .ok (.ifCond .ne 7, 3) := by decide +kernel
theorem dX5_reason_9 : decode cX5_reason 9 = .ok (.sipush (-1012), 3) := by decide +kernel
theorem dX5_reason_12 : decode cX5_reason 12 = .ok (.ireturn, 1) := by decide +kernel
theorem dX5_reason_13 : decode cX5_reason 13 = .ok (.iload_n 1, 1) := by decide +kernel
theorem dX5_reason_14 : decode cX5_reason 14 = .ok (.aload_n 0, 1) := by decide +kernel
theorem dX5_reason_15 : decode cX5_reason 15 = .ok (.getfield 37, 3) := by decide +kernel
theorem dX5_reason_18 : decode cX5_reason 18 = .ok (.if_icmp .lt 9, 3) := by decide +kernel
theorem dX5_reason_21 : decode cX5_reason 21 = .ok (.sipush (-1015), 3) := by decide +kernel
theorem dX5_reason_24 : decode cX5_reason 24 = .ok (.goto 22, 3) := by decide +kernel
theorem dX5_reason_27 : decode cX5_reason 27 = .ok (.iload_n 2, 1) := by decide +kernel
theorem dX5_reason_28 : decode cX5_reason 28 = .ok (.ifCond .eq 12, 3) := by decide +kernel
theorem dX5_reason_31 : decode cX5_reason 31 = .ok (.aload_n 0, 1) := by decide +kernel
theorem dX5_reason_32 : decode cX5_reason 32 = .ok (.getfield 16, 3) := by decide +kernel
theorem dX5_reason_35 : decode cX5_reason 35 = .ok (.iload_n 1, 1) := by decide +kernel
theorem dX5_reason_36 : decode cX5_reason 36 = .ok (.iaload, 1) := by decide +kernel
theorem dX5_reason_37 : decode cX5_reason 37 = .ok (.goto 9, 3) := by decide +kernel
theorem dX5_reason_40 : decode cX5_reason 40 = .ok (.aload_n 0, 1) := by decide +kernel
theorem dX5_reason_41 : decode cX5_reason 41 = .ok (.getfield 13, 3) := by decide +kernel
theorem dX5_reason_44 : decode cX5_reason 44 = .ok (.iload_n 1, 1) := by decide +kernel
theorem dX5_reason_45 : decode cX5_reason 45 = .ok (.iaload, 1) := by decide +kernel
theorem dX5_reason_46 : decode cX5_reason 46 = .ok (.ireturn, 1) := by decide +kernel
theorem dX5_m_0 : decode cX5_m 0 = .ok (.aload_n 0, 1) := by decide +kernel
theorem dX5_m_1 : decode cX5_m 1 = .ok (.getfield 9, 3) := by decide +kernel
theorem dX5_m_4 : decode cX5_m 4 = .ok (.iconst 5, 1) := by decide +kernel
theorem dX5_m_5 : decode cX5_m 5 = .ok (.iconst 3, 1) := by decide +kernel
theorem dX5_m_6 : decode cX5_m 6 = .ok (.iload_n 1, 1) := by decide +kernel
theorem dX5_m_7 : decode cX5_m 7 = .ok (.imul, 1) := by decide +kernel
theorem dX5_m_8 : decode cX5_m 8 = .ok (.iadd, 1) := by decide +kernel
theorem dX5_m_9 : decode cX5_m 9 = .ok (.iload_n 2, 1) := by decide +kernel
theorem dX5_m_10 : decode cX5_m 10 = .ok (.iadd, 1) := by decide +kernel
theorem dX5_m_11 : decode cX5_m 11 = .ok (.iaload, 1) := by decide +kernel
theorem dX5_m_12 : decode cX5_m 12 = .ok (.ireturn, 1) := by decide +kernel
theorem dX5_kt_0 : decode cX5_kt 0 = .ok (.aload_n 0, 1) := by decide +kernel
theorem dX5_kt_1 : decode cX5_kt 1 = .ok (.getfield 9, 3) := by decide +kernel
theorem dX5_kt_4 : decode cX5_kt 4 = .ok (.bipush 35, 2) := by decide +kernel
theorem dX5_kt_6 : decode cX5_kt 6 = .ok (.bipush 9, 2) := by decide +kernel
theorem dX5_kt_8 : decode cX5_kt 8 = .ok (.iload_n 1, 1) := by decide +kernel
theorem dX5_kt_9 : decode cX5_kt 9 = .ok (.imul, 1) := by decide +kernel
theorem dX5_kt_10 : decode cX5_kt 10 = .ok (.iadd, 1) := by decide +kernel
theorem dX5_kt_11 : decode cX5_kt 11 = .ok (.iload_n 2, 1) := by decide +kernel
theorem dX5_kt_12 : decode cX5_kt 12 = .ok (.iadd, 1) := by decide +kernel
theorem dX5_kt_13 : decode cX5_kt 13 = .ok (.iaload, 1) := by decide +kernel
theorem dX5_kt_14 : decode cX5_kt 14 = .ok (.ireturn, 1) := by decide +kernel
theorem dX5_puts_0 : decode cX5_puts 0 = .ok (.aload_n 0, 1) := by decide +kernel
theorem dX5_puts_1 : decode cX5_puts 1 = .ok (.getfield 9, 3) := by decide +kernel
theorem dX5_puts_4 : decode cX5_puts 4 = .ok (.bipush 35, 2) := by decide +kernel
theorem dX5_puts_6 : decode cX5_puts 6 = .ok (.bipush 9, 2) := by decide +kernel
theorem dX5_puts_8 : decode cX5_puts 8 = .ok (.iload_n 1, 1) := by decide +kernel
theorem dX5_puts_9 : decode cX5_puts 9 = .ok (.imul, 1) := by decide +kernel
theorem dX5_puts_10 : decode cX5_puts 10 = .ok (.iadd, 1) := by decide +kernel
theorem dX5_puts_11 : decode cX5_puts 11 = .ok (.iload_n 2, 1) := by decide +kernel
theorem dX5_puts_12 : decode cX5_puts 12 = .ok (.iadd, 1) := by decide +kernel
theorem dX5_puts_13 : decode cX5_puts 13 = .ok (.iload_n 3, 1) := by decide +kernel
theorem dX5_puts_14 : decode cX5_puts 14 = .ok (.iastore, 1) := by decide +kernel
theorem dX5_puts_15 : decode cX5_puts 15 = .ok (.return_, 1) := by decide +kernel
theorem dX5_isKettle_0 : decode cX5_isKettle 0 = .ok (.iload_n 1, 1) := by decide +kernel
theorem dX5_isKettle_1 : decode cX5_isKettle 1 = .ok (.iconst 0, 1) := by decide +kernel
theorem dX5_isKettle_2 : decode cX5_isKettle 2 = .ok (.aload_n 0, 1) := by decide +kernel
theorem dX5_isKettle_3 : decode cX5_isKettle 3 = .ok (.getfield 9, 3) := by decide +kernel
theorem dX5_isKettle_6 : decode cX5_isKettle 6 = .ok (.iconst 1, 1) := by decide +kernel
theorem dX5_isKettle_7 : decode cX5_isKettle 7 = .ok (.iaload, 1) := by decide +kernel
theorem dX5_isKettle_8 : decode cX5_isKettle 8 = .ok (.iconst 1, 1) := by decide +kernel
theorem dX5_isKettle_9 : decode cX5_isKettle 9 = .ok (.isub, 1) := by decide +kernel
theorem dX5_isKettle_10 : decode cX5_isKettle 10 = .ok (.invokestatic 40, 3) := by decide +kernel
theorem dX5_isKettle_13 : decode cX5_isKettle 13 = .ok (.ireturn, 1) := by decide +kernel
theorem dX5_isMember_0 : decode cX5_isMember 0 = .ok (.iload_n 0, 1) := by decide +kernel
theorem dX5_isMember_1 : decode cX5_isMember 1 = .ok (.iconst 0, 1) := by decide +kernel
theorem dX5_isMember_2 : decode cX5_isMember 2 = .ok (.iconst 3, 1) := by decide +kernel
theorem dX5_isMember_3 : decode cX5_isMember 3 = .ok (.invokestatic 40, 3) := by decide +kernel
theorem dX5_isMember_6 : decode cX5_isMember 6 = .ok (.ireturn, 1) := by decide +kernel
theorem dX5_isStove_0 : decode cX5_isStove 0 = .ok (.iload_n 0, 1) := by decide +kernel
theorem dX5_isStove_1 : decode cX5_isStove 1 = .ok (.iconst 0, 1) := by decide +kernel
theorem dX5_isStove_2 : decode cX5_isStove 2 = .ok (.iconst 5, 1) := by decide +kernel
theorem dX5_isStove_3 : decode cX5_isStove 3 = .ok (.invokestatic 40, 3) := by decide +kernel
theorem dX5_isStove_6 : decode cX5_isStove 6 = .ok (.ireturn, 1) := by decide +kernel
theorem dX5_isPitch_0 : decode cX5_isPitch 0 = .ok (.iload_n 0, 1) := by decide +kernel
theorem dX5_isPitch_1 : decode cX5_isPitch 1 = .ok (.iconst 1, 1) := by decide +kernel
theorem dX5_isPitch_2 : decode cX5_isPitch 2 = .ok (.bipush 12, 2) := by decide +kernel
theorem dX5_isPitch_4 : decode cX5_isPitch 4 = .ok (.invokestatic 40, 3) := by decide +kernel
theorem dX5_isPitch_7 : decode cX5_isPitch 7 = .ok (.ireturn, 1) := by decide +kernel
theorem dX5_ownerOf_0 : decode cX5_ownerOf 0 = .ok (.aload_n 0, 1) := by decide +kernel
theorem dX5_ownerOf_1 : decode cX5_ownerOf 1 = .ok (.getfield 9, 3) := by decide +kernel
theorem dX5_ownerOf_4 : decode cX5_ownerOf 4 = .ok (.bipush 17, 2) := by decide +kernel
theorem dX5_ownerOf_6 : decode cX5_ownerOf 6 = .ok (.iload_n 1, 1) := by decide +kernel
theorem dX5_ownerOf_7 : decode cX5_ownerOf 7 = .ok (.iadd, 1) := by decide +kernel
theorem dX5_ownerOf_8 : decode cX5_ownerOf 8 = .ok (.iconst 1, 1) := by decide +kernel
theorem dX5_ownerOf_9 : decode cX5_ownerOf 9 = .ok (.isub, 1) := by decide +kernel
theorem dX5_ownerOf_10 : decode cX5_ownerOf 10 = .ok (.iaload, 1) := by decide +kernel
theorem dX5_ownerOf_11 : decode cX5_ownerOf 11 = .ok (.iconst 1, 1) := by decide +kernel
theorem dX5_ownerOf_12 : decode cX5_ownerOf 12 = .ok (.isub, 1) := by decide +kernel
theorem dX5_ownerOf_13 : decode cX5_ownerOf 13 = .ok (.ireturn, 1) := by decide +kernel
theorem dX5_pitchesOf_0 : decode cX5_pitchesOf 0 = .ok (.iconst 0, 1) := by decide +kernel
theorem dX5_pitchesOf_1 : decode cX5_pitchesOf 1 = .ok (.istore_n 2, 1) := by decide +kernel
theorem dX5_pitchesOf_2 : decode cX5_pitchesOf 2 = .ok (.iconst 1, 1) := by decide +kernel
theorem dX5_pitchesOf_3 : decode cX5_pitchesOf 3 = .ok (.istore_n 3, 1) := by decide +kernel
theorem dX5_pitchesOf_4 : decode cX5_pitchesOf 4 = .ok (.iload_n 3, 1) := by decide +kernel
theorem dX5_pitchesOf_5 : decode cX5_pitchesOf 5 = .ok (.bipush 13, 2) := by decide +kernel
theorem dX5_pitchesOf_7 : decode cX5_pitchesOf 7 = .ok (.if_icmp .ge 26, 3) := by decide +kernel
theorem dX5_pitchesOf_10 : decode cX5_pitchesOf 10 = .ok (.iload_n 2, 1) := by decide +kernel
theorem dX5_pitchesOf_11 : decode cX5_pitchesOf 11 = .ok (.aload_n 0, 1) := by decide +kernel
theorem dX5_pitchesOf_12 : decode cX5_pitchesOf 12 = .ok (.iload_n 3, 1) := by decide +kernel
theorem dX5_pitchesOf_13 : decode cX5_pitchesOf 13 = .ok (.invokevirtual 44, 3) := by decide +kernel
theorem dX5_pitchesOf_16 : decode cX5_pitchesOf 16 = .ok (.iload_n 1, 1) := by decide +kernel
theorem dX5_pitchesOf_17 : decode cX5_pitchesOf 17 = .ok (.if_icmp .ne 7, 3) := by decide +kernel
theorem dX5_pitchesOf_20 : decode cX5_pitchesOf 20 = .ok (.iconst 1, 1) := by decide +kernel
theorem dX5_pitchesOf_21 : decode cX5_pitchesOf 21 = .ok (.goto 4, 3) := by decide +kernel
theorem dX5_pitchesOf_24 : decode cX5_pitchesOf 24 = .ok (.iconst 0, 1) := by decide +kernel
theorem dX5_pitchesOf_25 : decode cX5_pitchesOf 25 = .ok (.iadd, 1) := by decide +kernel
theorem dX5_pitchesOf_26 : decode cX5_pitchesOf 26 = .ok (.istore_n 2, 1) := by decide +kernel
theorem dX5_pitchesOf_27 : decode cX5_pitchesOf 27 = .ok (.iinc 3 1, 3) := by decide +kernel
theorem dX5_pitchesOf_30 : decode cX5_pitchesOf 30 = .ok (.goto (-26), 3) := by decide +kernel
theorem dX5_pitchesOf_33 : decode cX5_pitchesOf 33 = .ok (.iload_n 2, 1) := by decide +kernel
theorem dX5_pitchesOf_34 : decode cX5_pitchesOf 34 = .ok (.ireturn, 1) := by decide +kernel
theorem dX5_isOnStove_0 : decode cX5_isOnStove 0 = .ok (.aload_n 0, 1) := by decide +kernel
theorem dX5_isOnStove_1 : decode cX5_isOnStove 1 = .ok (.iload_n 1, 1) := by decide +kernel
theorem dX5_isOnStove_2 : decode cX5_isOnStove 2 = .ok (.iconst 5, 1) := by decide +kernel
theorem dX5_isOnStove_3 : decode cX5_isOnStove 3 = .ok (.invokevirtual 48, 3) := by decide +kernel
theorem dX5_isOnStove_6 : decode cX5_isOnStove 6 = .ok (.ifCond .le 7, 3) := by decide +kernel
theorem dX5_isOnStove_9 : decode cX5_isOnStove 9 = .ok (.iconst 1, 1) := by decide +kernel
theorem dX5_isOnStove_10 : decode cX5_isOnStove 10 = .ok (.goto 4, 3) := by decide +kernel
theorem dX5_isOnStove_13 : decode cX5_isOnStove 13 = .ok (.iconst 0, 1) := by decide +kernel
theorem dX5_isOnStove_14 : decode cX5_isOnStove 14 = .ok (.ireturn, 1) := by decide +kernel
theorem dX5_heatUnder_0 : decode cX5_heatUnder 0 = .ok (.aload_n 0, 1) := by decide +kernel
theorem dX5_heatUnder_1 : decode cX5_heatUnder 1 = .ok (.iload_n 1, 1) := by decide +kernel
theorem dX5_heatUnder_2 : decode cX5_heatUnder 2 = .ok (.invokevirtual 52, 3) := by decide +kernel
theorem dX5_heatUnder_5 : decode cX5_heatUnder 5 = .ok (.ifCond .eq 22, 3) := by decide +kernel
theorem dX5_heatUnder_8 : decode cX5_heatUnder 8 = .ok (.aload_n 0, 1) := by decide +kernel
theorem dX5_heatUnder_9 : decode cX5_heatUnder 9 = .ok (.getfield 9, 3) := by decide +kernel
theorem dX5_heatUnder_12 : decode cX5_heatUnder 12 = .ok (.bipush 29, 2) := by decide +kernel
theorem dX5_heatUnder_14 : decode cX5_heatUnder 14 = .ok (.aload_n 0, 1) := by decide +kernel
theorem dX5_heatUnder_15 : decode cX5_heatUnder 15 = .ok (.iload_n 1, 1) := by decide +kernel
theorem dX5_heatUnder_16 : decode cX5_heatUnder 16 = .ok (.iconst 5, 1) := by decide +kernel
theorem dX5_heatUnder_17 : decode cX5_heatUnder 17 = .ok (.invokevirtual 48, 3) := by decide +kernel
theorem dX5_heatUnder_20 : decode cX5_heatUnder 20 = .ok (.iadd, 1) := by decide +kernel
theorem dX5_heatUnder_21 : decode cX5_heatUnder 21 = .ok (.iconst 1, 1) := by decide +kernel
theorem dX5_heatUnder_22 : decode cX5_heatUnder 22 = .ok (.isub, 1) := by decide +kernel
theorem dX5_heatUnder_23 : decode cX5_heatUnder 23 = .ok (.iaload, 1) := by decide +kernel
theorem dX5_heatUnder_24 : decode cX5_heatUnder 24 = .ok (.goto 4, 3) := by decide +kernel
theorem dX5_heatUnder_27 : decode cX5_heatUnder 27 = .ok (.iconst 0, 1) := by decide +kernel
theorem dX5_heatUnder_28 : decode cX5_heatUnder 28 = .ok (.ireturn, 1) := by decide +kernel
theorem dX5_boils_0 : decode cX5_boils 0 = .ok (.aload_n 0, 1) := by decide +kernel
theorem dX5_boils_1 : decode cX5_boils 1 = .ok (.iload_n 1, 1) := by decide +kernel
theorem dX5_boils_2 : decode cX5_boils 2 = .ok (.invokevirtual 56, 3) := by decide +kernel
theorem dX5_boils_5 : decode cX5_boils 5 = .ok (.ifCond .le 18, 3) := by decide +kernel
theorem dX5_boils_8 : decode cX5_boils 8 = .ok (.aload_n 0, 1) := by decide +kernel
theorem dX5_boils_9 : decode cX5_boils 9 = .ok (.iload_n 1, 1) := by decide +kernel
theorem dX5_boils_10 : decode cX5_boils 10 = .ok (.iconst 3, 1) := by decide +kernel
theorem dX5_boils_11 : decode cX5_boils 11 = .ok (.invokevirtual 48, 3) := by decide +kernel
theorem dX5_boils_14 : decode cX5_boils 14 = .ok (.bipush 100, 2) := by decide +kernel
theorem dX5_boils_16 : decode cX5_boils 16 = .ok (.if_icmp .ne 7, 3) := by decide +kernel
theorem dX5_boils_19 : decode cX5_boils 19 = .ok (.iconst 1, 1) := by decide +kernel
theorem dX5_boils_20 : decode cX5_boils 20 = .ok (.goto 4, 3) := by decide +kernel
theorem dX5_boils_23 : decode cX5_boils 23 = .ok (.iconst 0, 1) := by decide +kernel
theorem dX5_boils_24 : decode cX5_boils 24 = .ok (.ireturn, 1) := by decide +kernel
theorem dX5_whistles_0 : decode cX5_whistles 0 = .ok (.aload_n 0, 1) := by decide +kernel
theorem dX5_whistles_1 : decode cX5_whistles 1 = .ok (.iload_n 1, 1) := by decide +kernel
theorem dX5_whistles_2 : decode cX5_whistles 2 = .ok (.invokevirtual 59, 3) := by decide +kernel
theorem dX5_whistles_5 : decode cX5_whistles 5 = .ok (.ifCond .eq 26, 3) := by decide +kernel
theorem dX5_whistles_8 : decode cX5_whistles 8 = .ok (.aload_n 0, 1) := by decide +kernel
theorem dX5_whistles_9 : decode cX5_whistles 9 = .ok (.iload_n 1, 1) := by decide +kernel
theorem dX5_whistles_10 : decode cX5_whistles 10 = .ok (.iconst 2, 1) := by decide +kernel
theorem dX5_whistles_11 : decode cX5_whistles 11 = .ok (.invokevirtual 48, 3) := by decide +kernel
theorem dX5_whistles_14 : decode cX5_whistles 14 = .ok (.ifCond .le 17, 3) := by decide +kernel
theorem dX5_whistles_17 : decode cX5_whistles 17 = .ok (.aload_n 0, 1) := by decide +kernel
theorem dX5_whistles_18 : decode cX5_whistles 18 = .ok (.iload_n 1, 1) := by decide +kernel
theorem dX5_whistles_19 : decode cX5_whistles 19 = .ok (.iconst 4, 1) := by decide +kernel
theorem dX5_whistles_20 : decode cX5_whistles 20 = .ok (.invokevirtual 48, 3) := by decide +kernel
theorem dX5_whistles_23 : decode cX5_whistles 23 = .ok (.iconst 1, 1) := by decide +kernel
theorem dX5_whistles_24 : decode cX5_whistles 24 = .ok (.if_icmp .ne 7, 3) := by decide +kernel
theorem dX5_whistles_27 : decode cX5_whistles 27 = .ok (.iconst 1, 1) := by decide +kernel
theorem dX5_whistles_28 : decode cX5_whistles 28 = .ok (.goto 4, 3) := by decide +kernel
theorem dX5_whistles_31 : decode cX5_whistles 31 = .ok (.iconst 0, 1) := by decide +kernel
theorem dX5_whistles_32 : decode cX5_whistles 32 = .ok (.ireturn, 1) := by decide +kernel
theorem dX5_onStoves_0 : decode cX5_onStoves 0 = .ok (.iconst 0, 1) := by decide +kernel
theorem dX5_onStoves_1 : decode cX5_onStoves 1 = .ok (.istore_n 1, 1) := by decide +kernel
theorem dX5_onStoves_2 : decode cX5_onStoves 2 = .ok (.iconst 0, 1) := by decide +kernel
theorem dX5_onStoves_3 : decode cX5_onStoves 3 = .ok (.istore_n 2, 1) := by decide +kernel
theorem dX5_onStoves_4 : decode cX5_onStoves 4 = .ok (.iload_n 2, 1) := by decide +kernel
theorem dX5_onStoves_5 : decode cX5_onStoves 5 = .ok (.aload_n 0, 1) := by decide +kernel
theorem dX5_onStoves_6 : decode cX5_onStoves 6 = .ok (.getfield 9, 3) := by decide +kernel
theorem dX5_onStoves_9 : decode cX5_onStoves 9 = .ok (.iconst 1, 1) := by decide +kernel
theorem dX5_onStoves_10 : decode cX5_onStoves 10 = .ok (.iaload, 1) := by decide +kernel
theorem dX5_onStoves_11 : decode cX5_onStoves 11 = .ok (.if_icmp .ge 25, 3) := by decide +kernel
theorem dX5_onStoves_14 : decode cX5_onStoves 14 = .ok (.iload_n 1, 1) := by decide +kernel
theorem dX5_onStoves_15 : decode cX5_onStoves 15 = .ok (.aload_n 0, 1) := by decide +kernel
theorem dX5_onStoves_16 : decode cX5_onStoves 16 = .ok (.iload_n 2, 1) := by decide +kernel
theorem dX5_onStoves_17 : decode cX5_onStoves 17 = .ok (.invokevirtual 52, 3) := by decide +kernel
theorem dX5_onStoves_20 : decode cX5_onStoves 20 = .ok (.ifCond .eq 7, 3) := by decide +kernel
theorem dX5_onStoves_23 : decode cX5_onStoves 23 = .ok (.iconst 1, 1) := by decide +kernel
theorem dX5_onStoves_24 : decode cX5_onStoves 24 = .ok (.goto 4, 3) := by decide +kernel
theorem dX5_onStoves_27 : decode cX5_onStoves 27 = .ok (.iconst 0, 1) := by decide +kernel
theorem dX5_onStoves_28 : decode cX5_onStoves 28 = .ok (.iadd, 1) := by decide +kernel
theorem dX5_onStoves_29 : decode cX5_onStoves 29 = .ok (.istore_n 1, 1) := by decide +kernel
theorem dX5_onStoves_30 : decode cX5_onStoves 30 = .ok (.iinc 2 1, 3) := by decide +kernel
theorem dX5_onStoves_33 : decode cX5_onStoves 33 = .ok (.goto (-29), 3) := by decide +kernel
theorem dX5_onStoves_36 : decode cX5_onStoves 36 = .ok (.iload_n 1, 1) := by decide +kernel
theorem dX5_onStoves_37 : decode cX5_onStoves 37 = .ok (.ireturn, 1) := by decide +kernel
theorem dX5_lidsOn_0 : decode cX5_lidsOn 0 = .ok (.iconst 0, 1) := by decide +kernel
theorem dX5_lidsOn_1 : decode cX5_lidsOn 1 = .ok (.istore_n 1, 1) := by decide +kernel
theorem dX5_lidsOn_2 : decode cX5_lidsOn 2 = .ok (.iconst 0, 1) := by decide +kernel
theorem dX5_lidsOn_3 : decode cX5_lidsOn 3 = .ok (.istore_n 2, 1) := by decide +kernel
theorem dX5_lidsOn_4 : decode cX5_lidsOn 4 = .ok (.iload_n 2, 1) := by decide +kernel
theorem dX5_lidsOn_5 : decode cX5_lidsOn 5 = .ok (.aload_n 0, 1) := by decide +kernel
theorem dX5_lidsOn_6 : decode cX5_lidsOn 6 = .ok (.getfield 9, 3) := by decide +kernel
theorem dX5_lidsOn_9 : decode cX5_lidsOn 9 = .ok (.iconst 1, 1) := by decide +kernel
theorem dX5_lidsOn_10 : decode cX5_lidsOn 10 = .ok (.iaload, 1) := by decide +kernel
theorem dX5_lidsOn_11 : decode cX5_lidsOn 11 = .ok (.if_icmp .ge 18, 3) := by decide +kernel
theorem dX5_lidsOn_14 : decode cX5_lidsOn 14 = .ok (.iload_n 1, 1) := by decide +kernel
theorem dX5_lidsOn_15 : decode cX5_lidsOn 15 = .ok (.aload_n 0, 1) := by decide +kernel
theorem dX5_lidsOn_16 : decode cX5_lidsOn 16 = .ok (.iload_n 2, 1) := by decide +kernel
theorem dX5_lidsOn_17 : decode cX5_lidsOn 17 = .ok (.iconst 4, 1) := by decide +kernel
theorem dX5_lidsOn_18 : decode cX5_lidsOn 18 = .ok (.invokevirtual 48, 3) := by decide +kernel
theorem dX5_lidsOn_21 : decode cX5_lidsOn 21 = .ok (.iadd, 1) := by decide +kernel
theorem dX5_lidsOn_22 : decode cX5_lidsOn 22 = .ok (.istore_n 1, 1) := by decide +kernel
theorem dX5_lidsOn_23 : decode cX5_lidsOn 23 = .ok (.iinc 2 1, 3) := by decide +kernel
theorem dX5_lidsOn_26 : decode cX5_lidsOn 26 = .ok (.goto (-22), 3) := by decide +kernel
theorem dX5_lidsOn_29 : decode cX5_lidsOn 29 = .ok (.iload_n 1, 1) := by decide +kernel
theorem dX5_lidsOn_30 : decode cX5_lidsOn 30 = .ok (.ireturn, 1) := by decide +kernel
theorem dX5_kettleOn_0 : decode cX5_kettleOn 0 = .ok (.iconst 0, 1) := by decide +kernel
theorem dX5_kettleOn_1 : decode cX5_kettleOn 1 = .ok (.istore_n 2, 1) := by decide +kernel
theorem dX5_kettleOn_2 : decode cX5_kettleOn 2 = .ok (.iload_n 2, 1) := by decide +kernel
theorem dX5_kettleOn_3 : decode cX5_kettleOn 3 = .ok (.aload_n 0, 1) := by decide +kernel
theorem dX5_kettleOn_4 : decode cX5_kettleOn 4 = .ok (.getfield 9, 3) := by decide +kernel
theorem dX5_kettleOn_7 : decode cX5_kettleOn 7 = .ok (.iconst 1, 1) := by decide +kernel
theorem dX5_kettleOn_8 : decode cX5_kettleOn 8 = .ok (.iaload, 1) := by decide +kernel
theorem dX5_kettleOn_9 : decode cX5_kettleOn 9 = .ok (.if_icmp .ge 23, 3) := by decide +kernel
theorem dX5_kettleOn_12 : decode cX5_kettleOn 12 = .ok (.aload_n 0, 1) := by decide +kernel
theorem dX5_kettleOn_13 : decode cX5_kettleOn 13 = .ok (.iload_n 2, 1) := by decide +kernel
theorem dX5_kettleOn_14 : decode cX5_kettleOn 14 = .ok (.iconst 5, 1) := by decide +kernel
theorem dX5_kettleOn_15 : decode cX5_kettleOn 15 = .ok (.invokevirtual 48, 3) := by decide +kernel
theorem dX5_kettleOn_18 : decode cX5_kettleOn 18 = .ok (.iload_n 1, 1) := by decide +kernel
theorem dX5_kettleOn_19 : decode cX5_kettleOn 19 = .ok (.iconst 1, 1) := by decide +kernel
theorem dX5_kettleOn_20 : decode cX5_kettleOn 20 = .ok (.iadd, 1) := by decide +kernel
theorem dX5_kettleOn_21 : decode cX5_kettleOn 21 = .ok (.if_icmp .ne 5, 3) := by decide +kernel
theorem dX5_kettleOn_24 : decode cX5_kettleOn 24 = .ok (.iload_n 2, 1) := by decide +kernel
theorem dX5_kettleOn_25 : decode cX5_kettleOn 25 = .ok (.ireturn, 1) := by decide +kernel
theorem dX5_kettleOn_26 : decode cX5_kettleOn 26 = .ok (.iinc 2 1, 3) := by decide +kernel
theorem dX5_kettleOn_29 : decode cX5_kettleOn 29 = .ok (.goto (-27), 3) := by decide +kernel
theorem dX5_kettleOn_32 : decode cX5_kettleOn 32 = .ok (.iconst (-1), 1) := by decide +kernel
theorem dX5_kettleOn_33 : decode cX5_kettleOn 33 = .ok (.ireturn, 1) := by decide +kernel
theorem dX5_stoveWith_0 : decode cX5_stoveWith 0 = .ok (.iconst 0, 1) := by decide +kernel
theorem dX5_stoveWith_1 : decode cX5_stoveWith 1 = .ok (.istore_n 2, 1) := by decide +kernel
theorem dX5_stoveWith_2 : decode cX5_stoveWith 2 = .ok (.iload_n 2, 1) := by decide +kernel
theorem dX5_stoveWith_3 : decode cX5_stoveWith 3 = .ok (.aload_n 0, 1) := by decide +kernel
theorem dX5_stoveWith_4 : decode cX5_stoveWith 4 = .ok (.getfield 9, 3) := by decide +kernel
theorem dX5_stoveWith_7 : decode cX5_stoveWith 7 = .ok (.iconst 1, 1) := by decide +kernel
theorem dX5_stoveWith_8 : decode cX5_stoveWith 8 = .ok (.iaload, 1) := by decide +kernel
theorem dX5_stoveWith_9 : decode cX5_stoveWith 9 = .ok (.if_icmp .ge 36, 3) := by decide +kernel
theorem dX5_stoveWith_12 : decode cX5_stoveWith 12 = .ok (.aload_n 0, 1) := by decide +kernel
theorem dX5_stoveWith_13 : decode cX5_stoveWith 13 = .ok (.iload_n 2, 1) := by decide +kernel
theorem dX5_stoveWith_14 : decode cX5_stoveWith 14 = .ok (.invokevirtual 52, 3) := by decide +kernel
theorem dX5_stoveWith_17 : decode cX5_stoveWith 17 = .ok (.ifCond .eq 22, 3) := by decide +kernel
theorem dX5_stoveWith_20 : decode cX5_stoveWith 20 = .ok (.aload_n 0, 1) := by decide +kernel
theorem dX5_stoveWith_21 : decode cX5_stoveWith 21 = .ok (.iload_n 2, 1) := by decide +kernel
theorem dX5_stoveWith_22 : decode cX5_stoveWith 22 = .ok (.iconst 1, 1) := by decide +kernel
theorem dX5_stoveWith_23 : decode cX5_stoveWith 23 = .ok (.invokevirtual 48, 3) := by decide +kernel
theorem dX5_stoveWith_26 : decode cX5_stoveWith 26 = .ok (.iload_n 1, 1) := by decide +kernel
theorem dX5_stoveWith_27 : decode cX5_stoveWith 27 = .ok (.if_icmp .ne 12, 3) := by decide +kernel
theorem dX5_stoveWith_30 : decode cX5_stoveWith 30 = .ok (.aload_n 0, 1) := by decide +kernel
theorem dX5_stoveWith_31 : decode cX5_stoveWith 31 = .ok (.iload_n 2, 1) := by decide +kernel
theorem dX5_stoveWith_32 : decode cX5_stoveWith 32 = .ok (.iconst 5, 1) := by decide +kernel
theorem dX5_stoveWith_33 : decode cX5_stoveWith 33 = .ok (.invokevirtual 48, 3) := by decide +kernel
theorem dX5_stoveWith_36 : decode cX5_stoveWith 36 = .ok (.iconst 1, 1) := by decide +kernel
theorem dX5_stoveWith_37 : decode cX5_stoveWith 37 = .ok (.isub, 1) := by decide +kernel
theorem dX5_stoveWith_38 : decode cX5_stoveWith 38 = .ok (.ireturn, 1) := by decide +kernel
theorem dX5_stoveWith_39 : decode cX5_stoveWith 39 = .ok (.iinc 2 1, 3) := by decide +kernel
theorem dX5_stoveWith_42 : decode cX5_stoveWith 42 = .ok (.goto (-40), 3) := by decide +kernel
theorem dX5_stoveWith_45 : decode cX5_stoveWith 45 = .ok (.iconst (-1), 1) := by decide +kernel
theorem dX5_stoveWith_46 : decode cX5_stoveWith 46 = .ok (.ireturn, 1) := by decide +kernel
theorem dX5_owns_0 : decode cX5_owns 0 = .ok (.iload_n 1, 1) := by decide +kernel
theorem dX5_owns_1 : decode cX5_owns 1 = .ok (.invokestatic 62, 3) := by decide +kernel
theorem dX5_owns_4 : decode cX5_owns 4 = .ok (.ifCond .ne 7, 3) := by decide +kernel
theorem dX5_owns_7 : decode cX5_owns 7 = .ok (.sipush (-1011), 3) := by decide +kernel
theorem dX5_owns_10 : decode cX5_owns 10 = .ok (.ireturn, 1) := by decide +kernel
theorem dX5_owns_11 : decode cX5_owns 11 = .ok (.iload_n 2, 1) := by decide +kernel
theorem dX5_owns_12 : decode cX5_owns 12 = .ok (.invokestatic 65, 3) := by decide +kernel
theorem dX5_owns_15 : decode cX5_owns 15 = .ok (.ifCond .ne 7, 3) := by decide +kernel
theorem dX5_owns_18 : decode cX5_owns 18 = .ok (.sipush (-1012), 3) := by decide +kernel
theorem dX5_owns_21 : decode cX5_owns 21 = .ok (.ireturn, 1) := by decide +kernel
theorem dX5_owns_22 : decode cX5_owns 22 = .ok (.aload_n 0, 1) := by decide +kernel
theorem dX5_owns_23 : decode cX5_owns 23 = .ok (.aload_n 0, 1) := by decide +kernel
theorem dX5_owns_24 : decode cX5_owns 24 = .ok (.iload_n 2, 1) := by decide +kernel
theorem dX5_owns_25 : decode cX5_owns 25 = .ok (.invokevirtual 44, 3) := by decide +kernel
theorem dX5_owns_28 : decode cX5_owns 28 = .ok (.ifCond .lt 7, 3) := by decide +kernel
theorem dX5_owns_31 : decode cX5_owns 31 = .ok (.iconst 1, 1) := by decide +kernel
theorem dX5_owns_32 : decode cX5_owns 32 = .ok (.goto 4, 3) := by decide +kernel
theorem dX5_owns_35 : decode cX5_owns 35 = .ok (.iconst 0, 1) := by decide +kernel
theorem dX5_owns_36 : decode cX5_owns 36 = .ok (.iconst 2, 1) := by decide +kernel
theorem dX5_owns_37 : decode cX5_owns 37 = .ok (.aload_n 0, 1) := by decide +kernel
theorem dX5_owns_38 : decode cX5_owns 38 = .ok (.iload_n 2, 1) := by decide +kernel
theorem dX5_owns_39 : decode cX5_owns 39 = .ok (.invokevirtual 44, 3) := by decide +kernel
theorem dX5_owns_42 : decode cX5_owns 42 = .ok (.invokevirtual 68, 3) := by decide +kernel
theorem dX5_owns_45 : decode cX5_owns 45 = .ok (.ifCond .ne 26, 3) := by decide +kernel
theorem dX5_owns_48 : decode cX5_owns 48 = .ok (.aload_n 0, 1) := by decide +kernel
theorem dX5_owns_49 : decode cX5_owns 49 = .ok (.aload_n 0, 1) := by decide +kernel
theorem dX5_owns_50 : decode cX5_owns 50 = .ok (.iload_n 1, 1) := by decide +kernel
theorem dX5_owns_51 : decode cX5_owns 51 = .ok (.invokevirtual 72, 3) := by decide +kernel
theorem dX5_owns_54 : decode cX5_owns 54 = .ok (.iconst 4, 1) := by decide +kernel
theorem dX5_owns_55 : decode cX5_owns 55 = .ok (.if_icmp .ne 7, 3) := by decide +kernel
theorem dX5_owns_58 : decode cX5_owns 58 = .ok (.iconst 1, 1) := by decide +kernel
theorem dX5_owns_59 : decode cX5_owns 59 = .ok (.goto 4, 3) := by decide +kernel
theorem dX5_owns_62 : decode cX5_owns 62 = .ok (.iconst 0, 1) := by decide +kernel
theorem dX5_owns_63 : decode cX5_owns 63 = .ok (.iconst 1, 1) := by decide +kernel
theorem dX5_owns_64 : decode cX5_owns 64 = .ok (.iconst 4, 1) := by decide +kernel
theorem dX5_owns_65 : decode cX5_owns 65 = .ok (.invokevirtual 68, 3) := by decide +kernel
theorem dX5_owns_68 : decode cX5_owns 68 = .ok (.ifCond .eq 7, 3) := by decide +kernel
theorem dX5_owns_71 : decode cX5_owns 71 = .ok (.sipush (-1014), 3) := by decide +kernel
theorem dX5_owns_74 : decode cX5_owns 74 = .ok (.ireturn, 1) := by decide +kernel
theorem dX5_owns_75 : decode cX5_owns 75 = .ok (.aload_n 0, 1) := by decide +kernel
theorem dX5_owns_76 : decode cX5_owns 76 = .ok (.getfield 9, 3) := by decide +kernel
theorem dX5_owns_79 : decode cX5_owns 79 = .ok (.bipush 17, 2) := by decide +kernel
theorem dX5_owns_81 : decode cX5_owns 81 = .ok (.iload_n 2, 1) := by decide +kernel
theorem dX5_owns_82 : decode cX5_owns 82 = .ok (.iadd, 1) := by decide +kernel
theorem dX5_owns_83 : decode cX5_owns 83 = .ok (.iconst 1, 1) := by decide +kernel
theorem dX5_owns_84 : decode cX5_owns 84 = .ok (.isub, 1) := by decide +kernel
theorem dX5_owns_85 : decode cX5_owns 85 = .ok (.iload_n 1, 1) := by decide +kernel
theorem dX5_owns_86 : decode cX5_owns 86 = .ok (.iconst 1, 1) := by decide +kernel
theorem dX5_owns_87 : decode cX5_owns 87 = .ok (.iadd, 1) := by decide +kernel
theorem dX5_owns_88 : decode cX5_owns 88 = .ok (.iastore, 1) := by decide +kernel
theorem dX5_owns_89 : decode cX5_owns 89 = .ok (.aload_n 0, 1) := by decide +kernel
theorem dX5_owns_90 : decode cX5_owns 90 = .ok (.iload_n 1, 1) := by decide +kernel
theorem dX5_owns_91 : decode cX5_owns 91 = .ok (.invokevirtual 72, 3) := by decide +kernel
theorem dX5_owns_94 : decode cX5_owns 94 = .ok (.ireturn, 1) := by decide +kernel
theorem dX5_own_0 : decode cX5_own 0 = .ok (.aload_n 0, 1) := by decide +kernel
theorem dX5_own_1 : decode cX5_own 1 = .ok (.invokevirtual 75, 3) := by decide +kernel
theorem dX5_own_4 : decode cX5_own 4 = .ok (.aload_n 0, 1) := by decide +kernel
theorem dX5_own_5 : decode cX5_own 5 = .ok (.aload_n 0, 1) := by decide +kernel
theorem dX5_own_6 : decode cX5_own 6 = .ok (.iload_n 1, 1) := by decide +kernel
theorem dX5_own_7 : decode cX5_own 7 = .ok (.iload_n 2, 1) := by decide +kernel
theorem dX5_own_8 : decode cX5_own 8 = .ok (.invokevirtual 78, 3) := by decide +kernel
theorem dX5_own_11 : decode cX5_own 11 = .ok (.invokevirtual 81, 3) := by decide +kernel
theorem dX5_own_14 : decode cX5_own 14 = .ok (.ireturn, 1) := by decide +kernel
theorem dX5_brings_0 : decode cX5_brings 0 = .ok (.iload_n 1, 1) := by decide +kernel
theorem dX5_brings_1 : decode cX5_brings 1 = .ok (.invokestatic 62, 3) := by decide +kernel
theorem dX5_brings_4 : decode cX5_brings 4 = .ok (.ifCond .ne 7, 3) := by decide +kernel
theorem dX5_brings_7 : decode cX5_brings 7 = .ok (.sipush (-1011), 3) := by decide +kernel
theorem dX5_brings_10 : decode cX5_brings 10 = .ok (.ireturn, 1) := by decide +kernel
theorem dX5_brings_11 : decode cX5_brings 11 = .ok (.iload_n 2, 1) := by decide +kernel
theorem dX5_brings_12 : decode cX5_brings 12 = .ok (.invokestatic 65, 3) := by decide +kernel
theorem dX5_brings_15 : decode cX5_brings 15 = .ok (.ifCond .eq 13, 3) := by decide +kernel
theorem dX5_brings_18 : decode cX5_brings 18 = .ok (.iload_n 3, 1) := by decide +kernel
theorem dX5_brings_19 : decode cX5_brings 19 = .ok (.iconst 0, 1) := by decide +kernel
theorem dX5_brings_20 : decode cX5_brings 20 = .ok (.bipush 20, 2) := by decide +kernel
theorem dX5_brings_22 : decode cX5_brings 22 = .ok (.invokestatic 40, 3) := by decide +kernel
theorem dX5_brings_25 : decode cX5_brings 25 = .ok (.ifCond .ne 7, 3) := by decide +kernel
theorem dX5_brings_28 : decode cX5_brings 28 = .ok (.sipush (-1012), 3) := by decide +kernel
theorem dX5_brings_31 : decode cX5_brings 31 = .ok (.ireturn, 1) := by decide +kernel
theorem dX5_brings_32 : decode cX5_brings 32 = .ok (.aload_n 0, 1) := by decide +kernel
theorem dX5_brings_33 : decode cX5_brings 33 = .ok (.getfield 9, 3) := by decide +kernel
theorem dX5_brings_36 : decode cX5_brings 36 = .ok (.iconst 1, 1) := by decide +kernel
theorem dX5_brings_37 : decode cX5_brings 37 = .ok (.iaload, 1) := by decide +kernel
theorem dX5_brings_38 : decode cX5_brings 38 = .ok (.istore 4, 2) := by decide +kernel
theorem dX5_brings_40 : decode cX5_brings 40 = .ok (.aload_n 0, 1) := by decide +kernel
theorem dX5_brings_41 : decode cX5_brings 41 = .ok (.aload_n 0, 1) := by decide +kernel
theorem dX5_brings_42 : decode cX5_brings 42 = .ok (.iload_n 2, 1) := by decide +kernel
theorem dX5_brings_43 : decode cX5_brings 43 = .ok (.invokevirtual 44, 3) := by decide +kernel
theorem dX5_brings_46 : decode cX5_brings 46 = .ok (.iload_n 1, 1) := by decide +kernel
theorem dX5_brings_47 : decode cX5_brings 47 = .ok (.if_icmp .eq 7, 3) := by decide +kernel
theorem dX5_brings_50 : decode cX5_brings 50 = .ok (.iconst 1, 1) := by decide +kernel
theorem dX5_brings_51 : decode cX5_brings 51 = .ok (.goto 4, 3) := by decide +kernel
theorem dX5_brings_54 : decode cX5_brings 54 = .ok (.iconst 0, 1) := by decide +kernel
theorem dX5_brings_55 : decode cX5_brings 55 = .ok (.iconst 3, 1) := by decide +kernel
theorem dX5_brings_56 : decode cX5_brings 56 = .ok (.aload_n 0, 1) := by decide +kernel
theorem dX5_brings_57 : decode cX5_brings 57 = .ok (.iload_n 2, 1) := by decide +kernel
theorem dX5_brings_58 : decode cX5_brings 58 = .ok (.invokevirtual 44, 3) := by decide +kernel
theorem dX5_brings_61 : decode cX5_brings 61 = .ok (.invokevirtual 68, 3) := by decide +kernel
theorem dX5_brings_64 : decode cX5_brings 64 = .ok (.ifCond .ne 25, 3) := by decide +kernel
theorem dX5_brings_67 : decode cX5_brings 67 = .ok (.aload_n 0, 1) := by decide +kernel
theorem dX5_brings_68 : decode cX5_brings 68 = .ok (.iload 4, 2) := by decide +kernel
theorem dX5_brings_70 : decode cX5_brings 70 = .ok (.bipush 10, 2) := by decide +kernel
theorem dX5_brings_72 : decode cX5_brings 72 = .ok (.if_icmp .ne 7, 3) := by decide +kernel
theorem dX5_brings_75 : decode cX5_brings 75 = .ok (.iconst 1, 1) := by decide +kernel
theorem dX5_brings_76 : decode cX5_brings 76 = .ok (.goto 4, 3) := by decide +kernel
theorem dX5_brings_79 : decode cX5_brings 79 = .ok (.iconst 0, 1) := by decide +kernel
theorem dX5_brings_80 : decode cX5_brings 80 = .ok (.iconst 1, 1) := by decide +kernel
theorem dX5_brings_81 : decode cX5_brings 81 = .ok (.bipush 10, 2) := by decide +kernel
theorem dX5_brings_83 : decode cX5_brings 83 = .ok (.invokevirtual 68, 3) := by decide +kernel
theorem dX5_brings_86 : decode cX5_brings 86 = .ok (.ifCond .eq 7, 3) := by decide +kernel
theorem dX5_brings_89 : decode cX5_brings 89 = .ok (.sipush (-1014), 3) := by decide +kernel
theorem dX5_brings_92 : decode cX5_brings 92 = .ok (.ireturn, 1) := by decide +kernel
theorem dX5_brings_93 : decode cX5_brings 93 = .ok (.aload_n 0, 1) := by decide +kernel
theorem dX5_brings_94 : decode cX5_brings 94 = .ok (.getfield 9, 3) := by decide +kernel
theorem dX5_brings_97 : decode cX5_brings 97 = .ok (.iconst 1, 1) := by decide +kernel
theorem dX5_brings_98 : decode cX5_brings 98 = .ok (.dup2, 1) := by decide +kernel
theorem dX5_brings_99 : decode cX5_brings 99 = .ok (.iaload, 1) := by decide +kernel
theorem dX5_brings_100 : decode cX5_brings 100 = .ok (.iconst 1, 1) := by decide +kernel
theorem dX5_brings_101 : decode cX5_brings 101 = .ok (.iadd, 1) := by decide +kernel
theorem dX5_brings_102 : decode cX5_brings 102 = .ok (.iastore, 1) := by decide +kernel
theorem dX5_brings_103 : decode cX5_brings 103 = .ok (.iconst 0, 1) := by decide +kernel
theorem dX5_brings_104 : decode cX5_brings 104 = .ok (.istore 5, 2) := by decide +kernel
theorem dX5_brings_106 : decode cX5_brings 106 = .ok (.iload 5, 2) := by decide +kernel
theorem dX5_brings_108 : decode cX5_brings 108 = .ok (.bipush 9, 2) := by decide +kernel
theorem dX5_brings_110 : decode cX5_brings 110 = .ok (.if_icmp .ge 18, 3) := by decide +kernel
theorem dX5_brings_113 : decode cX5_brings 113 = .ok (.aload_n 0, 1) := by decide +kernel
theorem dX5_brings_114 : decode cX5_brings 114 = .ok (.iload 4, 2) := by decide +kernel
theorem dX5_brings_116 : decode cX5_brings 116 = .ok (.iload 5, 2) := by decide +kernel
theorem dX5_brings_118 : decode cX5_brings 118 = .ok (.iconst 0, 1) := by decide +kernel
theorem dX5_brings_119 : decode cX5_brings 119 = .ok (.invokevirtual 84, 3) := by decide +kernel
theorem dX5_brings_122 : decode cX5_brings 122 = .ok (.iinc 5 1, 3) := by decide +kernel
theorem dX5_brings_125 : decode cX5_brings 125 = .ok (.goto (-19), 3) := by decide +kernel
theorem dX5_brings_128 : decode cX5_brings 128 = .ok (.aload_n 0, 1) := by decide +kernel
theorem dX5_brings_129 : decode cX5_brings 129 = .ok (.iload 4, 2) := by decide +kernel
theorem dX5_brings_131 : decode cX5_brings 131 = .ok (.iconst 0, 1) := by decide +kernel
theorem dX5_brings_132 : decode cX5_brings 132 = .ok (.iload_n 1, 1) := by decide +kernel
theorem dX5_brings_133 : decode cX5_brings 133 = .ok (.invokevirtual 84, 3) := by decide +kernel
theorem dX5_brings_136 : decode cX5_brings 136 = .ok (.aload_n 0, 1) := by decide +kernel
theorem dX5_brings_137 : decode cX5_brings 137 = .ok (.iload 4, 2) := by decide +kernel
theorem dX5_brings_139 : decode cX5_brings 139 = .ok (.iconst 1, 1) := by decide +kernel
theorem dX5_brings_140 : decode cX5_brings 140 = .ok (.iload_n 2, 1) := by decide +kernel
theorem dX5_brings_141 : decode cX5_brings 141 = .ok (.invokevirtual 84, 3) := by decide +kernel
theorem dX5_brings_144 : decode cX5_brings 144 = .ok (.aload_n 0, 1) := by decide +kernel
theorem dX5_brings_145 : decode cX5_brings 145 = .ok (.iload 4, 2) := by decide +kernel
theorem dX5_brings_147 : decode cX5_brings 147 = .ok (.iconst 2, 1) := by decide +kernel
theorem dX5_brings_148 : decode cX5_brings 148 = .ok (.iload_n 3, 1) := by decide +kernel
theorem dX5_brings_149 : decode cX5_brings 149 = .ok (.invokevirtual 84, 3) := by decide +kernel
theorem dX5_brings_152 : decode cX5_brings 152 = .ok (.aload_n 0, 1) := by decide +kernel
theorem dX5_brings_153 : decode cX5_brings 153 = .ok (.iload 4, 2) := by decide +kernel
theorem dX5_brings_155 : decode cX5_brings 155 = .ok (.iconst 3, 1) := by decide +kernel
theorem dX5_brings_156 : decode cX5_brings 156 = .ok (.bipush 20, 2) := by decide +kernel
theorem dX5_brings_158 : decode cX5_brings 158 = .ok (.invokevirtual 84, 3) := by decide +kernel
theorem dX5_brings_161 : decode cX5_brings 161 = .ok (.aload_n 0, 1) := by decide +kernel
theorem dX5_brings_162 : decode cX5_brings 162 = .ok (.iload 4, 2) := by decide +kernel
theorem dX5_brings_164 : decode cX5_brings 164 = .ok (.iconst 4, 1) := by decide +kernel
theorem dX5_brings_165 : decode cX5_brings 165 = .ok (.iconst 1, 1) := by decide +kernel
theorem dX5_brings_166 : decode cX5_brings 166 = .ok (.invokevirtual 84, 3) := by decide +kernel
theorem dX5_brings_169 : decode cX5_brings 169 = .ok (.aload_n 0, 1) := by decide +kernel
theorem dX5_brings_170 : decode cX5_brings 170 = .ok (.getfield 9, 3) := by decide +kernel
theorem dX5_brings_173 : decode cX5_brings 173 = .ok (.iconst 2, 1) := by decide +kernel
theorem dX5_brings_174 : decode cX5_brings 174 = .ok (.dup2, 1) := by decide +kernel
theorem dX5_brings_175 : decode cX5_brings 175 = .ok (.iaload, 1) := by decide +kernel
theorem dX5_brings_176 : decode cX5_brings 176 = .ok (.iload_n 3, 1) := by decide +kernel
theorem dX5_brings_177 : decode cX5_brings 177 = .ok (.iadd, 1) := by decide +kernel
theorem dX5_brings_178 : decode cX5_brings 178 = .ok (.iastore, 1) := by decide +kernel
theorem dX5_brings_179 : decode cX5_brings 179 = .ok (.iload 4, 2) := by decide +kernel
theorem dX5_brings_181 : decode cX5_brings 181 = .ok (.ireturn, 1) := by decide +kernel
theorem dX5_kettle_0 : decode cX5_kettle 0 = .ok (.aload_n 0, 1) := by decide +kernel
theorem dX5_kettle_1 : decode cX5_kettle 1 = .ok (.invokevirtual 75, 3) := by decide +kernel
theorem dX5_kettle_4 : decode cX5_kettle 4 = .ok (.aload_n 0, 1) := by decide +kernel
theorem dX5_kettle_5 : decode cX5_kettle 5 = .ok (.aload_n 0, 1) := by decide +kernel
theorem dX5_kettle_6 : decode cX5_kettle 6 = .ok (.iload_n 1, 1) := by decide +kernel
theorem dX5_kettle_7 : decode cX5_kettle 7 = .ok (.iload_n 2, 1) := by decide +kernel
theorem dX5_kettle_8 : decode cX5_kettle 8 = .ok (.iload_n 3, 1) := by decide +kernel
theorem dX5_kettle_9 : decode cX5_kettle 9 = .ok (.invokevirtual 88, 3) := by decide +kernel
theorem dX5_kettle_12 : decode cX5_kettle 12 = .ok (.invokevirtual 81, 3) := by decide +kernel
theorem dX5_kettle_15 : decode cX5_kettle 15 = .ok (.ireturn, 1) := by decide +kernel
theorem dX5_fills_0 : decode cX5_fills 0 = .ok (.aload_n 0, 1) := by decide +kernel
theorem dX5_fills_1 : decode cX5_fills 1 = .ok (.iload_n 1, 1) := by decide +kernel
theorem dX5_fills_2 : decode cX5_fills 2 = .ok (.invokevirtual 92, 3) := by decide +kernel
theorem dX5_fills_5 : decode cX5_fills 5 = .ok (.ifCond .ne 7, 3) := by decide +kernel
theorem dX5_fills_8 : decode cX5_fills 8 = .ok (.sipush (-1011), 3) := by decide +kernel
theorem dX5_fills_11 : decode cX5_fills 11 = .ok (.ireturn, 1) := by decide +kernel
theorem dX5_fills_12 : decode cX5_fills 12 = .ok (.iload_n 2, 1) := by decide +kernel
theorem dX5_fills_13 : decode cX5_fills 13 = .ok (.iconst 1, 1) := by decide +kernel
theorem dX5_fills_14 : decode cX5_fills 14 = .ok (.bipush 20, 2) := by decide +kernel
theorem dX5_fills_16 : decode cX5_fills 16 = .ok (.invokestatic 40, 3) := by decide +kernel
theorem dX5_fills_19 : decode cX5_fills 19 = .ok (.ifCond .ne 7, 3) := by decide +kernel
theorem dX5_fills_22 : decode cX5_fills 22 = .ok (.sipush (-1012), 3) := by decide +kernel
theorem dX5_fills_25 : decode cX5_fills 25 = .ok (.ireturn, 1) := by decide +kernel
theorem dX5_fills_26 : decode cX5_fills 26 = .ok (.aload_n 0, 1) := by decide +kernel
theorem dX5_fills_27 : decode cX5_fills 27 = .ok (.iload_n 1, 1) := by decide +kernel
theorem dX5_fills_28 : decode cX5_fills 28 = .ok (.iconst 2, 1) := by decide +kernel
theorem dX5_fills_29 : decode cX5_fills 29 = .ok (.invokevirtual 48, 3) := by decide +kernel
theorem dX5_fills_32 : decode cX5_fills 32 = .ok (.iload_n 2, 1) := by decide +kernel
theorem dX5_fills_33 : decode cX5_fills 33 = .ok (.iadd, 1) := by decide +kernel
theorem dX5_fills_34 : decode cX5_fills 34 = .ok (.istore_n 3, 1) := by decide +kernel
theorem dX5_fills_35 : decode cX5_fills 35 = .ok (.aload_n 0, 1) := by decide +kernel
theorem dX5_fills_36 : decode cX5_fills 36 = .ok (.iload_n 3, 1) := by decide +kernel
theorem dX5_fills_37 : decode cX5_fills 37 = .ok (.bipush 20, 2) := by decide +kernel
theorem dX5_fills_39 : decode cX5_fills 39 = .ok (.if_icmp .le 7, 3) := by decide +kernel
theorem dX5_fills_42 : decode cX5_fills 42 = .ok (.iconst 1, 1) := by decide +kernel
theorem dX5_fills_43 : decode cX5_fills 43 = .ok (.goto 4, 3) := by decide +kernel
theorem dX5_fills_46 : decode cX5_fills 46 = .ok (.iconst 0, 1) := by decide +kernel
theorem dX5_fills_47 : decode cX5_fills 47 = .ok (.bipush 11, 2) := by decide +kernel
theorem dX5_fills_49 : decode cX5_fills 49 = .ok (.iload_n 3, 1) := by decide +kernel
theorem dX5_fills_50 : decode cX5_fills 50 = .ok (.invokevirtual 68, 3) := by decide +kernel
theorem dX5_fills_53 : decode cX5_fills 53 = .ok (.ifCond .eq 7, 3) := by decide +kernel
theorem dX5_fills_56 : decode cX5_fills 56 = .ok (.sipush (-1014), 3) := by decide +kernel
theorem dX5_fills_59 : decode cX5_fills 59 = .ok (.ireturn, 1) := by decide +kernel
theorem dX5_fills_60 : decode cX5_fills 60 = .ok (.aload_n 0, 1) := by decide +kernel
theorem dX5_fills_61 : decode cX5_fills 61 = .ok (.iload_n 1, 1) := by decide +kernel
theorem dX5_fills_62 : decode cX5_fills 62 = .ok (.iconst 2, 1) := by decide +kernel
theorem dX5_fills_63 : decode cX5_fills 63 = .ok (.iload_n 3, 1) := by decide +kernel
theorem dX5_fills_64 : decode cX5_fills 64 = .ok (.invokevirtual 84, 3) := by decide +kernel
theorem dX5_fills_67 : decode cX5_fills 67 = .ok (.aload_n 0, 1) := by decide +kernel
theorem dX5_fills_68 : decode cX5_fills 68 = .ok (.getfield 9, 3) := by decide +kernel
theorem dX5_fills_71 : decode cX5_fills 71 = .ok (.iconst 2, 1) := by decide +kernel
theorem dX5_fills_72 : decode cX5_fills 72 = .ok (.dup2, 1) := by decide +kernel
theorem dX5_fills_73 : decode cX5_fills 73 = .ok (.iaload, 1) := by decide +kernel
theorem dX5_fills_74 : decode cX5_fills 74 = .ok (.iload_n 2, 1) := by decide +kernel
theorem dX5_fills_75 : decode cX5_fills 75 = .ok (.iadd, 1) := by decide +kernel
theorem dX5_fills_76 : decode cX5_fills 76 = .ok (.iastore, 1) := by decide +kernel
theorem dX5_fills_77 : decode cX5_fills 77 = .ok (.iload_n 3, 1) := by decide +kernel
theorem dX5_fills_78 : decode cX5_fills 78 = .ok (.ireturn, 1) := by decide +kernel
theorem dX5_fill_0 : decode cX5_fill 0 = .ok (.aload_n 0, 1) := by decide +kernel
theorem dX5_fill_1 : decode cX5_fill 1 = .ok (.invokevirtual 75, 3) := by decide +kernel
theorem dX5_fill_4 : decode cX5_fill 4 = .ok (.aload_n 0, 1) := by decide +kernel
theorem dX5_fill_5 : decode cX5_fill 5 = .ok (.aload_n 0, 1) := by decide +kernel
theorem dX5_fill_6 : decode cX5_fill 6 = .ok (.iload_n 1, 1) := by decide +kernel
theorem dX5_fill_7 : decode cX5_fill 7 = .ok (.iload_n 2, 1) := by decide +kernel
theorem dX5_fill_8 : decode cX5_fill 8 = .ok (.invokevirtual 95, 3) := by decide +kernel
theorem dX5_fill_11 : decode cX5_fill 11 = .ok (.invokevirtual 81, 3) := by decide +kernel
theorem dX5_fill_14 : decode cX5_fill 14 = .ok (.ireturn, 1) := by decide +kernel
theorem dX5_sets_0 : decode cX5_sets 0 = .ok (.aload_n 0, 1) := by decide +kernel
theorem dX5_sets_1 : decode cX5_sets 1 = .ok (.iload_n 1, 1) := by decide +kernel
theorem dX5_sets_2 : decode cX5_sets 2 = .ok (.invokevirtual 92, 3) := by decide +kernel
theorem dX5_sets_5 : decode cX5_sets 5 = .ok (.ifCond .eq 10, 3) := by decide +kernel
theorem dX5_sets_8 : decode cX5_sets 8 = .ok (.iload_n 2, 1) := by decide +kernel
theorem dX5_sets_9 : decode cX5_sets 9 = .ok (.invokestatic 98, 3) := by decide +kernel
theorem dX5_sets_12 : decode cX5_sets 12 = .ok (.ifCond .ne 7, 3) := by decide +kernel
theorem dX5_sets_15 : decode cX5_sets 15 = .ok (.sipush (-1011), 3) := by decide +kernel
theorem dX5_sets_18 : decode cX5_sets 18 = .ok (.ireturn, 1) := by decide +kernel
theorem dX5_sets_19 : decode cX5_sets 19 = .ok (.aload_n 0, 1) := by decide +kernel
theorem dX5_sets_20 : decode cX5_sets 20 = .ok (.iload_n 2, 1) := by decide +kernel
theorem dX5_sets_21 : decode cX5_sets 21 = .ok (.invokevirtual 101, 3) := by decide +kernel
theorem dX5_sets_24 : decode cX5_sets 24 = .ok (.istore_n 3, 1) := by decide +kernel
theorem dX5_sets_25 : decode cX5_sets 25 = .ok (.aload_n 0, 1) := by decide +kernel
theorem dX5_sets_26 : decode cX5_sets 26 = .ok (.aload_n 0, 1) := by decide +kernel
theorem dX5_sets_27 : decode cX5_sets 27 = .ok (.iload_n 1, 1) := by decide +kernel
theorem dX5_sets_28 : decode cX5_sets 28 = .ok (.iconst 1, 1) := by decide +kernel
theorem dX5_sets_29 : decode cX5_sets 29 = .ok (.invokevirtual 48, 3) := by decide +kernel
theorem dX5_sets_32 : decode cX5_sets 32 = .ok (.invokevirtual 104, 3) := by decide +kernel
theorem dX5_sets_35 : decode cX5_sets 35 = .ok (.istore 4, 2) := by decide +kernel
theorem dX5_sets_37 : decode cX5_sets 37 = .ok (.aload_n 0, 1) := by decide +kernel
theorem dX5_sets_38 : decode cX5_sets 38 = .ok (.aload_n 0, 1) := by decide +kernel
theorem dX5_sets_39 : decode cX5_sets 39 = .ok (.iload_n 1, 1) := by decide +kernel
theorem dX5_sets_40 : decode cX5_sets 40 = .ok (.invokevirtual 52, 3) := by decide +kernel
theorem dX5_sets_43 : decode cX5_sets 43 = .ok (.iconst 5, 1) := by decide +kernel
theorem dX5_sets_44 : decode cX5_sets 44 = .ok (.aload_n 0, 1) := by decide +kernel
theorem dX5_sets_45 : decode cX5_sets 45 = .ok (.iload_n 1, 1) := by decide +kernel
theorem dX5_sets_46 : decode cX5_sets 46 = .ok (.iconst 5, 1) := by decide +kernel
theorem dX5_sets_47 : decode cX5_sets 47 = .ok (.invokevirtual 48, 3) := by decide +kernel
theorem dX5_sets_50 : decode cX5_sets 50 = .ok (.iconst 1, 1) := by decide +kernel
theorem dX5_sets_51 : decode cX5_sets 51 = .ok (.isub, 1) := by decide +kernel
theorem dX5_sets_52 : decode cX5_sets 52 = .ok (.invokevirtual 68, 3) := by decide +kernel
theorem dX5_sets_55 : decode cX5_sets 55 = .ok (.ifCond .ne 74, 3) := by decide +kernel
theorem dX5_sets_58 : decode cX5_sets 58 = .ok (.aload_n 0, 1) := by decide +kernel
theorem dX5_sets_59 : decode cX5_sets 59 = .ok (.iload_n 3, 1) := by decide +kernel
theorem dX5_sets_60 : decode cX5_sets 60 = .ok (.ifCond .lt 7, 3) := by decide +kernel
theorem dX5_sets_63 : decode cX5_sets 63 = .ok (.iconst 1, 1) := by decide +kernel
theorem dX5_sets_64 : decode cX5_sets 64 = .ok (.goto 4, 3) := by decide +kernel
theorem dX5_sets_67 : decode cX5_sets 67 = .ok (.iconst 0, 1) := by decide +kernel
theorem dX5_sets_68 : decode cX5_sets 68 = .ok (.bipush 6, 2) := by decide +kernel
theorem dX5_sets_70 : decode cX5_sets 70 = .ok (.iload_n 3, 1) := by decide +kernel
theorem dX5_sets_71 : decode cX5_sets 71 = .ok (.invokevirtual 68, 3) := by decide +kernel
theorem dX5_sets_74 : decode cX5_sets 74 = .ok (.ifCond .ne 55, 3) := by decide +kernel
theorem dX5_sets_77 : decode cX5_sets 77 = .ok (.aload_n 0, 1) := by decide +kernel
theorem dX5_sets_78 : decode cX5_sets 78 = .ok (.iload 4, 2) := by decide +kernel
theorem dX5_sets_80 : decode cX5_sets 80 = .ok (.ifCond .lt 7, 3) := by decide +kernel
theorem dX5_sets_83 : decode cX5_sets 83 = .ok (.iconst 1, 1) := by decide +kernel
theorem dX5_sets_84 : decode cX5_sets 84 = .ok (.goto 4, 3) := by decide +kernel
theorem dX5_sets_87 : decode cX5_sets 87 = .ok (.iconst 0, 1) := by decide +kernel
theorem dX5_sets_88 : decode cX5_sets 88 = .ok (.bipush 7, 2) := by decide +kernel
theorem dX5_sets_90 : decode cX5_sets 90 = .ok (.iload 4, 2) := by decide +kernel
theorem dX5_sets_92 : decode cX5_sets 92 = .ok (.invokevirtual 68, 3) := by decide +kernel
theorem dX5_sets_95 : decode cX5_sets 95 = .ok (.ifCond .ne 34, 3) := by decide +kernel
theorem dX5_sets_98 : decode cX5_sets 98 = .ok (.aload_n 0, 1) := by decide +kernel
theorem dX5_sets_99 : decode cX5_sets 99 = .ok (.aload_n 0, 1) := by decide +kernel
theorem dX5_sets_100 : decode cX5_sets 100 = .ok (.iload_n 1, 1) := by decide +kernel
theorem dX5_sets_101 : decode cX5_sets 101 = .ok (.bipush 6, 2) := by decide +kernel
theorem dX5_sets_103 : decode cX5_sets 103 = .ok (.invokevirtual 48, 3) := by decide +kernel
theorem dX5_sets_106 : decode cX5_sets 106 = .ok (.ifCond .le 7, 3) := by decide +kernel
theorem dX5_sets_109 : decode cX5_sets 109 = .ok (.iconst 1, 1) := by decide +kernel
theorem dX5_sets_110 : decode cX5_sets 110 = .ok (.goto 4, 3) := by decide +kernel
theorem dX5_sets_113 : decode cX5_sets 113 = .ok (.iconst 0, 1) := by decide +kernel
theorem dX5_sets_114 : decode cX5_sets 114 = .ok (.bipush 8, 2) := by decide +kernel
theorem dX5_sets_116 : decode cX5_sets 116 = .ok (.aload_n 0, 1) := by decide +kernel
theorem dX5_sets_117 : decode cX5_sets 117 = .ok (.iload_n 1, 1) := by decide +kernel
theorem dX5_sets_118 : decode cX5_sets 118 = .ok (.bipush 6, 2) := by decide +kernel
theorem dX5_sets_120 : decode cX5_sets 120 = .ok (.invokevirtual 48, 3) := by decide +kernel
theorem dX5_sets_123 : decode cX5_sets 123 = .ok (.invokevirtual 68, 3) := by decide +kernel
theorem dX5_sets_126 : decode cX5_sets 126 = .ok (.ifCond .eq 13, 3) := by decide +kernel
theorem dX5_sets_129 : decode cX5_sets 129 = .ok (.aload_n 0, 1) := by decide +kernel
theorem dX5_sets_130 : decode cX5_sets 130 = .ok (.iconst 4, 1) := by decide +kernel
theorem dX5_sets_131 : decode cX5_sets 131 = .ok (.iload_n 1, 1) := by decide +kernel
theorem dX5_sets_132 : decode cX5_sets 132 = .ok (.invokevirtual 107, 3) := by decide +kernel
theorem dX5_sets_135 : decode cX5_sets 135 = .ok (.sipush (-1014), 3) := by decide +kernel
theorem dX5_sets_138 : decode cX5_sets 138 = .ok (.ireturn, 1) := by decide +kernel
theorem dX5_sets_139 : decode cX5_sets 139 = .ok (.aload_n 0, 1) := by decide +kernel
theorem dX5_sets_140 : decode cX5_sets 140 = .ok (.iload_n 1, 1) := by decide +kernel
theorem dX5_sets_141 : decode cX5_sets 141 = .ok (.iconst 5, 1) := by decide +kernel
theorem dX5_sets_142 : decode cX5_sets 142 = .ok (.iload_n 2, 1) := by decide +kernel
theorem dX5_sets_143 : decode cX5_sets 143 = .ok (.iconst 1, 1) := by decide +kernel
theorem dX5_sets_144 : decode cX5_sets 144 = .ok (.iadd, 1) := by decide +kernel
theorem dX5_sets_145 : decode cX5_sets 145 = .ok (.invokevirtual 84, 3) := by decide +kernel
theorem dX5_sets_148 : decode cX5_sets 148 = .ok (.aload_n 0, 1) := by decide +kernel
theorem dX5_sets_149 : decode cX5_sets 149 = .ok (.invokevirtual 110, 3) := by decide +kernel
theorem dX5_sets_152 : decode cX5_sets 152 = .ok (.ireturn, 1) := by decide +kernel
theorem dX5_set_0 : decode cX5_set 0 = .ok (.aload_n 0, 1) := by decide +kernel
theorem dX5_set_1 : decode cX5_set 1 = .ok (.invokevirtual 75, 3) := by decide +kernel
theorem dX5_set_4 : decode cX5_set 4 = .ok (.aload_n 0, 1) := by decide +kernel
theorem dX5_set_5 : decode cX5_set 5 = .ok (.aload_n 0, 1) := by decide +kernel
theorem dX5_set_6 : decode cX5_set 6 = .ok (.iload_n 1, 1) := by decide +kernel
theorem dX5_set_7 : decode cX5_set 7 = .ok (.iload_n 2, 1) := by decide +kernel
theorem dX5_set_8 : decode cX5_set 8 = .ok (.invokevirtual 114, 3) := by decide +kernel
theorem dX5_set_11 : decode cX5_set 11 = .ok (.invokevirtual 81, 3) := by decide +kernel
theorem dX5_set_14 : decode cX5_set 14 = .ok (.ireturn, 1) := by decide +kernel
theorem dX5_takesOff_0 : decode cX5_takesOff 0 = .ok (.aload_n 0, 1) := by decide +kernel
theorem dX5_takesOff_1 : decode cX5_takesOff 1 = .ok (.iload_n 1, 1) := by decide +kernel
theorem dX5_takesOff_2 : decode cX5_takesOff 2 = .ok (.invokevirtual 92, 3) := by decide +kernel
theorem dX5_takesOff_5 : decode cX5_takesOff 5 = .ok (.ifCond .ne 7, 3) := by decide +kernel
theorem dX5_takesOff_8 : decode cX5_takesOff 8 = .ok (.sipush (-1011), 3) := by decide +kernel
theorem dX5_takesOff_11 : decode cX5_takesOff 11 = .ok (.ireturn, 1) := by decide +kernel
theorem dX5_takesOff_12 : decode cX5_takesOff 12 = .ok (.aload_n 0, 1) := by decide +kernel
theorem dX5_takesOff_13 : decode cX5_takesOff 13 = .ok (.aload_n 0, 1) := by decide +kernel
theorem dX5_takesOff_14 : decode cX5_takesOff 14 = .ok (.iload_n 1, 1) := by decide +kernel
theorem dX5_takesOff_15 : decode cX5_takesOff 15 = .ok (.invokevirtual 52, 3) := by decide +kernel
theorem dX5_takesOff_18 : decode cX5_takesOff 18 = .ok (.ifCond .ne 7, 3) := by decide +kernel
theorem dX5_takesOff_21 : decode cX5_takesOff 21 = .ok (.iconst 1, 1) := by decide +kernel
theorem dX5_takesOff_22 : decode cX5_takesOff 22 = .ok (.goto 4, 3) := by decide +kernel
theorem dX5_takesOff_25 : decode cX5_takesOff 25 = .ok (.iconst 0, 1) := by decide +kernel
theorem dX5_takesOff_26 : decode cX5_takesOff 26 = .ok (.bipush 10, 2) := by decide +kernel
theorem dX5_takesOff_28 : decode cX5_takesOff 28 = .ok (.aload_n 0, 1) := by decide +kernel
theorem dX5_takesOff_29 : decode cX5_takesOff 29 = .ok (.invokevirtual 110, 3) := by decide +kernel
theorem dX5_takesOff_32 : decode cX5_takesOff 32 = .ok (.invokevirtual 68, 3) := by decide +kernel
theorem dX5_takesOff_35 : decode cX5_takesOff 35 = .ok (.ifCond .eq 7, 3) := by decide +kernel
theorem dX5_takesOff_38 : decode cX5_takesOff 38 = .ok (.sipush (-1014), 3) := by decide +kernel
theorem dX5_takesOff_41 : decode cX5_takesOff 41 = .ok (.ireturn, 1) := by decide +kernel
theorem dX5_takesOff_42 : decode cX5_takesOff 42 = .ok (.aload_n 0, 1) := by decide +kernel
theorem dX5_takesOff_43 : decode cX5_takesOff 43 = .ok (.iload_n 1, 1) := by decide +kernel
theorem dX5_takesOff_44 : decode cX5_takesOff 44 = .ok (.iconst 5, 1) := by decide +kernel
theorem dX5_takesOff_45 : decode cX5_takesOff 45 = .ok (.invokevirtual 48, 3) := by decide +kernel
theorem dX5_takesOff_48 : decode cX5_takesOff 48 = .ok (.iconst 1, 1) := by decide +kernel
theorem dX5_takesOff_49 : decode cX5_takesOff 49 = .ok (.isub, 1) := by decide +kernel
theorem dX5_takesOff_50 : decode cX5_takesOff 50 = .ok (.istore_n 2, 1) := by decide +kernel
theorem dX5_takesOff_51 : decode cX5_takesOff 51 = .ok (.aload_n 0, 1) := by decide +kernel
theorem dX5_takesOff_52 : decode cX5_takesOff 52 = .ok (.iload_n 1, 1) := by decide +kernel
theorem dX5_takesOff_53 : decode cX5_takesOff 53 = .ok (.iconst 5, 1) := by decide +kernel
theorem dX5_takesOff_54 : decode cX5_takesOff 54 = .ok (.iconst 0, 1) := by decide +kernel
theorem dX5_takesOff_55 : decode cX5_takesOff 55 = .ok (.invokevirtual 84, 3) := by decide +kernel
theorem dX5_takesOff_58 : decode cX5_takesOff 58 = .ok (.iload_n 2, 1) := by decide +kernel
theorem dX5_takesOff_59 : decode cX5_takesOff 59 = .ok (.ireturn, 1) := by decide +kernel
theorem dX5_off_0 : decode cX5_off 0 = .ok (.aload_n 0, 1) := by decide +kernel
theorem dX5_off_1 : decode cX5_off 1 = .ok (.invokevirtual 75, 3) := by decide +kernel
theorem dX5_off_4 : decode cX5_off 4 = .ok (.aload_n 0, 1) := by decide +kernel
theorem dX5_off_5 : decode cX5_off 5 = .ok (.aload_n 0, 1) := by decide +kernel
theorem dX5_off_6 : decode cX5_off 6 = .ok (.iload_n 1, 1) := by decide +kernel
theorem dX5_off_7 : decode cX5_off 7 = .ok (.invokevirtual 117, 3) := by decide +kernel
theorem dX5_off_10 : decode cX5_off 10 = .ok (.invokevirtual 81, 3) := by decide +kernel
theorem dX5_off_13 : decode cX5_off 13 = .ok (.ireturn, 1) := by decide +kernel
theorem dX5_heats_0 : decode cX5_heats 0 = .ok (.iload_n 1, 1) := by decide +kernel
theorem dX5_heats_1 : decode cX5_heats 1 = .ok (.invokestatic 98, 3) := by decide +kernel
theorem dX5_heats_4 : decode cX5_heats 4 = .ok (.ifCond .ne 7, 3) := by decide +kernel
theorem dX5_heats_7 : decode cX5_heats 7 = .ok (.sipush (-1011), 3) := by decide +kernel
theorem dX5_heats_10 : decode cX5_heats 10 = .ok (.ireturn, 1) := by decide +kernel
theorem dX5_heats_11 : decode cX5_heats 11 = .ok (.iload_n 2, 1) := by decide +kernel
theorem dX5_heats_12 : decode cX5_heats 12 = .ok (.iconst 0, 1) := by decide +kernel
theorem dX5_heats_13 : decode cX5_heats 13 = .ok (.iconst 5, 1) := by decide +kernel
theorem dX5_heats_14 : decode cX5_heats 14 = .ok (.invokestatic 40, 3) := by decide +kernel
theorem dX5_heats_17 : decode cX5_heats 17 = .ok (.ifCond .ne 7, 3) := by decide +kernel
theorem dX5_heats_20 : decode cX5_heats 20 = .ok (.sipush (-1012), 3) := by decide +kernel
theorem dX5_heats_23 : decode cX5_heats 23 = .ok (.ireturn, 1) := by decide +kernel
theorem dX5_heats_24 : decode cX5_heats 24 = .ok (.aload_n 0, 1) := by decide +kernel
theorem dX5_heats_25 : decode cX5_heats 25 = .ok (.getfield 9, 3) := by decide +kernel
theorem dX5_heats_28 : decode cX5_heats 28 = .ok (.bipush 29, 2) := by decide +kernel
theorem dX5_heats_30 : decode cX5_heats 30 = .ok (.iload_n 1, 1) := by decide +kernel
theorem dX5_heats_31 : decode cX5_heats 31 = .ok (.iadd, 1) := by decide +kernel
theorem dX5_heats_32 : decode cX5_heats 32 = .ok (.iaload, 1) := by decide +kernel
theorem dX5_heats_33 : decode cX5_heats 33 = .ok (.istore_n 3, 1) := by decide +kernel
theorem dX5_heats_34 : decode cX5_heats 34 = .ok (.aload_n 0, 1) := by decide +kernel
theorem dX5_heats_35 : decode cX5_heats 35 = .ok (.iload_n 3, 1) := by decide +kernel
theorem dX5_heats_36 : decode cX5_heats 36 = .ok (.iload_n 2, 1) := by decide +kernel
theorem dX5_heats_37 : decode cX5_heats 37 = .ok (.if_icmp .ne 7, 3) := by decide +kernel
theorem dX5_heats_40 : decode cX5_heats 40 = .ok (.iconst 1, 1) := by decide +kernel
theorem dX5_heats_41 : decode cX5_heats 41 = .ok (.goto 4, 3) := by decide +kernel
theorem dX5_heats_44 : decode cX5_heats 44 = .ok (.iconst 0, 1) := by decide +kernel
theorem dX5_heats_45 : decode cX5_heats 45 = .ok (.bipush 9, 2) := by decide +kernel
theorem dX5_heats_47 : decode cX5_heats 47 = .ok (.iload_n 2, 1) := by decide +kernel
theorem dX5_heats_48 : decode cX5_heats 48 = .ok (.invokevirtual 68, 3) := by decide +kernel
theorem dX5_heats_51 : decode cX5_heats 51 = .ok (.ifCond .eq 7, 3) := by decide +kernel
theorem dX5_heats_54 : decode cX5_heats 54 = .ok (.sipush (-1014), 3) := by decide +kernel
theorem dX5_heats_57 : decode cX5_heats 57 = .ok (.ireturn, 1) := by decide +kernel
theorem dX5_heats_58 : decode cX5_heats 58 = .ok (.aload_n 0, 1) := by decide +kernel
theorem dX5_heats_59 : decode cX5_heats 59 = .ok (.getfield 9, 3) := by decide +kernel
theorem dX5_heats_62 : decode cX5_heats 62 = .ok (.bipush 29, 2) := by decide +kernel
theorem dX5_heats_64 : decode cX5_heats 64 = .ok (.iload_n 1, 1) := by decide +kernel
theorem dX5_heats_65 : decode cX5_heats 65 = .ok (.iadd, 1) := by decide +kernel
theorem dX5_heats_66 : decode cX5_heats 66 = .ok (.iload_n 2, 1) := by decide +kernel
theorem dX5_heats_67 : decode cX5_heats 67 = .ok (.iastore, 1) := by decide +kernel
theorem dX5_heats_68 : decode cX5_heats 68 = .ok (.iload_n 3, 1) := by decide +kernel
theorem dX5_heats_69 : decode cX5_heats 69 = .ok (.ireturn, 1) := by decide +kernel
theorem dX5_heat_0 : decode cX5_heat 0 = .ok (.aload_n 0, 1) := by decide +kernel
theorem dX5_heat_1 : decode cX5_heat 1 = .ok (.invokevirtual 75, 3) := by decide +kernel
theorem dX5_heat_4 : decode cX5_heat 4 = .ok (.aload_n 0, 1) := by decide +kernel
theorem dX5_heat_5 : decode cX5_heat 5 = .ok (.aload_n 0, 1) := by decide +kernel
theorem dX5_heat_6 : decode cX5_heat 6 = .ok (.iload_n 1, 1) := by decide +kernel
theorem dX5_heat_7 : decode cX5_heat 7 = .ok (.iload_n 2, 1) := by decide +kernel
theorem dX5_heat_8 : decode cX5_heat 8 = .ok (.invokevirtual 120, 3) := by decide +kernel
theorem dX5_heat_11 : decode cX5_heat 11 = .ok (.invokevirtual 81, 3) := by decide +kernel
theorem dX5_heat_14 : decode cX5_heat 14 = .ok (.ireturn, 1) := by decide +kernel
theorem dX5_putsLid_0 : decode cX5_putsLid 0 = .ok (.aload_n 0, 1) := by decide +kernel
theorem dX5_putsLid_1 : decode cX5_putsLid 1 = .ok (.iload_n 1, 1) := by decide +kernel
theorem dX5_putsLid_2 : decode cX5_putsLid 2 = .ok (.invokevirtual 92, 3) := by decide +kernel
theorem dX5_putsLid_5 : decode cX5_putsLid 5 = .ok (.ifCond .ne 7, 3) := by decide +kernel
theorem dX5_putsLid_8 : decode cX5_putsLid 8 = .ok (.sipush (-1011), 3) := by decide +kernel
theorem dX5_putsLid_11 : decode cX5_putsLid 11 = .ok (.ireturn, 1) := by decide +kernel
theorem dX5_putsLid_12 : decode cX5_putsLid 12 = .ok (.iload_n 2, 1) := by decide +kernel
theorem dX5_putsLid_13 : decode cX5_putsLid 13 = .ok (.iconst 0, 1) := by decide +kernel
theorem dX5_putsLid_14 : decode cX5_putsLid 14 = .ok (.iconst 1, 1) := by decide +kernel
theorem dX5_putsLid_15 : decode cX5_putsLid 15 = .ok (.invokestatic 40, 3) := by decide +kernel
theorem dX5_putsLid_18 : decode cX5_putsLid 18 = .ok (.ifCond .ne 7, 3) := by decide +kernel
theorem dX5_putsLid_21 : decode cX5_putsLid 21 = .ok (.sipush (-1012), 3) := by decide +kernel
theorem dX5_putsLid_24 : decode cX5_putsLid 24 = .ok (.ireturn, 1) := by decide +kernel
theorem dX5_putsLid_25 : decode cX5_putsLid 25 = .ok (.aload_n 0, 1) := by decide +kernel
theorem dX5_putsLid_26 : decode cX5_putsLid 26 = .ok (.aload_n 0, 1) := by decide +kernel
theorem dX5_putsLid_27 : decode cX5_putsLid 27 = .ok (.iload_n 1, 1) := by decide +kernel
theorem dX5_putsLid_28 : decode cX5_putsLid 28 = .ok (.iconst 4, 1) := by decide +kernel
theorem dX5_putsLid_29 : decode cX5_putsLid 29 = .ok (.invokevirtual 48, 3) := by decide +kernel
theorem dX5_putsLid_32 : decode cX5_putsLid 32 = .ok (.iload_n 2, 1) := by decide +kernel
theorem dX5_putsLid_33 : decode cX5_putsLid 33 = .ok (.if_icmp .ne 7, 3) := by decide +kernel
theorem dX5_putsLid_36 : decode cX5_putsLid 36 = .ok (.iconst 1, 1) := by decide +kernel
theorem dX5_putsLid_37 : decode cX5_putsLid 37 = .ok (.goto 4, 3) := by decide +kernel
theorem dX5_putsLid_40 : decode cX5_putsLid 40 = .ok (.iconst 0, 1) := by decide +kernel
theorem dX5_putsLid_41 : decode cX5_putsLid 41 = .ok (.bipush 9, 2) := by decide +kernel
theorem dX5_putsLid_43 : decode cX5_putsLid 43 = .ok (.iload_n 2, 1) := by decide +kernel
theorem dX5_putsLid_44 : decode cX5_putsLid 44 = .ok (.invokevirtual 68, 3) := by decide +kernel
theorem dX5_putsLid_47 : decode cX5_putsLid 47 = .ok (.ifCond .ne 45, 3) := by decide +kernel
theorem dX5_putsLid_50 : decode cX5_putsLid 50 = .ok (.aload_n 0, 1) := by decide +kernel
theorem dX5_putsLid_51 : decode cX5_putsLid 51 = .ok (.iload_n 2, 1) := by decide +kernel
theorem dX5_putsLid_52 : decode cX5_putsLid 52 = .ok (.iconst 1, 1) := by decide +kernel
theorem dX5_putsLid_53 : decode cX5_putsLid 53 = .ok (.if_icmp .ne 18, 3) := by decide +kernel
theorem dX5_putsLid_56 : decode cX5_putsLid 56 = .ok (.aload_n 0, 1) := by decide +kernel
theorem dX5_putsLid_57 : decode cX5_putsLid 57 = .ok (.iload_n 1, 1) := by decide +kernel
theorem dX5_putsLid_58 : decode cX5_putsLid 58 = .ok (.bipush 7, 2) := by decide +kernel
theorem dX5_putsLid_60 : decode cX5_putsLid 60 = .ok (.invokevirtual 48, 3) := by decide +kernel
theorem dX5_putsLid_63 : decode cX5_putsLid 63 = .ok (.iconst 1, 1) := by decide +kernel
theorem dX5_putsLid_64 : decode cX5_putsLid 64 = .ok (.if_icmp .ne 7, 3) := by decide +kernel
theorem dX5_putsLid_67 : decode cX5_putsLid 67 = .ok (.iconst 1, 1) := by decide +kernel
theorem dX5_putsLid_68 : decode cX5_putsLid 68 = .ok (.goto 4, 3) := by decide +kernel
theorem dX5_putsLid_71 : decode cX5_putsLid 71 = .ok (.iconst 0, 1) := by decide +kernel
theorem dX5_putsLid_72 : decode cX5_putsLid 72 = .ok (.bipush 12, 2) := by decide +kernel
theorem dX5_putsLid_74 : decode cX5_putsLid 74 = .ok (.bipush 6, 2) := by decide +kernel
theorem dX5_putsLid_76 : decode cX5_putsLid 76 = .ok (.aload_n 0, 1) := by decide +kernel
theorem dX5_putsLid_77 : decode cX5_putsLid 77 = .ok (.getfield 9, 3) := by decide +kernel
theorem dX5_putsLid_80 : decode cX5_putsLid 80 = .ok (.iconst 0, 1) := by decide +kernel
theorem dX5_putsLid_81 : decode cX5_putsLid 81 = .ok (.iaload, 1) := by decide +kernel
theorem dX5_putsLid_82 : decode cX5_putsLid 82 = .ok (.bipush 6, 2) := by decide +kernel
theorem dX5_putsLid_84 : decode cX5_putsLid 84 = .ok (.irem, 1) := by decide +kernel
theorem dX5_putsLid_85 : decode cX5_putsLid 85 = .ok (.isub, 1) := by decide +kernel
theorem dX5_putsLid_86 : decode cX5_putsLid 86 = .ok (.invokevirtual 68, 3) := by decide +kernel
theorem dX5_putsLid_89 : decode cX5_putsLid 89 = .ok (.ifCond .eq 7, 3) := by decide +kernel
theorem dX5_putsLid_92 : decode cX5_putsLid 92 = .ok (.sipush (-1014), 3) := by decide +kernel
theorem dX5_putsLid_95 : decode cX5_putsLid 95 = .ok (.ireturn, 1) := by decide +kernel
theorem dX5_putsLid_96 : decode cX5_putsLid 96 = .ok (.aload_n 0, 1) := by decide +kernel
theorem dX5_putsLid_97 : decode cX5_putsLid 97 = .ok (.iload_n 1, 1) := by decide +kernel
theorem dX5_putsLid_98 : decode cX5_putsLid 98 = .ok (.iconst 4, 1) := by decide +kernel
theorem dX5_putsLid_99 : decode cX5_putsLid 99 = .ok (.iload_n 2, 1) := by decide +kernel
theorem dX5_putsLid_100 : decode cX5_putsLid 100 = .ok (.invokevirtual 84, 3) := by decide +kernel
theorem dX5_putsLid_103 : decode cX5_putsLid 103 = .ok (.aload_n 0, 1) := by decide +kernel
theorem dX5_putsLid_104 : decode cX5_putsLid 104 = .ok (.invokevirtual 123, 3) := by decide +kernel
theorem dX5_putsLid_107 : decode cX5_putsLid 107 = .ok (.ireturn, 1) := by decide +kernel
theorem dX5_lid_0 : decode cX5_lid 0 = .ok (.aload_n 0, 1) := by decide +kernel
theorem dX5_lid_1 : decode cX5_lid 1 = .ok (.invokevirtual 75, 3) := by decide +kernel
theorem dX5_lid_4 : decode cX5_lid 4 = .ok (.aload_n 0, 1) := by decide +kernel
theorem dX5_lid_5 : decode cX5_lid 5 = .ok (.aload_n 0, 1) := by decide +kernel
theorem dX5_lid_6 : decode cX5_lid 6 = .ok (.iload_n 1, 1) := by decide +kernel
theorem dX5_lid_7 : decode cX5_lid 7 = .ok (.iload_n 2, 1) := by decide +kernel
theorem dX5_lid_8 : decode cX5_lid 8 = .ok (.invokevirtual 126, 3) := by decide +kernel
theorem dX5_lid_11 : decode cX5_lid 11 = .ok (.invokevirtual 81, 3) := by decide +kernel
theorem dX5_lid_14 : decode cX5_lid 14 = .ok (.ireturn, 1) := by decide +kernel
theorem dX5_bits_0 : decode cX5_bits 0 = .ok (.iconst 0, 1) := by decide +kernel
theorem dX5_bits_1 : decode cX5_bits 1 = .ok (.istore_n 1, 1) := by decide +kernel
theorem dX5_bits_2 : decode cX5_bits 2 = .ok (.iload_n 0, 1) := by decide +kernel
theorem dX5_bits_3 : decode cX5_bits 3 = .ok (.istore_n 2, 1) := by decide +kernel
theorem dX5_bits_4 : decode cX5_bits 4 = .ok (.iload_n 2, 1) := by decide +kernel
theorem dX5_bits_5 : decode cX5_bits 5 = .ok (.ifCond .eq 15, 3) := by decide +kernel
theorem dX5_bits_8 : decode cX5_bits 8 = .ok (.iinc 1 1, 3) := by decide +kernel
theorem dX5_bits_11 : decode cX5_bits 11 = .ok (.iload_n 2, 1) := by decide +kernel
theorem dX5_bits_12 : decode cX5_bits 12 = .ok (.iload_n 2, 1) := by decide +kernel
theorem dX5_bits_13 : decode cX5_bits 13 = .ok (.iconst 1, 1) := by decide +kernel
theorem dX5_bits_14 : decode cX5_bits 14 = .ok (.isub, 1) := by decide +kernel
theorem dX5_bits_15 : decode cX5_bits 15 = .ok (.iand, 1) := by decide +kernel
theorem dX5_bits_16 : decode cX5_bits 16 = .ok (.istore_n 2, 1) := by decide +kernel
theorem dX5_bits_17 : decode cX5_bits 17 = .ok (.goto (-13), 3) := by decide +kernel
theorem dX5_bits_20 : decode cX5_bits 20 = .ok (.iload_n 1, 1) := by decide +kernel
theorem dX5_bits_21 : decode cX5_bits 21 = .ok (.ireturn, 1) := by decide +kernel
theorem dX5_appeals_0 : decode cX5_appeals 0 = .ok (.iload_n 1, 1) := by decide +kernel
theorem dX5_appeals_1 : decode cX5_appeals 1 = .ok (.invokestatic 62, 3) := by decide +kernel
theorem dX5_appeals_4 : decode cX5_appeals 4 = .ok (.ifCond .eq 11, 3) := by decide +kernel
theorem dX5_appeals_7 : decode cX5_appeals 7 = .ok (.aload_n 0, 1) := by decide +kernel
theorem dX5_appeals_8 : decode cX5_appeals 8 = .ok (.iload_n 2, 1) := by decide +kernel
theorem dX5_appeals_9 : decode cX5_appeals 9 = .ok (.invokevirtual 92, 3) := by decide +kernel
theorem dX5_appeals_12 : decode cX5_appeals 12 = .ok (.ifCond .ne 7, 3) := by decide +kernel
theorem dX5_appeals_15 : decode cX5_appeals 15 = .ok (.sipush (-1011), 3) := by decide +kernel
theorem dX5_appeals_18 : decode cX5_appeals 18 = .ok (.ireturn, 1) := by decide +kernel
theorem dX5_appeals_19 : decode cX5_appeals 19 = .ok (.aload_n 0, 1) := by decide +kernel
theorem dX5_appeals_20 : decode cX5_appeals 20 = .ok (.iload_n 2, 1) := by decide +kernel
theorem dX5_appeals_21 : decode cX5_appeals 21 = .ok (.bipush 8, 2) := by decide +kernel
theorem dX5_appeals_23 : decode cX5_appeals 23 = .ok (.invokevirtual 48, 3) := by decide +kernel
theorem dX5_appeals_26 : decode cX5_appeals 26 = .ok (.istore_n 3, 1) := by decide +kernel
theorem dX5_appeals_27 : decode cX5_appeals 27 = .ok (.aload_n 0, 1) := by decide +kernel
theorem dX5_appeals_28 : decode cX5_appeals 28 = .ok (.aload_n 0, 1) := by decide +kernel
theorem dX5_appeals_29 : decode cX5_appeals 29 = .ok (.iload_n 2, 1) := by decide +kernel
theorem dX5_appeals_30 : decode cX5_appeals 30 = .ok (.iconst 0, 1) := by decide +kernel
theorem dX5_appeals_31 : decode cX5_appeals 31 = .ok (.invokevirtual 48, 3) := by decide +kernel
theorem dX5_appeals_34 : decode cX5_appeals 34 = .ok (.iload_n 1, 1) := by decide +kernel
theorem dX5_appeals_35 : decode cX5_appeals 35 = .ok (.if_icmp .ne 7, 3) := by decide +kernel
theorem dX5_appeals_38 : decode cX5_appeals 38 = .ok (.iconst 1, 1) := by decide +kernel
theorem dX5_appeals_39 : decode cX5_appeals 39 = .ok (.goto 4, 3) := by decide +kernel
theorem dX5_appeals_42 : decode cX5_appeals 42 = .ok (.iconst 0, 1) := by decide +kernel
theorem dX5_appeals_43 : decode cX5_appeals 43 = .ok (.bipush 13, 2) := by decide +kernel
theorem dX5_appeals_45 : decode cX5_appeals 45 = .ok (.iload_n 1, 1) := by decide +kernel
theorem dX5_appeals_46 : decode cX5_appeals 46 = .ok (.invokevirtual 68, 3) := by decide +kernel
theorem dX5_appeals_49 : decode cX5_appeals 49 = .ok (.ifCond .ne 57, 3) := by decide +kernel
theorem dX5_appeals_52 : decode cX5_appeals 52 = .ok (.aload_n 0, 1) := by decide +kernel
theorem dX5_appeals_53 : decode cX5_appeals 53 = .ok (.aload_n 0, 1) := by decide +kernel
theorem dX5_appeals_54 : decode cX5_appeals 54 = .ok (.iload_n 2, 1) := by decide +kernel
theorem dX5_appeals_55 : decode cX5_appeals 55 = .ok (.iconst 4, 1) := by decide +kernel
theorem dX5_appeals_56 : decode cX5_appeals 56 = .ok (.invokevirtual 48, 3) := by decide +kernel
theorem dX5_appeals_59 : decode cX5_appeals 59 = .ok (.ifCond .ne 7, 3) := by decide +kernel
theorem dX5_appeals_62 : decode cX5_appeals 62 = .ok (.iconst 1, 1) := by decide +kernel
theorem dX5_appeals_63 : decode cX5_appeals 63 = .ok (.goto 4, 3) := by decide +kernel
theorem dX5_appeals_66 : decode cX5_appeals 66 = .ok (.iconst 0, 1) := by decide +kernel
theorem dX5_appeals_67 : decode cX5_appeals 67 = .ok (.bipush 15, 2) := by decide +kernel
theorem dX5_appeals_69 : decode cX5_appeals 69 = .ok (.aload_n 0, 1) := by decide +kernel
theorem dX5_appeals_70 : decode cX5_appeals 70 = .ok (.invokevirtual 123, 3) := by decide +kernel
theorem dX5_appeals_73 : decode cX5_appeals 73 = .ok (.invokevirtual 68, 3) := by decide +kernel
theorem dX5_appeals_76 : decode cX5_appeals 76 = .ok (.ifCond .ne 30, 3) := by decide +kernel
theorem dX5_appeals_79 : decode cX5_appeals 79 = .ok (.aload_n 0, 1) := by decide +kernel
theorem dX5_appeals_80 : decode cX5_appeals 80 = .ok (.iload_n 3, 1) := by decide +kernel
theorem dX5_appeals_81 : decode cX5_appeals 81 = .ok (.iload_n 1, 1) := by decide +kernel
theorem dX5_appeals_82 : decode cX5_appeals 82 = .ok (.ishr, 1) := by decide +kernel
theorem dX5_appeals_83 : decode cX5_appeals 83 = .ok (.iconst 1, 1) := by decide +kernel
theorem dX5_appeals_84 : decode cX5_appeals 84 = .ok (.iand, 1) := by decide +kernel
theorem dX5_appeals_85 : decode cX5_appeals 85 = .ok (.iconst 1, 1) := by decide +kernel
theorem dX5_appeals_86 : decode cX5_appeals 86 = .ok (.if_icmp .ne 7, 3) := by decide +kernel
theorem dX5_appeals_89 : decode cX5_appeals 89 = .ok (.iconst 1, 1) := by decide +kernel
theorem dX5_appeals_90 : decode cX5_appeals 90 = .ok (.goto 4, 3) := by decide +kernel
theorem dX5_appeals_93 : decode cX5_appeals 93 = .ok (.iconst 0, 1) := by decide +kernel
theorem dX5_appeals_94 : decode cX5_appeals 94 = .ok (.bipush 14, 2) := by decide +kernel
theorem dX5_appeals_96 : decode cX5_appeals 96 = .ok (.iload_n 3, 1) := by decide +kernel
theorem dX5_appeals_97 : decode cX5_appeals 97 = .ok (.invokestatic 129, 3) := by decide +kernel
theorem dX5_appeals_100 : decode cX5_appeals 100 = .ok (.invokevirtual 68, 3) := by decide +kernel
theorem dX5_appeals_103 : decode cX5_appeals 103 = .ok (.ifCond .eq 7, 3) := by decide +kernel
theorem dX5_appeals_106 : decode cX5_appeals 106 = .ok (.sipush (-1014), 3) := by decide +kernel
theorem dX5_appeals_109 : decode cX5_appeals 109 = .ok (.ireturn, 1) := by decide +kernel
theorem dX5_appeals_110 : decode cX5_appeals 110 = .ok (.aload_n 0, 1) := by decide +kernel
theorem dX5_appeals_111 : decode cX5_appeals 111 = .ok (.getfield 9, 3) := by decide +kernel
theorem dX5_appeals_114 : decode cX5_appeals 114 = .ok (.iconst 5, 1) := by decide +kernel
theorem dX5_appeals_115 : decode cX5_appeals 115 = .ok (.iconst 3, 1) := by decide +kernel
theorem dX5_appeals_116 : decode cX5_appeals 116 = .ok (.iload_n 1, 1) := by decide +kernel
theorem dX5_appeals_117 : decode cX5_appeals 117 = .ok (.imul, 1) := by decide +kernel
theorem dX5_appeals_118 : decode cX5_appeals 118 = .ok (.iadd, 1) := by decide +kernel
theorem dX5_appeals_119 : decode cX5_appeals 119 = .ok (.iconst 2, 1) := by decide +kernel
theorem dX5_appeals_120 : decode cX5_appeals 120 = .ok (.iadd, 1) := by decide +kernel
theorem dX5_appeals_121 : decode cX5_appeals 121 = .ok (.dup2, 1) := by decide +kernel
theorem dX5_appeals_122 : decode cX5_appeals 122 = .ok (.iaload, 1) := by decide +kernel
theorem dX5_appeals_123 : decode cX5_appeals 123 = .ok (.iconst 1, 1) := by decide +kernel
theorem dX5_appeals_124 : decode cX5_appeals 124 = .ok (.iadd, 1) := by decide +kernel
theorem dX5_appeals_125 : decode cX5_appeals 125 = .ok (.iastore, 1) := by decide +kernel
theorem dX5_appeals_126 : decode cX5_appeals 126 = .ok (.aload_n 0, 1) := by decide +kernel
theorem dX5_appeals_127 : decode cX5_appeals 127 = .ok (.iload_n 2, 1) := by decide +kernel
theorem dX5_appeals_128 : decode cX5_appeals 128 = .ok (.bipush 8, 2) := by decide +kernel
theorem dX5_appeals_130 : decode cX5_appeals 130 = .ok (.iload_n 3, 1) := by decide +kernel
theorem dX5_appeals_131 : decode cX5_appeals 131 = .ok (.iconst 1, 1) := by decide +kernel
theorem dX5_appeals_132 : decode cX5_appeals 132 = .ok (.iload_n 1, 1) := by decide +kernel
theorem dX5_appeals_133 : decode cX5_appeals 133 = .ok (.ishl, 1) := by decide +kernel
theorem dX5_appeals_134 : decode cX5_appeals 134 = .ok (.ior, 1) := by decide +kernel
theorem dX5_appeals_135 : decode cX5_appeals 135 = .ok (.invokevirtual 84, 3) := by decide +kernel
theorem dX5_appeals_138 : decode cX5_appeals 138 = .ok (.iload_n 3, 1) := by decide +kernel
theorem dX5_appeals_139 : decode cX5_appeals 139 = .ok (.iconst 1, 1) := by decide +kernel
theorem dX5_appeals_140 : decode cX5_appeals 140 = .ok (.iload_n 1, 1) := by decide +kernel
theorem dX5_appeals_141 : decode cX5_appeals 141 = .ok (.ishl, 1) := by decide +kernel
theorem dX5_appeals_142 : decode cX5_appeals 142 = .ok (.ior, 1) := by decide +kernel
theorem dX5_appeals_143 : decode cX5_appeals 143 = .ok (.invokestatic 129, 3) := by decide +kernel
theorem dX5_appeals_146 : decode cX5_appeals 146 = .ok (.iconst 2, 1) := by decide +kernel
theorem dX5_appeals_147 : decode cX5_appeals 147 = .ok (.if_icmp .ge 5, 3) := by decide +kernel
theorem dX5_appeals_150 : decode cX5_appeals 150 = .ok (.iconst 0, 1) := by decide +kernel
theorem dX5_appeals_151 : decode cX5_appeals 151 = .ok (.ireturn, 1) := by decide +kernel
theorem dX5_appeals_152 : decode cX5_appeals 152 = .ok (.aload_n 0, 1) := by decide +kernel
theorem dX5_appeals_153 : decode cX5_appeals 153 = .ok (.iload_n 2, 1) := by decide +kernel
theorem dX5_appeals_154 : decode cX5_appeals 154 = .ok (.bipush 8, 2) := by decide +kernel
theorem dX5_appeals_156 : decode cX5_appeals 156 = .ok (.iconst 0, 1) := by decide +kernel
theorem dX5_appeals_157 : decode cX5_appeals 157 = .ok (.invokevirtual 84, 3) := by decide +kernel
theorem dX5_appeals_160 : decode cX5_appeals 160 = .ok (.aload_n 0, 1) := by decide +kernel
theorem dX5_appeals_161 : decode cX5_appeals 161 = .ok (.iload_n 2, 1) := by decide +kernel
theorem dX5_appeals_162 : decode cX5_appeals 162 = .ok (.iconst 4, 1) := by decide +kernel
theorem dX5_appeals_163 : decode cX5_appeals 163 = .ok (.iconst 0, 1) := by decide +kernel
theorem dX5_appeals_164 : decode cX5_appeals 164 = .ok (.invokevirtual 84, 3) := by decide +kernel
theorem dX5_appeals_167 : decode cX5_appeals 167 = .ok (.aload_n 0, 1) := by decide +kernel
theorem dX5_appeals_168 : decode cX5_appeals 168 = .ok (.iload_n 2, 1) := by decide +kernel
theorem dX5_appeals_169 : decode cX5_appeals 169 = .ok (.bipush 7, 2) := by decide +kernel
theorem dX5_appeals_171 : decode cX5_appeals 171 = .ok (.iconst 1, 1) := by decide +kernel
theorem dX5_appeals_172 : decode cX5_appeals 172 = .ok (.invokevirtual 84, 3) := by decide +kernel
theorem dX5_appeals_175 : decode cX5_appeals 175 = .ok (.iconst 1, 1) := by decide +kernel
theorem dX5_appeals_176 : decode cX5_appeals 176 = .ok (.ireturn, 1) := by decide +kernel
theorem dX5_appeal_0 : decode cX5_appeal 0 = .ok (.aload_n 0, 1) := by decide +kernel
theorem dX5_appeal_1 : decode cX5_appeal 1 = .ok (.invokevirtual 75, 3) := by decide +kernel
theorem dX5_appeal_4 : decode cX5_appeal 4 = .ok (.aload_n 0, 1) := by decide +kernel
theorem dX5_appeal_5 : decode cX5_appeal 5 = .ok (.aload_n 0, 1) := by decide +kernel
theorem dX5_appeal_6 : decode cX5_appeal 6 = .ok (.iload_n 1, 1) := by decide +kernel
theorem dX5_appeal_7 : decode cX5_appeal 7 = .ok (.iload_n 2, 1) := by decide +kernel
theorem dX5_appeal_8 : decode cX5_appeal 8 = .ok (.invokevirtual 132, 3) := by decide +kernel
theorem dX5_appeal_11 : decode cX5_appeal 11 = .ok (.invokevirtual 81, 3) := by decide +kernel
theorem dX5_appeal_14 : decode cX5_appeal 14 = .ok (.ireturn, 1) := by decide +kernel
theorem dX5_sound_0 : decode cX5_sound 0 = .ok (.iload_n 0, 1) := by decide +kernel
theorem dX5_sound_1 : decode cX5_sound 1 = .ok (.iload_n 1, 1) := by decide +kernel
theorem dX5_sound_2 : decode cX5_sound 2 = .ok (.if_icmp .ge 9, 3) := by decide +kernel
theorem dX5_sound_5 : decode cX5_sound 5 = .ok (.iload_n 1, 1) := by decide +kernel
theorem dX5_sound_6 : decode cX5_sound 6 = .ok (.iload_n 0, 1) := by decide +kernel
theorem dX5_sound_7 : decode cX5_sound 7 = .ok (.isub, 1) := by decide +kernel
theorem dX5_sound_8 : decode cX5_sound 8 = .ok (.goto 6, 3) := by decide +kernel
theorem dX5_sound_11 : decode cX5_sound 11 = .ok (.iload_n 0, 1) := by decide +kernel
theorem dX5_sound_12 : decode cX5_sound 12 = .ok (.iload_n 1, 1) := by decide +kernel
theorem dX5_sound_13 : decode cX5_sound 13 = .ok (.isub, 1) := by decide +kernel
theorem dX5_sound_14 : decode cX5_sound 14 = .ok (.istore_n 2, 1) := by decide +kernel
theorem dX5_sound_15 : decode cX5_sound 15 = .ok (.iload_n 2, 1) := by decide +kernel
theorem dX5_sound_16 : decode cX5_sound 16 = .ok (.iconst 3, 1) := by decide +kernel
theorem dX5_sound_17 : decode cX5_sound 17 = .ok (.iconst 5, 1) := by decide +kernel
theorem dX5_sound_18 : decode cX5_sound 18 = .ok (.invokestatic 40, 3) := by decide +kernel
theorem dX5_sound_21 : decode cX5_sound 21 = .ok (.ifCond .ne 14, 3) := by decide +kernel
theorem dX5_sound_24 : decode cX5_sound 24 = .ok (.iload_n 2, 1) := by decide +kernel
theorem dX5_sound_25 : decode cX5_sound 25 = .ok (.bipush 7, 2) := by decide +kernel
theorem dX5_sound_27 : decode cX5_sound 27 = .ok (.bipush 9, 2) := by decide +kernel
theorem dX5_sound_29 : decode cX5_sound 29 = .ok (.invokestatic 40, 3) := by decide +kernel
theorem dX5_sound_32 : decode cX5_sound 32 = .ok (.ifCond .eq 7, 3) := by decide +kernel
theorem dX5_sound_35 : decode cX5_sound 35 = .ok (.iconst 1, 1) := by decide +kernel
theorem dX5_sound_36 : decode cX5_sound 36 = .ok (.goto 12, 3) := by decide +kernel
theorem dX5_sound_39 : decode cX5_sound 39 = .ok (.iload_n 2, 1) := by decide +kernel
theorem dX5_sound_40 : decode cX5_sound 40 = .ok (.ifCond .ne 7, 3) := by decide +kernel
theorem dX5_sound_43 : decode cX5_sound 43 = .ok (.iconst 0, 1) := by decide +kernel
theorem dX5_sound_44 : decode cX5_sound 44 = .ok (.goto 4, 3) := by decide +kernel
theorem dX5_sound_47 : decode cX5_sound 47 = .ok (.iconst (-1), 1) := by decide +kernel
theorem dX5_sound_48 : decode cX5_sound 48 = .ok (.ireturn, 1) := by decide +kernel
theorem dX5_sounds_0 : decode cX5_sounds 0 = .ok (.iconst 0, 1) := by decide +kernel
theorem dX5_sounds_1 : decode cX5_sounds 1 = .ok (.istore_n 1, 1) := by decide +kernel
theorem dX5_sounds_2 : decode cX5_sounds 2 = .ok (.iload_n 1, 1) := by decide +kernel
theorem dX5_sounds_3 : decode cX5_sounds 3 = .ok (.aload_n 0, 1) := by decide +kernel
theorem dX5_sounds_4 : decode cX5_sounds 4 = .ok (.getfield 9, 3) := by decide +kernel
theorem dX5_sounds_7 : decode cX5_sounds 7 = .ok (.iconst 1, 1) := by decide +kernel
theorem dX5_sounds_8 : decode cX5_sounds 8 = .ok (.iaload, 1) := by decide +kernel
theorem dX5_sounds_9 : decode cX5_sounds 9 = .ok (.if_icmp .ge 100, 3) := by decide +kernel
theorem dX5_sounds_12 : decode cX5_sounds 12 = .ok (.iconst 0, 1) := by decide +kernel
theorem dX5_sounds_13 : decode cX5_sounds 13 = .ok (.istore_n 2, 1) := by decide +kernel
theorem dX5_sounds_14 : decode cX5_sounds 14 = .ok (.iload_n 2, 1) := by decide +kernel
theorem dX5_sounds_15 : decode cX5_sounds 15 = .ok (.iload_n 1, 1) := by decide +kernel
theorem dX5_sounds_16 : decode cX5_sounds 16 = .ok (.if_icmp .ge 87, 3) := by decide +kernel
theorem dX5_sounds_19 : decode cX5_sounds 19 = .ok (.aload_n 0, 1) := by decide +kernel
theorem dX5_sounds_20 : decode cX5_sounds 20 = .ok (.iload_n 1, 1) := by decide +kernel
theorem dX5_sounds_21 : decode cX5_sounds 21 = .ok (.invokevirtual 135, 3) := by decide +kernel
theorem dX5_sounds_24 : decode cX5_sounds 24 = .ok (.ifCond .eq 29, 3) := by decide +kernel
theorem dX5_sounds_27 : decode cX5_sounds 27 = .ok (.aload_n 0, 1) := by decide +kernel
theorem dX5_sounds_28 : decode cX5_sounds 28 = .ok (.iload_n 2, 1) := by decide +kernel
theorem dX5_sounds_29 : decode cX5_sounds 29 = .ok (.invokevirtual 135, 3) := by decide +kernel
theorem dX5_sounds_32 : decode cX5_sounds 32 = .ok (.ifCond .eq 21, 3) := by decide +kernel
theorem dX5_sounds_35 : decode cX5_sounds 35 = .ok (.aload_n 0, 1) := by decide +kernel
theorem dX5_sounds_36 : decode cX5_sounds 36 = .ok (.iload_n 1, 1) := by decide +kernel
theorem dX5_sounds_37 : decode cX5_sounds 37 = .ok (.iconst 1, 1) := by decide +kernel
theorem dX5_sounds_38 : decode cX5_sounds 38 = .ok (.invokevirtual 48, 3) := by decide +kernel
theorem dX5_sounds_41 : decode cX5_sounds 41 = .ok (.aload_n 0, 1) := by decide +kernel
theorem dX5_sounds_42 : decode cX5_sounds 42 = .ok (.iload_n 2, 1) := by decide +kernel
theorem dX5_sounds_43 : decode cX5_sounds 43 = .ok (.iconst 1, 1) := by decide +kernel
theorem dX5_sounds_44 : decode cX5_sounds 44 = .ok (.invokevirtual 48, 3) := by decide +kernel
theorem dX5_sounds_47 : decode cX5_sounds 47 = .ok (.invokestatic 138, 3) := by decide +kernel
theorem dX5_sounds_50 : decode cX5_sounds 50 = .ok (.goto 4, 3) := by decide +kernel
theorem dX5_sounds_53 : decode cX5_sounds 53 = .ok (.iconst 0, 1) := by decide +kernel
theorem dX5_sounds_54 : decode cX5_sounds 54 = .ok (.istore_n 3, 1) := by decide +kernel
theorem dX5_sounds_55 : decode cX5_sounds 55 = .ok (.aload_n 0, 1) := by decide +kernel
theorem dX5_sounds_56 : decode cX5_sounds 56 = .ok (.getfield 9, 3) := by decide +kernel
theorem dX5_sounds_59 : decode cX5_sounds 59 = .ok (.iconst 5, 1) := by decide +kernel
theorem dX5_sounds_60 : decode cX5_sounds 60 = .ok (.iconst 3, 1) := by decide +kernel
theorem dX5_sounds_61 : decode cX5_sounds 61 = .ok (.aload_n 0, 1) := by decide +kernel
theorem dX5_sounds_62 : decode cX5_sounds 62 = .ok (.iload_n 1, 1) := by decide +kernel
theorem dX5_sounds_63 : decode cX5_sounds 63 = .ok (.iconst 0, 1) := by decide +kernel
theorem dX5_sounds_64 : decode cX5_sounds 64 = .ok (.invokevirtual 48, 3) := by decide +kernel
theorem dX5_sounds_67 : decode cX5_sounds 67 = .ok (.imul, 1) := by decide +kernel
theorem dX5_sounds_68 : decode cX5_sounds 68 = .ok (.iadd, 1) := by decide +kernel
theorem dX5_sounds_69 : decode cX5_sounds 69 = .ok (.iconst 0, 1) := by decide +kernel
theorem dX5_sounds_70 : decode cX5_sounds 70 = .ok (.iadd, 1) := by decide +kernel
theorem dX5_sounds_71 : decode cX5_sounds 71 = .ok (.dup2, 1) := by decide +kernel
theorem dX5_sounds_72 : decode cX5_sounds 72 = .ok (.iaload, 1) := by decide +kernel
theorem dX5_sounds_73 : decode cX5_sounds 73 = .ok (.iload_n 3, 1) := by decide +kernel
theorem dX5_sounds_74 : decode cX5_sounds 74 = .ok (.iadd, 1) := by decide +kernel
theorem dX5_sounds_75 : decode cX5_sounds 75 = .ok (.iastore, 1) := by decide +kernel
theorem dX5_sounds_76 : decode cX5_sounds 76 = .ok (.aload_n 0, 1) := by decide +kernel
theorem dX5_sounds_77 : decode cX5_sounds 77 = .ok (.getfield 9, 3) := by decide +kernel
theorem dX5_sounds_80 : decode cX5_sounds 80 = .ok (.iconst 5, 1) := by decide +kernel
theorem dX5_sounds_81 : decode cX5_sounds 81 = .ok (.iconst 3, 1) := by decide +kernel
theorem dX5_sounds_82 : decode cX5_sounds 82 = .ok (.aload_n 0, 1) := by decide +kernel
theorem dX5_sounds_83 : decode cX5_sounds 83 = .ok (.iload_n 2, 1) := by decide +kernel
theorem dX5_sounds_84 : decode cX5_sounds 84 = .ok (.iconst 0, 1) := by decide +kernel
theorem dX5_sounds_85 : decode cX5_sounds 85 = .ok (.invokevirtual 48, 3) := by decide +kernel
theorem dX5_sounds_88 : decode cX5_sounds 88 = .ok (.imul, 1) := by decide +kernel
theorem dX5_sounds_89 : decode cX5_sounds 89 = .ok (.iadd, 1) := by decide +kernel
theorem dX5_sounds_90 : decode cX5_sounds 90 = .ok (.iconst 0, 1) := by decide +kernel
theorem dX5_sounds_91 : decode cX5_sounds 91 = .ok (.iadd, 1) := by decide +kernel
theorem dX5_sounds_92 : decode cX5_sounds 92 = .ok (.dup2, 1) := by decide +kernel
theorem dX5_sounds_93 : decode cX5_sounds 93 = .ok (.iaload, 1) := by decide +kernel
theorem dX5_sounds_94 : decode cX5_sounds 94 = .ok (.iload_n 3, 1) := by decide +kernel
theorem dX5_sounds_95 : decode cX5_sounds 95 = .ok (.iadd, 1) := by decide +kernel
theorem dX5_sounds_96 : decode cX5_sounds 96 = .ok (.iastore, 1) := by decide +kernel
theorem dX5_sounds_97 : decode cX5_sounds 97 = .ok (.iinc 2 1, 3) := by decide +kernel
theorem dX5_sounds_100 : decode cX5_sounds 100 = .ok (.goto (-86), 3) := by decide +kernel
theorem dX5_sounds_103 : decode cX5_sounds 103 = .ok (.iinc 1 1, 3) := by decide +kernel
theorem dX5_sounds_106 : decode cX5_sounds 106 = .ok (.goto (-104), 3) := by decide +kernel
theorem dX5_sounds_109 : decode cX5_sounds 109 = .ok (.iconst 0, 1) := by decide +kernel
theorem dX5_sounds_110 : decode cX5_sounds 110 = .ok (.istore_n 1, 1) := by decide +kernel
theorem dX5_sounds_111 : decode cX5_sounds 111 = .ok (.iload_n 1, 1) := by decide +kernel
theorem dX5_sounds_112 : decode cX5_sounds 112 = .ok (.aload_n 0, 1) := by decide +kernel
theorem dX5_sounds_113 : decode cX5_sounds 113 = .ok (.getfield 9, 3) := by decide +kernel
theorem dX5_sounds_116 : decode cX5_sounds 116 = .ok (.iconst 1, 1) := by decide +kernel
theorem dX5_sounds_117 : decode cX5_sounds 117 = .ok (.iaload, 1) := by decide +kernel
theorem dX5_sounds_118 : decode cX5_sounds 118 = .ok (.if_icmp .ge 17, 3) := by decide +kernel
theorem dX5_sounds_121 : decode cX5_sounds 121 = .ok (.aload_n 0, 1) := by decide +kernel
theorem dX5_sounds_122 : decode cX5_sounds 122 = .ok (.iload_n 1, 1) := by decide +kernel
theorem dX5_sounds_123 : decode cX5_sounds 123 = .ok (.bipush 7, 2) := by decide +kernel
theorem dX5_sounds_125 : decode cX5_sounds 125 = .ok (.iconst 0, 1) := by decide +kernel
theorem dX5_sounds_126 : decode cX5_sounds 126 = .ok (.invokevirtual 84, 3) := by decide +kernel
theorem dX5_sounds_129 : decode cX5_sounds 129 = .ok (.iinc 1 1, 3) := by decide +kernel
theorem dX5_sounds_132 : decode cX5_sounds 132 = .ok (.goto (-21), 3) := by decide +kernel
theorem dX5_sounds_135 : decode cX5_sounds 135 = .ok (.return_, 1) := by decide +kernel
theorem dX5_boilsOn_0 : decode cX5_boilsOn 0 = .ok (.aload_n 0, 1) := by decide +kernel
theorem dX5_boilsOn_1 : decode cX5_boilsOn 1 = .ok (.iload_n 1, 1) := by decide +kernel
theorem dX5_boilsOn_2 : decode cX5_boilsOn 2 = .ok (.iconst 2, 1) := by decide +kernel
theorem dX5_boilsOn_3 : decode cX5_boilsOn 3 = .ok (.invokevirtual 48, 3) := by decide +kernel
theorem dX5_boilsOn_6 : decode cX5_boilsOn 6 = .ok (.ifCond .le 27, 3) := by decide +kernel
theorem dX5_boilsOn_9 : decode cX5_boilsOn 9 = .ok (.aload_n 0, 1) := by decide +kernel
theorem dX5_boilsOn_10 : decode cX5_boilsOn 10 = .ok (.iload_n 1, 1) := by decide +kernel
theorem dX5_boilsOn_11 : decode cX5_boilsOn 11 = .ok (.iconst 2, 1) := by decide +kernel
theorem dX5_boilsOn_12 : decode cX5_boilsOn 12 = .ok (.aload_n 0, 1) := by decide +kernel
theorem dX5_boilsOn_13 : decode cX5_boilsOn 13 = .ok (.iload_n 1, 1) := by decide +kernel
theorem dX5_boilsOn_14 : decode cX5_boilsOn 14 = .ok (.iconst 2, 1) := by decide +kernel
theorem dX5_boilsOn_15 : decode cX5_boilsOn 15 = .ok (.invokevirtual 48, 3) := by decide +kernel
theorem dX5_boilsOn_18 : decode cX5_boilsOn 18 = .ok (.iconst 1, 1) := by decide +kernel
theorem dX5_boilsOn_19 : decode cX5_boilsOn 19 = .ok (.isub, 1) := by decide +kernel
theorem dX5_boilsOn_20 : decode cX5_boilsOn 20 = .ok (.invokevirtual 84, 3) := by decide +kernel
theorem dX5_boilsOn_23 : decode cX5_boilsOn 23 = .ok (.aload_n 0, 1) := by decide +kernel
theorem dX5_boilsOn_24 : decode cX5_boilsOn 24 = .ok (.getfield 9, 3) := by decide +kernel
theorem dX5_boilsOn_27 : decode cX5_boilsOn 27 = .ok (.iconst 3, 1) := by decide +kernel
theorem dX5_boilsOn_28 : decode cX5_boilsOn 28 = .ok (.dup2, 1) := by decide +kernel
theorem dX5_boilsOn_29 : decode cX5_boilsOn 29 = .ok (.iaload, 1) := by decide +kernel
theorem dX5_boilsOn_30 : decode cX5_boilsOn 30 = .ok (.iconst 1, 1) := by decide +kernel
theorem dX5_boilsOn_31 : decode cX5_boilsOn 31 = .ok (.iadd, 1) := by decide +kernel
theorem dX5_boilsOn_32 : decode cX5_boilsOn 32 = .ok (.iastore, 1) := by decide +kernel
theorem dX5_boilsOn_33 : decode cX5_boilsOn 33 = .ok (.aload_n 0, 1) := by decide +kernel
theorem dX5_boilsOn_34 : decode cX5_boilsOn 34 = .ok (.iload_n 1, 1) := by decide +kernel
theorem dX5_boilsOn_35 : decode cX5_boilsOn 35 = .ok (.iconst 2, 1) := by decide +kernel
theorem dX5_boilsOn_36 : decode cX5_boilsOn 36 = .ok (.invokevirtual 48, 3) := by decide +kernel
theorem dX5_boilsOn_39 : decode cX5_boilsOn 39 = .ok (.ifCond .le 5, 3) := by decide +kernel
theorem dX5_boilsOn_42 : decode cX5_boilsOn 42 = .ok (.iconst 0, 1) := by decide +kernel
theorem dX5_boilsOn_43 : decode cX5_boilsOn 43 = .ok (.ireturn, 1) := by decide +kernel
theorem dX5_boilsOn_44 : decode cX5_boilsOn 44 = .ok (.aload_n 0, 1) := by decide +kernel
theorem dX5_boilsOn_45 : decode cX5_boilsOn 45 = .ok (.iload_n 1, 1) := by decide +kernel
theorem dX5_boilsOn_46 : decode cX5_boilsOn 46 = .ok (.iconst 5, 1) := by decide +kernel
theorem dX5_boilsOn_47 : decode cX5_boilsOn 47 = .ok (.iconst 0, 1) := by decide +kernel
theorem dX5_boilsOn_48 : decode cX5_boilsOn 48 = .ok (.invokevirtual 84, 3) := by decide +kernel
theorem dX5_boilsOn_51 : decode cX5_boilsOn 51 = .ok (.aload_n 0, 1) := by decide +kernel
theorem dX5_boilsOn_52 : decode cX5_boilsOn 52 = .ok (.iload_n 1, 1) := by decide +kernel
theorem dX5_boilsOn_53 : decode cX5_boilsOn 53 = .ok (.bipush 6, 2) := by decide +kernel
theorem dX5_boilsOn_55 : decode cX5_boilsOn 55 = .ok (.bipush 7, 2) := by decide +kernel
theorem dX5_boilsOn_57 : decode cX5_boilsOn 57 = .ok (.invokevirtual 84, 3) := by decide +kernel
theorem dX5_boilsOn_60 : decode cX5_boilsOn 60 = .ok (.aload_n 0, 1) := by decide +kernel
theorem dX5_boilsOn_61 : decode cX5_boilsOn 61 = .ok (.getfield 9, 3) := by decide +kernel
theorem dX5_boilsOn_64 : decode cX5_boilsOn 64 = .ok (.iconst 5, 1) := by decide +kernel
theorem dX5_boilsOn_65 : decode cX5_boilsOn 65 = .ok (.iconst 3, 1) := by decide +kernel
theorem dX5_boilsOn_66 : decode cX5_boilsOn 66 = .ok (.aload_n 0, 1) := by decide +kernel
theorem dX5_boilsOn_67 : decode cX5_boilsOn 67 = .ok (.iload_n 1, 1) := by decide +kernel
theorem dX5_boilsOn_68 : decode cX5_boilsOn 68 = .ok (.iconst 0, 1) := by decide +kernel
theorem dX5_boilsOn_69 : decode cX5_boilsOn 69 = .ok (.invokevirtual 48, 3) := by decide +kernel
theorem dX5_boilsOn_72 : decode cX5_boilsOn 72 = .ok (.imul, 1) := by decide +kernel
theorem dX5_boilsOn_73 : decode cX5_boilsOn 73 = .ok (.iadd, 1) := by decide +kernel
theorem dX5_boilsOn_74 : decode cX5_boilsOn 74 = .ok (.iconst 0, 1) := by decide +kernel
theorem dX5_boilsOn_75 : decode cX5_boilsOn 75 = .ok (.iadd, 1) := by decide +kernel
theorem dX5_boilsOn_76 : decode cX5_boilsOn 76 = .ok (.dup2, 1) := by decide +kernel
theorem dX5_boilsOn_77 : decode cX5_boilsOn 77 = .ok (.iaload, 1) := by decide +kernel
theorem dX5_boilsOn_78 : decode cX5_boilsOn 78 = .ok (.iconst 2, 1) := by decide +kernel
theorem dX5_boilsOn_79 : decode cX5_boilsOn 79 = .ok (.isub, 1) := by decide +kernel
theorem dX5_boilsOn_80 : decode cX5_boilsOn 80 = .ok (.iastore, 1) := by decide +kernel
theorem dX5_boilsOn_81 : decode cX5_boilsOn 81 = .ok (.aload_n 0, 1) := by decide +kernel
theorem dX5_boilsOn_82 : decode cX5_boilsOn 82 = .ok (.getfield 9, 3) := by decide +kernel
theorem dX5_boilsOn_85 : decode cX5_boilsOn 85 = .ok (.iconst 5, 1) := by decide +kernel
theorem dX5_boilsOn_86 : decode cX5_boilsOn 86 = .ok (.iconst 3, 1) := by decide +kernel
theorem dX5_boilsOn_87 : decode cX5_boilsOn 87 = .ok (.aload_n 0, 1) := by decide +kernel
theorem dX5_boilsOn_88 : decode cX5_boilsOn 88 = .ok (.iload_n 1, 1) := by decide +kernel
theorem dX5_boilsOn_89 : decode cX5_boilsOn 89 = .ok (.iconst 0, 1) := by decide +kernel
theorem dX5_boilsOn_90 : decode cX5_boilsOn 90 = .ok (.invokevirtual 48, 3) := by decide +kernel
theorem dX5_boilsOn_93 : decode cX5_boilsOn 93 = .ok (.imul, 1) := by decide +kernel
theorem dX5_boilsOn_94 : decode cX5_boilsOn 94 = .ok (.iadd, 1) := by decide +kernel
theorem dX5_boilsOn_95 : decode cX5_boilsOn 95 = .ok (.iconst 1, 1) := by decide +kernel
theorem dX5_boilsOn_96 : decode cX5_boilsOn 96 = .ok (.iadd, 1) := by decide +kernel
theorem dX5_boilsOn_97 : decode cX5_boilsOn 97 = .ok (.dup2, 1) := by decide +kernel
theorem dX5_boilsOn_98 : decode cX5_boilsOn 98 = .ok (.iaload, 1) := by decide +kernel
theorem dX5_boilsOn_99 : decode cX5_boilsOn 99 = .ok (.iconst 1, 1) := by decide +kernel
theorem dX5_boilsOn_100 : decode cX5_boilsOn 100 = .ok (.iadd, 1) := by decide +kernel
theorem dX5_boilsOn_101 : decode cX5_boilsOn 101 = .ok (.iastore, 1) := by decide +kernel
theorem dX5_boilsOn_102 : decode cX5_boilsOn 102 = .ok (.aload_n 0, 1) := by decide +kernel
theorem dX5_boilsOn_103 : decode cX5_boilsOn 103 = .ok (.getfield 9, 3) := by decide +kernel
theorem dX5_boilsOn_106 : decode cX5_boilsOn 106 = .ok (.iconst 4, 1) := by decide +kernel
theorem dX5_boilsOn_107 : decode cX5_boilsOn 107 = .ok (.dup2, 1) := by decide +kernel
theorem dX5_boilsOn_108 : decode cX5_boilsOn 108 = .ok (.iaload, 1) := by decide +kernel
theorem dX5_boilsOn_109 : decode cX5_boilsOn 109 = .ok (.iconst 1, 1) := by decide +kernel
theorem dX5_boilsOn_110 : decode cX5_boilsOn 110 = .ok (.iadd, 1) := by decide +kernel
theorem dX5_boilsOn_111 : decode cX5_boilsOn 111 = .ok (.iastore, 1) := by decide +kernel
theorem dX5_boilsOn_112 : decode cX5_boilsOn 112 = .ok (.iconst 1, 1) := by decide +kernel
theorem dX5_boilsOn_113 : decode cX5_boilsOn 113 = .ok (.ireturn, 1) := by decide +kernel
theorem dX5_goesBy_0 : decode cX5_goesBy 0 = .ok (.iconst 0, 1) := by decide +kernel
theorem dX5_goesBy_1 : decode cX5_goesBy 1 = .ok (.istore_n 1, 1) := by decide +kernel
theorem dX5_goesBy_2 : decode cX5_goesBy 2 = .ok (.iconst 0, 1) := by decide +kernel
theorem dX5_goesBy_3 : decode cX5_goesBy 3 = .ok (.istore_n 2, 1) := by decide +kernel
theorem dX5_goesBy_4 : decode cX5_goesBy 4 = .ok (.iload_n 2, 1) := by decide +kernel
theorem dX5_goesBy_5 : decode cX5_goesBy 5 = .ok (.aload_n 0, 1) := by decide +kernel
theorem dX5_goesBy_6 : decode cX5_goesBy 6 = .ok (.getfield 9, 3) := by decide +kernel
theorem dX5_goesBy_9 : decode cX5_goesBy 9 = .ok (.iconst 1, 1) := by decide +kernel
theorem dX5_goesBy_10 : decode cX5_goesBy 10 = .ok (.iaload, 1) := by decide +kernel
theorem dX5_goesBy_11 : decode cX5_goesBy 11 = .ok (.if_icmp .ge 33, 3) := by decide +kernel
theorem dX5_goesBy_14 : decode cX5_goesBy 14 = .ok (.iload_n 1, 1) := by decide +kernel
theorem dX5_goesBy_15 : decode cX5_goesBy 15 = .ok (.aload_n 0, 1) := by decide +kernel
theorem dX5_goesBy_16 : decode cX5_goesBy 16 = .ok (.iload_n 2, 1) := by decide +kernel
theorem dX5_goesBy_17 : decode cX5_goesBy 17 = .ok (.invokevirtual 59, 3) := by decide +kernel
theorem dX5_goesBy_20 : decode cX5_goesBy 20 = .ok (.ifCond .eq 15, 3) := by decide +kernel
theorem dX5_goesBy_23 : decode cX5_goesBy 23 = .ok (.aload_n 0, 1) := by decide +kernel
theorem dX5_goesBy_24 : decode cX5_goesBy 24 = .ok (.iload_n 2, 1) := by decide +kernel
theorem dX5_goesBy_25 : decode cX5_goesBy 25 = .ok (.invokevirtual 141, 3) := by decide +kernel
theorem dX5_goesBy_28 : decode cX5_goesBy 28 = .ok (.ifCond .eq 7, 3) := by decide +kernel
theorem dX5_goesBy_31 : decode cX5_goesBy 31 = .ok (.iconst 1, 1) := by decide +kernel
theorem dX5_goesBy_32 : decode cX5_goesBy 32 = .ok (.goto 4, 3) := by decide +kernel
theorem dX5_goesBy_35 : decode cX5_goesBy 35 = .ok (.iconst 0, 1) := by decide +kernel
theorem dX5_goesBy_36 : decode cX5_goesBy 36 = .ok (.iadd, 1) := by decide +kernel
theorem dX5_goesBy_37 : decode cX5_goesBy 37 = .ok (.istore_n 1, 1) := by decide +kernel
theorem dX5_goesBy_38 : decode cX5_goesBy 38 = .ok (.iinc 2 1, 3) := by decide +kernel
theorem dX5_goesBy_41 : decode cX5_goesBy 41 = .ok (.goto (-37), 3) := by decide +kernel
theorem dX5_goesBy_44 : decode cX5_goesBy 44 = .ok (.iconst 0, 1) := by decide +kernel
theorem dX5_goesBy_45 : decode cX5_goesBy 45 = .ok (.istore_n 2, 1) := by decide +kernel
theorem dX5_goesBy_46 : decode cX5_goesBy 46 = .ok (.iload_n 2, 1) := by decide +kernel
theorem dX5_goesBy_47 : decode cX5_goesBy 47 = .ok (.aload_n 0, 1) := by decide +kernel
theorem dX5_goesBy_48 : decode cX5_goesBy 48 = .ok (.getfield 9, 3) := by decide +kernel
theorem dX5_goesBy_51 : decode cX5_goesBy 51 = .ok (.iconst 1, 1) := by decide +kernel
theorem dX5_goesBy_52 : decode cX5_goesBy 52 = .ok (.iaload, 1) := by decide +kernel
theorem dX5_goesBy_53 : decode cX5_goesBy 53 = .ok (.if_icmp .ge 96, 3) := by decide +kernel
theorem dX5_goesBy_56 : decode cX5_goesBy 56 = .ok (.aload_n 0, 1) := by decide +kernel
theorem dX5_goesBy_57 : decode cX5_goesBy 57 = .ok (.iload_n 2, 1) := by decide +kernel
theorem dX5_goesBy_58 : decode cX5_goesBy 58 = .ok (.iconst 3, 1) := by decide +kernel
theorem dX5_goesBy_59 : decode cX5_goesBy 59 = .ok (.invokevirtual 48, 3) := by decide +kernel
theorem dX5_goesBy_62 : decode cX5_goesBy 62 = .ok (.aload_n 0, 1) := by decide +kernel
theorem dX5_goesBy_63 : decode cX5_goesBy 63 = .ok (.iload_n 2, 1) := by decide +kernel
theorem dX5_goesBy_64 : decode cX5_goesBy 64 = .ok (.invokevirtual 52, 3) := by decide +kernel
theorem dX5_goesBy_67 : decode cX5_goesBy 67 = .ok (.ifCond .eq 13, 3) := by decide +kernel
theorem dX5_goesBy_70 : decode cX5_goesBy 70 = .ok (.iconst 5, 1) := by decide +kernel
theorem dX5_goesBy_71 : decode cX5_goesBy 71 = .ok (.aload_n 0, 1) := by decide +kernel
theorem dX5_goesBy_72 : decode cX5_goesBy 72 = .ok (.iload_n 2, 1) := by decide +kernel
theorem dX5_goesBy_73 : decode cX5_goesBy 73 = .ok (.invokevirtual 56, 3) := by decide +kernel
theorem dX5_goesBy_76 : decode cX5_goesBy 76 = .ok (.imul, 1) := by decide +kernel
theorem dX5_goesBy_77 : decode cX5_goesBy 77 = .ok (.goto 5, 3) := by decide +kernel
theorem dX5_goesBy_80 : decode cX5_goesBy 80 = .ok (.bipush (-5), 2) := by decide +kernel
theorem dX5_goesBy_82 : decode cX5_goesBy 82 = .ok (.iadd, 1) := by decide +kernel
theorem dX5_goesBy_83 : decode cX5_goesBy 83 = .ok (.istore_n 3, 1) := by decide +kernel
theorem dX5_goesBy_84 : decode cX5_goesBy 84 = .ok (.aload_n 0, 1) := by decide +kernel
theorem dX5_goesBy_85 : decode cX5_goesBy 85 = .ok (.iload_n 2, 1) := by decide +kernel
theorem dX5_goesBy_86 : decode cX5_goesBy 86 = .ok (.iconst 3, 1) := by decide +kernel
theorem dX5_goesBy_87 : decode cX5_goesBy 87 = .ok (.iload_n 3, 1) := by decide +kernel
theorem dX5_goesBy_88 : decode cX5_goesBy 88 = .ok (.bipush 100, 2) := by decide +kernel
theorem dX5_goesBy_90 : decode cX5_goesBy 90 = .ok (.if_icmp .le 8, 3) := by decide +kernel
theorem dX5_goesBy_93 : decode cX5_goesBy 93 = .ok (.bipush 100, 2) := by decide +kernel
theorem dX5_goesBy_95 : decode cX5_goesBy 95 = .ok (.goto 15, 3) := by decide +kernel
theorem dX5_goesBy_98 : decode cX5_goesBy 98 = .ok (.iload_n 3, 1) := by decide +kernel
theorem dX5_goesBy_99 : decode cX5_goesBy 99 = .ok (.bipush 20, 2) := by decide +kernel
theorem dX5_goesBy_101 : decode cX5_goesBy 101 = .ok (.if_icmp .ge 8, 3) := by decide +kernel
theorem dX5_goesBy_104 : decode cX5_goesBy 104 = .ok (.bipush 20, 2) := by decide +kernel
theorem dX5_goesBy_106 : decode cX5_goesBy 106 = .ok (.goto 4, 3) := by decide +kernel
theorem dX5_goesBy_109 : decode cX5_goesBy 109 = .ok (.iload_n 3, 1) := by decide +kernel
theorem dX5_goesBy_110 : decode cX5_goesBy 110 = .ok (.invokevirtual 84, 3) := by decide +kernel
theorem dX5_goesBy_113 : decode cX5_goesBy 113 = .ok (.aload_n 0, 1) := by decide +kernel
theorem dX5_goesBy_114 : decode cX5_goesBy 114 = .ok (.iload_n 2, 1) := by decide +kernel
theorem dX5_goesBy_115 : decode cX5_goesBy 115 = .ok (.bipush 6, 2) := by decide +kernel
theorem dX5_goesBy_117 : decode cX5_goesBy 117 = .ok (.aload_n 0, 1) := by decide +kernel
theorem dX5_goesBy_118 : decode cX5_goesBy 118 = .ok (.iload_n 2, 1) := by decide +kernel
theorem dX5_goesBy_119 : decode cX5_goesBy 119 = .ok (.bipush 6, 2) := by decide +kernel
theorem dX5_goesBy_121 : decode cX5_goesBy 121 = .ok (.invokevirtual 48, 3) := by decide +kernel
theorem dX5_goesBy_124 : decode cX5_goesBy 124 = .ok (.ifCond .le 15, 3) := by decide +kernel
theorem dX5_goesBy_127 : decode cX5_goesBy 127 = .ok (.aload_n 0, 1) := by decide +kernel
theorem dX5_goesBy_128 : decode cX5_goesBy 128 = .ok (.iload_n 2, 1) := by decide +kernel
theorem dX5_goesBy_129 : decode cX5_goesBy 129 = .ok (.bipush 6, 2) := by decide +kernel
theorem dX5_goesBy_131 : decode cX5_goesBy 131 = .ok (.invokevirtual 48, 3) := by decide +kernel
theorem dX5_goesBy_134 : decode cX5_goesBy 134 = .ok (.iconst 1, 1) := by decide +kernel
theorem dX5_goesBy_135 : decode cX5_goesBy 135 = .ok (.isub, 1) := by decide +kernel
theorem dX5_goesBy_136 : decode cX5_goesBy 136 = .ok (.goto 4, 3) := by decide +kernel
theorem dX5_goesBy_139 : decode cX5_goesBy 139 = .ok (.iconst 0, 1) := by decide +kernel
theorem dX5_goesBy_140 : decode cX5_goesBy 140 = .ok (.invokevirtual 84, 3) := by decide +kernel
theorem dX5_goesBy_143 : decode cX5_goesBy 143 = .ok (.iinc 2 1, 3) := by decide +kernel
theorem dX5_goesBy_146 : decode cX5_goesBy 146 = .ok (.goto (-100), 3) := by decide +kernel
theorem dX5_goesBy_149 : decode cX5_goesBy 149 = .ok (.aload_n 0, 1) := by decide +kernel
theorem dX5_goesBy_150 : decode cX5_goesBy 150 = .ok (.getfield 9, 3) := by decide +kernel
theorem dX5_goesBy_153 : decode cX5_goesBy 153 = .ok (.iconst 0, 1) := by decide +kernel
theorem dX5_goesBy_154 : decode cX5_goesBy 154 = .ok (.dup2, 1) := by decide +kernel
theorem dX5_goesBy_155 : decode cX5_goesBy 155 = .ok (.iaload, 1) := by decide +kernel
theorem dX5_goesBy_156 : decode cX5_goesBy 156 = .ok (.iconst 1, 1) := by decide +kernel
theorem dX5_goesBy_157 : decode cX5_goesBy 157 = .ok (.iadd, 1) := by decide +kernel
theorem dX5_goesBy_158 : decode cX5_goesBy 158 = .ok (.iastore, 1) := by decide +kernel
theorem dX5_goesBy_159 : decode cX5_goesBy 159 = .ok (.aload_n 0, 1) := by decide +kernel
theorem dX5_goesBy_160 : decode cX5_goesBy 160 = .ok (.getfield 9, 3) := by decide +kernel
theorem dX5_goesBy_163 : decode cX5_goesBy 163 = .ok (.iconst 0, 1) := by decide +kernel
theorem dX5_goesBy_164 : decode cX5_goesBy 164 = .ok (.iaload, 1) := by decide +kernel
theorem dX5_goesBy_165 : decode cX5_goesBy 165 = .ok (.bipush 6, 2) := by decide +kernel
theorem dX5_goesBy_167 : decode cX5_goesBy 167 = .ok (.irem, 1) := by decide +kernel
theorem dX5_goesBy_168 : decode cX5_goesBy 168 = .ok (.ifCond .ne 7, 3) := by decide +kernel
theorem dX5_goesBy_171 : decode cX5_goesBy 171 = .ok (.aload_n 0, 1) := by decide +kernel
theorem dX5_goesBy_172 : decode cX5_goesBy 172 = .ok (.invokevirtual 144, 3) := by decide +kernel
theorem dX5_goesBy_175 : decode cX5_goesBy 175 = .ok (.iload_n 1, 1) := by decide +kernel
theorem dX5_goesBy_176 : decode cX5_goesBy 176 = .ok (.ireturn, 1) := by decide +kernel
theorem dX5_passes_0 : decode cX5_passes 0 = .ok (.iload_n 1, 1) := by decide +kernel
theorem dX5_passes_1 : decode cX5_passes 1 = .ok (.iconst 1, 1) := by decide +kernel
theorem dX5_passes_2 : decode cX5_passes 2 = .ok (.bipush 9, 2) := by decide +kernel
theorem dX5_passes_4 : decode cX5_passes 4 = .ok (.invokestatic 40, 3) := by decide +kernel
theorem dX5_passes_7 : decode cX5_passes 7 = .ok (.ifCond .ne 7, 3) := by decide +kernel
theorem dX5_passes_10 : decode cX5_passes 10 = .ok (.sipush (-1012), 3) := by decide +kernel
theorem dX5_passes_13 : decode cX5_passes 13 = .ok (.ireturn, 1) := by decide +kernel
theorem dX5_passes_14 : decode cX5_passes 14 = .ok (.iconst 0, 1) := by decide +kernel
theorem dX5_passes_15 : decode cX5_passes 15 = .ok (.istore_n 2, 1) := by decide +kernel
theorem dX5_passes_16 : decode cX5_passes 16 = .ok (.iconst 0, 1) := by decide +kernel
theorem dX5_passes_17 : decode cX5_passes 17 = .ok (.istore_n 3, 1) := by decide +kernel
theorem dX5_passes_18 : decode cX5_passes 18 = .ok (.iload_n 3, 1) := by decide +kernel
theorem dX5_passes_19 : decode cX5_passes 19 = .ok (.iload_n 1, 1) := by decide +kernel
theorem dX5_passes_20 : decode cX5_passes 20 = .ok (.if_icmp .ge 16, 3) := by decide +kernel
theorem dX5_passes_23 : decode cX5_passes 23 = .ok (.iload_n 2, 1) := by decide +kernel
theorem dX5_passes_24 : decode cX5_passes 24 = .ok (.aload_n 0, 1) := by decide +kernel
theorem dX5_passes_25 : decode cX5_passes 25 = .ok (.invokevirtual 147, 3) := by decide +kernel
theorem dX5_passes_28 : decode cX5_passes 28 = .ok (.iadd, 1) := by decide +kernel
theorem dX5_passes_29 : decode cX5_passes 29 = .ok (.istore_n 2, 1) := by decide +kernel
theorem dX5_passes_30 : decode cX5_passes 30 = .ok (.iinc 3 1, 3) := by decide +kernel
theorem dX5_passes_33 : decode cX5_passes 33 = .ok (.goto (-15), 3) := by decide +kernel
theorem dX5_passes_36 : decode cX5_passes 36 = .ok (.iload_n 2, 1) := by decide +kernel
theorem dX5_passes_37 : decode cX5_passes 37 = .ok (.ireturn, 1) := by decide +kernel
theorem dX5_minute_0 : decode cX5_minute 0 = .ok (.aload_n 0, 1) := by decide +kernel
theorem dX5_minute_1 : decode cX5_minute 1 = .ok (.invokevirtual 75, 3) := by decide +kernel
theorem dX5_minute_4 : decode cX5_minute 4 = .ok (.aload_n 0, 1) := by decide +kernel
theorem dX5_minute_5 : decode cX5_minute 5 = .ok (.aload_n 0, 1) := by decide +kernel
theorem dX5_minute_6 : decode cX5_minute 6 = .ok (.iload_n 1, 1) := by decide +kernel
theorem dX5_minute_7 : decode cX5_minute 7 = .ok (.invokevirtual 150, 3) := by decide +kernel
theorem dX5_minute_10 : decode cX5_minute 10 = .ok (.invokevirtual 81, 3) := by decide +kernel
theorem dX5_minute_13 : decode cX5_minute 13 = .ok (.ireturn, 1) := by decide +kernel
theorem dX5_owner_0 : decode cX5_owner 0 = .ok (.iload_n 1, 1) := by decide +kernel
theorem dX5_owner_1 : decode cX5_owner 1 = .ok (.invokestatic 65, 3) := by decide +kernel
theorem dX5_owner_4 : decode cX5_owner 4 = .ok (.ifCond .ne 9, 3) := by decide +kernel
theorem dX5_owner_7 : decode cX5_owner 7 = .ok (.sipush (-1012), 3) := by decide +kernel
theorem dX5_owner_10 : decode cX5_owner 10 = .ok (.goto 22, 3) := by decide +kernel
theorem dX5_owner_13 : decode cX5_owner 13 = .ok (.aload_n 0, 1) := by decide +kernel
theorem dX5_owner_14 : decode cX5_owner 14 = .ok (.iload_n 1, 1) := by decide +kernel
theorem dX5_owner_15 : decode cX5_owner 15 = .ok (.invokevirtual 44, 3) := by decide +kernel
theorem dX5_owner_18 : decode cX5_owner 18 = .ok (.ifCond .ge 9, 3) := by decide +kernel
theorem dX5_owner_21 : decode cX5_owner 21 = .ok (.sipush (-1015), 3) := by decide +kernel
theorem dX5_owner_24 : decode cX5_owner 24 = .ok (.goto 8, 3) := by decide +kernel
theorem dX5_owner_27 : decode cX5_owner 27 = .ok (.aload_n 0, 1) := by decide +kernel
theorem dX5_owner_28 : decode cX5_owner 28 = .ok (.iload_n 1, 1) := by decide +kernel
theorem dX5_owner_29 : decode cX5_owner 29 = .ok (.invokevirtual 44, 3) := by decide +kernel
theorem dX5_owner_32 : decode cX5_owner 32 = .ok (.ireturn, 1) := by decide +kernel
theorem dX5_kettleOf_0 : decode cX5_kettleOf 0 = .ok (.aload_n 0, 1) := by decide +kernel
theorem dX5_kettleOf_1 : decode cX5_kettleOf 1 = .ok (.iload_n 1, 1) := by decide +kernel
theorem dX5_kettleOf_2 : decode cX5_kettleOf 2 = .ok (.invokevirtual 92, 3) := by decide +kernel
theorem dX5_kettleOf_5 : decode cX5_kettleOf 5 = .ok (.ifCond .ne 7, 3) := by decide +kernel
theorem dX5_kettleOf_8 : decode cX5_kettleOf 8 = .ok (.sipush (-1011), 3) := by decide +kernel
theorem dX5_kettleOf_11 : decode cX5_kettleOf 11 = .ok (.ireturn, 1) := by decide +kernel
theorem dX5_kettleOf_12 : decode cX5_kettleOf 12 = .ok (.iload_n 2, 1) := by decide +kernel
theorem dX5_kettleOf_13 : decode cX5_kettleOf 13 = .ok (.tableswitch 132 0 9 #[55, 55, 55, 55, 55, 62, 85, 99, 113, 121], 55) := by decide +kernel
theorem dX5_kettleOf_68 : decode cX5_kettleOf 68 = .ok (.aload_n 0, 1) := by decide +kernel
theorem dX5_kettleOf_69 : decode cX5_kettleOf 69 = .ok (.iload_n 1, 1) := by decide +kernel
theorem dX5_kettleOf_70 : decode cX5_kettleOf 70 = .ok (.iload_n 2, 1) := by decide +kernel
theorem dX5_kettleOf_71 : decode cX5_kettleOf 71 = .ok (.invokevirtual 48, 3) := by decide +kernel
theorem dX5_kettleOf_74 : decode cX5_kettleOf 74 = .ok (.ireturn, 1) := by decide +kernel
theorem dX5_kettleOf_75 : decode cX5_kettleOf 75 = .ok (.aload_n 0, 1) := by decide +kernel
theorem dX5_kettleOf_76 : decode cX5_kettleOf 76 = .ok (.iload_n 1, 1) := by decide +kernel
theorem dX5_kettleOf_77 : decode cX5_kettleOf 77 = .ok (.invokevirtual 52, 3) := by decide +kernel
theorem dX5_kettleOf_80 : decode cX5_kettleOf 80 = .ok (.ifCond .eq 14, 3) := by decide +kernel
theorem dX5_kettleOf_83 : decode cX5_kettleOf 83 = .ok (.aload_n 0, 1) := by decide +kernel
theorem dX5_kettleOf_84 : decode cX5_kettleOf 84 = .ok (.iload_n 1, 1) := by decide +kernel
theorem dX5_kettleOf_85 : decode cX5_kettleOf 85 = .ok (.iconst 5, 1) := by decide +kernel
theorem dX5_kettleOf_86 : decode cX5_kettleOf 86 = .ok (.invokevirtual 48, 3) := by decide +kernel
theorem dX5_kettleOf_89 : decode cX5_kettleOf 89 = .ok (.iconst 1, 1) := by decide +kernel
theorem dX5_kettleOf_90 : decode cX5_kettleOf 90 = .ok (.isub, 1) := by decide +kernel
theorem dX5_kettleOf_91 : decode cX5_kettleOf 91 = .ok (.goto 6, 3) := by decide +kernel
theorem dX5_kettleOf_94 : decode cX5_kettleOf 94 = .ok (.sipush (-1015), 3) := by decide +kernel
theorem dX5_kettleOf_97 : decode cX5_kettleOf 97 = .ok (.ireturn, 1) := by decide +kernel
theorem dX5_kettleOf_98 : decode cX5_kettleOf 98 = .ok (.aload_n 0, 1) := by decide +kernel
theorem dX5_kettleOf_99 : decode cX5_kettleOf 99 = .ok (.iload_n 1, 1) := by decide +kernel
theorem dX5_kettleOf_100 : decode cX5_kettleOf 100 = .ok (.invokevirtual 59, 3) := by decide +kernel
theorem dX5_kettleOf_103 : decode cX5_kettleOf 103 = .ok (.ifCond .eq 7, 3) := by decide +kernel
theorem dX5_kettleOf_106 : decode cX5_kettleOf 106 = .ok (.iconst 1, 1) := by decide +kernel
theorem dX5_kettleOf_107 : decode cX5_kettleOf 107 = .ok (.goto 4, 3) := by decide +kernel
theorem dX5_kettleOf_110 : decode cX5_kettleOf 110 = .ok (.iconst 0, 1) := by decide +kernel
theorem dX5_kettleOf_111 : decode cX5_kettleOf 111 = .ok (.ireturn, 1) := by decide +kernel
theorem dX5_kettleOf_112 : decode cX5_kettleOf 112 = .ok (.aload_n 0, 1) := by decide +kernel
theorem dX5_kettleOf_113 : decode cX5_kettleOf 113 = .ok (.iload_n 1, 1) := by decide +kernel
theorem dX5_kettleOf_114 : decode cX5_kettleOf 114 = .ok (.invokevirtual 135, 3) := by decide +kernel
theorem dX5_kettleOf_117 : decode cX5_kettleOf 117 = .ok (.ifCond .eq 7, 3) := by decide +kernel
theorem dX5_kettleOf_120 : decode cX5_kettleOf 120 = .ok (.iconst 1, 1) := by decide +kernel
theorem dX5_kettleOf_121 : decode cX5_kettleOf 121 = .ok (.goto 4, 3) := by decide +kernel
theorem dX5_kettleOf_124 : decode cX5_kettleOf 124 = .ok (.iconst 0, 1) := by decide +kernel
theorem dX5_kettleOf_125 : decode cX5_kettleOf 125 = .ok (.ireturn, 1) := by decide +kernel
theorem dX5_kettleOf_126 : decode cX5_kettleOf 126 = .ok (.aload_n 0, 1) := by decide +kernel
theorem dX5_kettleOf_127 : decode cX5_kettleOf 127 = .ok (.iload_n 1, 1) := by decide +kernel
theorem dX5_kettleOf_128 : decode cX5_kettleOf 128 = .ok (.bipush 6, 2) := by decide +kernel
theorem dX5_kettleOf_130 : decode cX5_kettleOf 130 = .ok (.invokevirtual 48, 3) := by decide +kernel
theorem dX5_kettleOf_133 : decode cX5_kettleOf 133 = .ok (.ireturn, 1) := by decide +kernel
theorem dX5_kettleOf_134 : decode cX5_kettleOf 134 = .ok (.aload_n 0, 1) := by decide +kernel
theorem dX5_kettleOf_135 : decode cX5_kettleOf 135 = .ok (.iload_n 1, 1) := by decide +kernel
theorem dX5_kettleOf_136 : decode cX5_kettleOf 136 = .ok (.bipush 8, 2) := by decide +kernel
theorem dX5_kettleOf_138 : decode cX5_kettleOf 138 = .ok (.invokevirtual 48, 3) := by decide +kernel
theorem dX5_kettleOf_141 : decode cX5_kettleOf 141 = .ok (.invokestatic 129, 3) := by decide +kernel
theorem dX5_kettleOf_144 : decode cX5_kettleOf 144 = .ok (.ireturn, 1) := by decide +kernel
theorem dX5_kettleOf_145 : decode cX5_kettleOf 145 = .ok (.sipush (-1012), 3) := by decide +kernel
theorem dX5_kettleOf_148 : decode cX5_kettleOf 148 = .ok (.ireturn, 1) := by decide +kernel
theorem dX5_stoveOf_0 : decode cX5_stoveOf 0 = .ok (.iload_n 1, 1) := by decide +kernel
theorem dX5_stoveOf_1 : decode cX5_stoveOf 1 = .ok (.invokestatic 98, 3) := by decide +kernel
theorem dX5_stoveOf_4 : decode cX5_stoveOf 4 = .ok (.ifCond .ne 7, 3) := by decide +kernel
theorem dX5_stoveOf_7 : decode cX5_stoveOf 7 = .ok (.sipush (-1011), 3) := by decide +kernel
theorem dX5_stoveOf_10 : decode cX5_stoveOf 10 = .ok (.ireturn, 1) := by decide +kernel
theorem dX5_stoveOf_11 : decode cX5_stoveOf 11 = .ok (.iload_n 2, 1) := by decide +kernel
theorem dX5_stoveOf_12 : decode cX5_stoveOf 12 = .ok (.ifCond .eq 15, 3) := by decide +kernel
theorem dX5_stoveOf_15 : decode cX5_stoveOf 15 = .ok (.aload_n 0, 1) := by decide +kernel
theorem dX5_stoveOf_16 : decode cX5_stoveOf 16 = .ok (.getfield 9, 3) := by decide +kernel
theorem dX5_stoveOf_19 : decode cX5_stoveOf 19 = .ok (.bipush 29, 2) := by decide +kernel
theorem dX5_stoveOf_21 : decode cX5_stoveOf 21 = .ok (.iload_n 1, 1) := by decide +kernel
theorem dX5_stoveOf_22 : decode cX5_stoveOf 22 = .ok (.iadd, 1) := by decide +kernel
theorem dX5_stoveOf_23 : decode cX5_stoveOf 23 = .ok (.iaload, 1) := by decide +kernel
theorem dX5_stoveOf_24 : decode cX5_stoveOf 24 = .ok (.goto 22, 3) := by decide +kernel
theorem dX5_stoveOf_27 : decode cX5_stoveOf 27 = .ok (.aload_n 0, 1) := by decide +kernel
theorem dX5_stoveOf_28 : decode cX5_stoveOf 28 = .ok (.iload_n 1, 1) := by decide +kernel
theorem dX5_stoveOf_29 : decode cX5_stoveOf 29 = .ok (.invokevirtual 101, 3) := by decide +kernel
theorem dX5_stoveOf_32 : decode cX5_stoveOf 32 = .ok (.ifCond .ge 9, 3) := by decide +kernel
theorem dX5_stoveOf_35 : decode cX5_stoveOf 35 = .ok (.sipush (-1015), 3) := by decide +kernel
theorem dX5_stoveOf_38 : decode cX5_stoveOf 38 = .ok (.goto 8, 3) := by decide +kernel
theorem dX5_stoveOf_41 : decode cX5_stoveOf 41 = .ok (.aload_n 0, 1) := by decide +kernel
theorem dX5_stoveOf_42 : decode cX5_stoveOf 42 = .ok (.iload_n 1, 1) := by decide +kernel
theorem dX5_stoveOf_43 : decode cX5_stoveOf 43 = .ok (.invokevirtual 101, 3) := by decide +kernel
theorem dX5_stoveOf_46 : decode cX5_stoveOf 46 = .ok (.ireturn, 1) := by decide +kernel
theorem dX5_whistling_0 : decode cX5_whistling 0 = .ok (.iconst 0, 1) := by decide +kernel
theorem dX5_whistling_1 : decode cX5_whistling 1 = .ok (.istore_n 1, 1) := by decide +kernel
theorem dX5_whistling_2 : decode cX5_whistling 2 = .ok (.iconst 0, 1) := by decide +kernel
theorem dX5_whistling_3 : decode cX5_whistling 3 = .ok (.istore_n 2, 1) := by decide +kernel
theorem dX5_whistling_4 : decode cX5_whistling 4 = .ok (.iload_n 2, 1) := by decide +kernel
theorem dX5_whistling_5 : decode cX5_whistling 5 = .ok (.aload_n 0, 1) := by decide +kernel
theorem dX5_whistling_6 : decode cX5_whistling 6 = .ok (.getfield 9, 3) := by decide +kernel
theorem dX5_whistling_9 : decode cX5_whistling 9 = .ok (.iconst 1, 1) := by decide +kernel
theorem dX5_whistling_10 : decode cX5_whistling 10 = .ok (.iaload, 1) := by decide +kernel
theorem dX5_whistling_11 : decode cX5_whistling 11 = .ok (.if_icmp .ge 27, 3) := by decide +kernel
theorem dX5_whistling_14 : decode cX5_whistling 14 = .ok (.iload_n 1, 1) := by decide +kernel
theorem dX5_whistling_15 : decode cX5_whistling 15 = .ok (.aload_n 0, 1) := by decide +kernel
theorem dX5_whistling_16 : decode cX5_whistling 16 = .ok (.iload_n 2, 1) := by decide +kernel
theorem dX5_whistling_17 : decode cX5_whistling 17 = .ok (.invokevirtual 135, 3) := by decide +kernel
theorem dX5_whistling_20 : decode cX5_whistling 20 = .ok (.ifCond .eq 9, 3) := by decide +kernel
theorem dX5_whistling_23 : decode cX5_whistling 23 = .ok (.iconst 1, 1) := by decide +kernel
theorem dX5_whistling_24 : decode cX5_whistling 24 = .ok (.iload_n 2, 1) := by decide +kernel
theorem dX5_whistling_25 : decode cX5_whistling 25 = .ok (.ishl, 1) := by decide +kernel
theorem dX5_whistling_26 : decode cX5_whistling 26 = .ok (.goto 4, 3) := by decide +kernel
theorem dX5_whistling_29 : decode cX5_whistling 29 = .ok (.iconst 0, 1) := by decide +kernel
theorem dX5_whistling_30 : decode cX5_whistling 30 = .ok (.ior, 1) := by decide +kernel
theorem dX5_whistling_31 : decode cX5_whistling 31 = .ok (.istore_n 1, 1) := by decide +kernel
theorem dX5_whistling_32 : decode cX5_whistling 32 = .ok (.iinc 2 1, 3) := by decide +kernel
theorem dX5_whistling_35 : decode cX5_whistling 35 = .ok (.goto (-31), 3) := by decide +kernel
theorem dX5_whistling_38 : decode cX5_whistling 38 = .ok (.iload_n 1, 1) := by decide +kernel
theorem dX5_whistling_39 : decode cX5_whistling 39 = .ok (.ireturn, 1) := by decide +kernel
theorem dX5_harmony_0 : decode cX5_harmony 0 = .ok (.iconst 0, 1) := by decide +kernel
theorem dX5_harmony_1 : decode cX5_harmony 1 = .ok (.istore_n 1, 1) := by decide +kernel
theorem dX5_harmony_2 : decode cX5_harmony 2 = .ok (.iconst 0, 1) := by decide +kernel
theorem dX5_harmony_3 : decode cX5_harmony 3 = .ok (.istore_n 2, 1) := by decide +kernel
theorem dX5_harmony_4 : decode cX5_harmony 4 = .ok (.iload_n 2, 1) := by decide +kernel
theorem dX5_harmony_5 : decode cX5_harmony 5 = .ok (.aload_n 0, 1) := by decide +kernel
theorem dX5_harmony_6 : decode cX5_harmony 6 = .ok (.getfield 9, 3) := by decide +kernel
theorem dX5_harmony_9 : decode cX5_harmony 9 = .ok (.iconst 1, 1) := by decide +kernel
theorem dX5_harmony_10 : decode cX5_harmony 10 = .ok (.iaload, 1) := by decide +kernel
theorem dX5_harmony_11 : decode cX5_harmony 11 = .ok (.if_icmp .ge 60, 3) := by decide +kernel
theorem dX5_harmony_14 : decode cX5_harmony 14 = .ok (.iconst 0, 1) := by decide +kernel
theorem dX5_harmony_15 : decode cX5_harmony 15 = .ok (.istore_n 3, 1) := by decide +kernel
theorem dX5_harmony_16 : decode cX5_harmony 16 = .ok (.iload_n 3, 1) := by decide +kernel
theorem dX5_harmony_17 : decode cX5_harmony 17 = .ok (.iload_n 2, 1) := by decide +kernel
theorem dX5_harmony_18 : decode cX5_harmony 18 = .ok (.if_icmp .ge 47, 3) := by decide +kernel
theorem dX5_harmony_21 : decode cX5_harmony 21 = .ok (.iload_n 1, 1) := by decide +kernel
theorem dX5_harmony_22 : decode cX5_harmony 22 = .ok (.aload_n 0, 1) := by decide +kernel
theorem dX5_harmony_23 : decode cX5_harmony 23 = .ok (.iload_n 2, 1) := by decide +kernel
theorem dX5_harmony_24 : decode cX5_harmony 24 = .ok (.invokevirtual 135, 3) := by decide +kernel
theorem dX5_harmony_27 : decode cX5_harmony 27 = .ok (.ifCond .eq 29, 3) := by decide +kernel
theorem dX5_harmony_30 : decode cX5_harmony 30 = .ok (.aload_n 0, 1) := by decide +kernel
theorem dX5_harmony_31 : decode cX5_harmony 31 = .ok (.iload_n 3, 1) := by decide +kernel
theorem dX5_harmony_32 : decode cX5_harmony 32 = .ok (.invokevirtual 135, 3) := by decide +kernel
theorem dX5_harmony_35 : decode cX5_harmony 35 = .ok (.ifCond .eq 21, 3) := by decide +kernel
theorem dX5_harmony_38 : decode cX5_harmony 38 = .ok (.aload_n 0, 1) := by decide +kernel
theorem dX5_harmony_39 : decode cX5_harmony 39 = .ok (.iload_n 2, 1) := by decide +kernel
theorem dX5_harmony_40 : decode cX5_harmony 40 = .ok (.iconst 1, 1) := by decide +kernel
theorem dX5_harmony_41 : decode cX5_harmony 41 = .ok (.invokevirtual 48, 3) := by decide +kernel
theorem dX5_harmony_44 : decode cX5_harmony 44 = .ok (.aload_n 0, 1) := by decide +kernel
theorem dX5_harmony_45 : decode cX5_harmony 45 = .ok (.iload_n 3, 1) := by decide +kernel
theorem dX5_harmony_46 : decode cX5_harmony 46 = .ok (.iconst 1, 1) := by decide +kernel
theorem dX5_harmony_47 : decode cX5_harmony 47 = .ok (.invokevirtual 48, 3) := by decide +kernel
theorem dX5_harmony_50 : decode cX5_harmony 50 = .ok (.invokestatic 138, 3) := by decide +kernel
theorem dX5_harmony_53 : decode cX5_harmony 53 = .ok (.goto 4, 3) := by decide +kernel
theorem dX5_harmony_56 : decode cX5_harmony 56 = .ok (.iconst 0, 1) := by decide +kernel
theorem dX5_harmony_57 : decode cX5_harmony 57 = .ok (.iadd, 1) := by decide +kernel
theorem dX5_harmony_58 : decode cX5_harmony 58 = .ok (.istore_n 1, 1) := by decide +kernel
theorem dX5_harmony_59 : decode cX5_harmony 59 = .ok (.iinc 3 1, 3) := by decide +kernel
theorem dX5_harmony_62 : decode cX5_harmony 62 = .ok (.goto (-46), 3) := by decide +kernel
theorem dX5_harmony_65 : decode cX5_harmony 65 = .ok (.iinc 2 1, 3) := by decide +kernel
theorem dX5_harmony_68 : decode cX5_harmony 68 = .ok (.goto (-64), 3) := by decide +kernel
theorem dX5_harmony_71 : decode cX5_harmony 71 = .ok (.iload_n 1, 1) := by decide +kernel
theorem dX5_harmony_72 : decode cX5_harmony 72 = .ok (.ireturn, 1) := by decide +kernel
theorem dX5_harmonyAgain_0 : decode cX5_harmonyAgain 0 = .ok (.aload_n 0, 1) := by decide +kernel
theorem dX5_harmonyAgain_1 : decode cX5_harmonyAgain 1 = .ok (.invokevirtual 153, 3) := by decide +kernel
theorem dX5_harmonyAgain_4 : decode cX5_harmonyAgain 4 = .ok (.ireturn, 1) := by decide +kernel
theorem dX5_minutesTo_0 : decode cX5_minutesTo 0 = .ok (.iconst 5, 1) := by decide +kernel
theorem dX5_minutesTo_1 : decode cX5_minutesTo 1 = .ok (.aload_n 0, 1) := by decide +kernel
theorem dX5_minutesTo_2 : decode cX5_minutesTo 2 = .ok (.iload_n 1, 1) := by decide +kernel
theorem dX5_minutesTo_3 : decode cX5_minutesTo 3 = .ok (.invokevirtual 56, 3) := by decide +kernel
theorem dX5_minutesTo_6 : decode cX5_minutesTo 6 = .ok (.imul, 1) := by decide +kernel
theorem dX5_minutesTo_7 : decode cX5_minutesTo 7 = .ok (.istore_n 2, 1) := by decide +kernel
theorem dX5_minutesTo_8 : decode cX5_minutesTo 8 = .ok (.iload_n 2, 1) := by decide +kernel
theorem dX5_minutesTo_9 : decode cX5_minutesTo 9 = .ok (.ifCond .ne 9, 3) := by decide +kernel
theorem dX5_minutesTo_12 : decode cX5_minutesTo 12 = .ok (.sipush (-1015), 3) := by decide +kernel
theorem dX5_minutesTo_15 : decode cX5_minutesTo 15 = .ok (.goto 18, 3) := by decide +kernel
theorem dX5_minutesTo_18 : decode cX5_minutesTo 18 = .ok (.bipush 100, 2) := by decide +kernel
theorem dX5_minutesTo_20 : decode cX5_minutesTo 20 = .ok (.aload_n 0, 1) := by decide +kernel
theorem dX5_minutesTo_21 : decode cX5_minutesTo 21 = .ok (.iload_n 1, 1) := by decide +kernel
theorem dX5_minutesTo_22 : decode cX5_minutesTo 22 = .ok (.iconst 3, 1) := by decide +kernel
theorem dX5_minutesTo_23 : decode cX5_minutesTo 23 = .ok (.invokevirtual 48, 3) := by decide +kernel
theorem dX5_minutesTo_26 : decode cX5_minutesTo 26 = .ok (.isub, 1) := by decide +kernel
theorem dX5_minutesTo_27 : decode cX5_minutesTo 27 = .ok (.iload_n 2, 1) := by decide +kernel
theorem dX5_minutesTo_28 : decode cX5_minutesTo 28 = .ok (.iadd, 1) := by decide +kernel
theorem dX5_minutesTo_29 : decode cX5_minutesTo 29 = .ok (.iconst 1, 1) := by decide +kernel
theorem dX5_minutesTo_30 : decode cX5_minutesTo 30 = .ok (.isub, 1) := by decide +kernel
theorem dX5_minutesTo_31 : decode cX5_minutesTo 31 = .ok (.iload_n 2, 1) := by decide +kernel
theorem dX5_minutesTo_32 : decode cX5_minutesTo 32 = .ok (.idiv, 1) := by decide +kernel
theorem dX5_minutesTo_33 : decode cX5_minutesTo 33 = .ok (.ireturn, 1) := by decide +kernel
theorem dX5_boilsIn_0 : decode cX5_boilsIn 0 = .ok (.aload_n 0, 1) := by decide +kernel
theorem dX5_boilsIn_1 : decode cX5_boilsIn 1 = .ok (.iload_n 1, 1) := by decide +kernel
theorem dX5_boilsIn_2 : decode cX5_boilsIn 2 = .ok (.invokevirtual 92, 3) := by decide +kernel
theorem dX5_boilsIn_5 : decode cX5_boilsIn 5 = .ok (.ifCond .eq 11, 3) := by decide +kernel
theorem dX5_boilsIn_8 : decode cX5_boilsIn 8 = .ok (.aload_n 0, 1) := by decide +kernel
theorem dX5_boilsIn_9 : decode cX5_boilsIn 9 = .ok (.iload_n 1, 1) := by decide +kernel
theorem dX5_boilsIn_10 : decode cX5_boilsIn 10 = .ok (.invokevirtual 156, 3) := by decide +kernel
theorem dX5_boilsIn_13 : decode cX5_boilsIn 13 = .ok (.goto 6, 3) := by decide +kernel
theorem dX5_boilsIn_16 : decode cX5_boilsIn 16 = .ok (.sipush (-1011), 3) := by decide +kernel
theorem dX5_boilsIn_19 : decode cX5_boilsIn 19 = .ok (.ireturn, 1) := by decide +kernel
theorem dX5_boilsInAgain_0 : decode cX5_boilsInAgain 0 = .ok (.aload_n 0, 1) := by decide +kernel
theorem dX5_boilsInAgain_1 : decode cX5_boilsInAgain 1 = .ok (.iload_n 1, 1) := by decide +kernel
theorem dX5_boilsInAgain_2 : decode cX5_boilsInAgain 2 = .ok (.invokevirtual 159, 3) := by decide +kernel
theorem dX5_boilsInAgain_5 : decode cX5_boilsInAgain 5 = .ok (.ireturn, 1) := by decide +kernel
theorem dX5_dryIn_0 : decode cX5_dryIn 0 = .ok (.aload_n 0, 1) := by decide +kernel
theorem dX5_dryIn_1 : decode cX5_dryIn 1 = .ok (.iload_n 1, 1) := by decide +kernel
theorem dX5_dryIn_2 : decode cX5_dryIn 2 = .ok (.invokevirtual 92, 3) := by decide +kernel
theorem dX5_dryIn_5 : decode cX5_dryIn 5 = .ok (.ifCond .ne 7, 3) := by decide +kernel
theorem dX5_dryIn_8 : decode cX5_dryIn 8 = .ok (.sipush (-1011), 3) := by decide +kernel
theorem dX5_dryIn_11 : decode cX5_dryIn 11 = .ok (.ireturn, 1) := by decide +kernel
theorem dX5_dryIn_12 : decode cX5_dryIn 12 = .ok (.aload_n 0, 1) := by decide +kernel
theorem dX5_dryIn_13 : decode cX5_dryIn 13 = .ok (.iload_n 1, 1) := by decide +kernel
theorem dX5_dryIn_14 : decode cX5_dryIn 14 = .ok (.iconst 2, 1) := by decide +kernel
theorem dX5_dryIn_15 : decode cX5_dryIn 15 = .ok (.invokevirtual 48, 3) := by decide +kernel
theorem dX5_dryIn_18 : decode cX5_dryIn 18 = .ok (.istore_n 2, 1) := by decide +kernel
theorem dX5_dryIn_19 : decode cX5_dryIn 19 = .ok (.aload_n 0, 1) := by decide +kernel
theorem dX5_dryIn_20 : decode cX5_dryIn 20 = .ok (.iload_n 1, 1) := by decide +kernel
theorem dX5_dryIn_21 : decode cX5_dryIn 21 = .ok (.invokevirtual 156, 3) := by decide +kernel
theorem dX5_dryIn_24 : decode cX5_dryIn 24 = .ok (.sipush (-1015), 3) := by decide +kernel
theorem dX5_dryIn_27 : decode cX5_dryIn 27 = .ok (.if_icmp .ne 9, 3) := by decide +kernel
theorem dX5_dryIn_30 : decode cX5_dryIn 30 = .ok (.sipush (-1015), 3) := by decide +kernel
theorem dX5_dryIn_33 : decode cX5_dryIn 33 = .ok (.goto 18, 3) := by decide +kernel
theorem dX5_dryIn_36 : decode cX5_dryIn 36 = .ok (.aload_n 0, 1) := by decide +kernel
theorem dX5_dryIn_37 : decode cX5_dryIn 37 = .ok (.iload_n 1, 1) := by decide +kernel
theorem dX5_dryIn_38 : decode cX5_dryIn 38 = .ok (.invokevirtual 156, 3) := by decide +kernel
theorem dX5_dryIn_41 : decode cX5_dryIn 41 = .ok (.iload_n 2, 1) := by decide +kernel
theorem dX5_dryIn_42 : decode cX5_dryIn 42 = .ok (.ifCond .ne 7, 3) := by decide +kernel
theorem dX5_dryIn_45 : decode cX5_dryIn 45 = .ok (.iconst 1, 1) := by decide +kernel
theorem dX5_dryIn_46 : decode cX5_dryIn 46 = .ok (.goto 4, 3) := by decide +kernel
theorem dX5_dryIn_49 : decode cX5_dryIn 49 = .ok (.iload_n 2, 1) := by decide +kernel
theorem dX5_dryIn_50 : decode cX5_dryIn 50 = .ok (.iadd, 1) := by decide +kernel
theorem dX5_dryIn_51 : decode cX5_dryIn 51 = .ok (.ireturn, 1) := by decide +kernel
theorem dX5_fits_0 : decode cX5_fits 0 = .ok (.iconst 0, 1) := by decide +kernel
theorem dX5_fits_1 : decode cX5_fits 1 = .ok (.istore_n 2, 1) := by decide +kernel
theorem dX5_fits_2 : decode cX5_fits 2 = .ok (.iconst 0, 1) := by decide +kernel
theorem dX5_fits_3 : decode cX5_fits 3 = .ok (.istore_n 3, 1) := by decide +kernel
theorem dX5_fits_4 : decode cX5_fits 4 = .ok (.iload_n 3, 1) := by decide +kernel
theorem dX5_fits_5 : decode cX5_fits 5 = .ok (.aload_n 0, 1) := by decide +kernel
theorem dX5_fits_6 : decode cX5_fits 6 = .ok (.getfield 9, 3) := by decide +kernel
theorem dX5_fits_9 : decode cX5_fits 9 = .ok (.iconst 1, 1) := by decide +kernel
theorem dX5_fits_10 : decode cX5_fits 10 = .ok (.iaload, 1) := by decide +kernel
theorem dX5_fits_11 : decode cX5_fits 11 = .ok (.if_icmp .ge 49, 3) := by decide +kernel
theorem dX5_fits_14 : decode cX5_fits 14 = .ok (.iload_n 2, 1) := by decide +kernel
theorem dX5_fits_15 : decode cX5_fits 15 = .ok (.aload_n 0, 1) := by decide +kernel
theorem dX5_fits_16 : decode cX5_fits 16 = .ok (.iload_n 3, 1) := by decide +kernel
theorem dX5_fits_17 : decode cX5_fits 17 = .ok (.invokevirtual 135, 3) := by decide +kernel
theorem dX5_fits_20 : decode cX5_fits 20 = .ok (.ifCond .ne 7, 3) := by decide +kernel
theorem dX5_fits_23 : decode cX5_fits 23 = .ok (.iconst 0, 1) := by decide +kernel
theorem dX5_fits_24 : decode cX5_fits 24 = .ok (.goto 28, 3) := by decide +kernel
theorem dX5_fits_27 : decode cX5_fits 27 = .ok (.aload_n 0, 1) := by decide +kernel
theorem dX5_fits_28 : decode cX5_fits 28 = .ok (.iload_n 3, 1) := by decide +kernel
theorem dX5_fits_29 : decode cX5_fits 29 = .ok (.iconst 1, 1) := by decide +kernel
theorem dX5_fits_30 : decode cX5_fits 30 = .ok (.invokevirtual 48, 3) := by decide +kernel
theorem dX5_fits_33 : decode cX5_fits 33 = .ok (.iload_n 1, 1) := by decide +kernel
theorem dX5_fits_34 : decode cX5_fits 34 = .ok (.if_icmp .ne 8, 3) := by decide +kernel
theorem dX5_fits_37 : decode cX5_fits 37 = .ok (.bipush (-100), 2) := by decide +kernel
theorem dX5_fits_39 : decode cX5_fits 39 = .ok (.goto 13, 3) := by decide +kernel
theorem dX5_fits_42 : decode cX5_fits 42 = .ok (.iload_n 1, 1) := by decide +kernel
theorem dX5_fits_43 : decode cX5_fits 43 = .ok (.aload_n 0, 1) := by decide +kernel
theorem dX5_fits_44 : decode cX5_fits 44 = .ok (.iload_n 3, 1) := by decide +kernel
theorem dX5_fits_45 : decode cX5_fits 45 = .ok (.iconst 1, 1) := by decide +kernel
theorem dX5_fits_46 : decode cX5_fits 46 = .ok (.invokevirtual 48, 3) := by decide +kernel
theorem dX5_fits_49 : decode cX5_fits 49 = .ok (.invokestatic 138, 3) := by decide +kernel
theorem dX5_fits_52 : decode cX5_fits 52 = .ok (.iadd, 1) := by decide +kernel
theorem dX5_fits_53 : decode cX5_fits 53 = .ok (.istore_n 2, 1) := by decide +kernel
theorem dX5_fits_54 : decode cX5_fits 54 = .ok (.iinc 3 1, 3) := by decide +kernel
theorem dX5_fits_57 : decode cX5_fits 57 = .ok (.goto (-53), 3) := by decide +kernel
theorem dX5_fits_60 : decode cX5_fits 60 = .ok (.iload_n 2, 1) := by decide +kernel
theorem dX5_fits_61 : decode cX5_fits 61 = .ok (.ireturn, 1) := by decide +kernel
theorem dX5_bestPitch_0 : decode cX5_bestPitch 0 = .ok (.iconst 1, 1) := by decide +kernel
theorem dX5_bestPitch_1 : decode cX5_bestPitch 1 = .ok (.istore_n 1, 1) := by decide +kernel
theorem dX5_bestPitch_2 : decode cX5_bestPitch 2 = .ok (.iconst 2, 1) := by decide +kernel
theorem dX5_bestPitch_3 : decode cX5_bestPitch 3 = .ok (.istore_n 2, 1) := by decide +kernel
theorem dX5_bestPitch_4 : decode cX5_bestPitch 4 = .ok (.iload_n 2, 1) := by decide +kernel
theorem dX5_bestPitch_5 : decode cX5_bestPitch 5 = .ok (.bipush 13, 2) := by decide +kernel
theorem dX5_bestPitch_7 : decode cX5_bestPitch 7 = .ok (.if_icmp .ge 28, 3) := by decide +kernel
theorem dX5_bestPitch_10 : decode cX5_bestPitch 10 = .ok (.aload_n 0, 1) := by decide +kernel
theorem dX5_bestPitch_11 : decode cX5_bestPitch 11 = .ok (.iload_n 2, 1) := by decide +kernel
theorem dX5_bestPitch_12 : decode cX5_bestPitch 12 = .ok (.invokevirtual 162, 3) := by decide +kernel
theorem dX5_bestPitch_15 : decode cX5_bestPitch 15 = .ok (.aload_n 0, 1) := by decide +kernel
theorem dX5_bestPitch_16 : decode cX5_bestPitch 16 = .ok (.iload_n 1, 1) := by decide +kernel
theorem dX5_bestPitch_17 : decode cX5_bestPitch 17 = .ok (.invokevirtual 162, 3) := by decide +kernel
theorem dX5_bestPitch_20 : decode cX5_bestPitch 20 = .ok (.if_icmp .le 7, 3) := by decide +kernel
theorem dX5_bestPitch_23 : decode cX5_bestPitch 23 = .ok (.iload_n 2, 1) := by decide +kernel
theorem dX5_bestPitch_24 : decode cX5_bestPitch 24 = .ok (.goto 4, 3) := by decide +kernel
theorem dX5_bestPitch_27 : decode cX5_bestPitch 27 = .ok (.iload_n 1, 1) := by decide +kernel
theorem dX5_bestPitch_28 : decode cX5_bestPitch 28 = .ok (.istore_n 1, 1) := by decide +kernel
theorem dX5_bestPitch_29 : decode cX5_bestPitch 29 = .ok (.iinc 2 1, 3) := by decide +kernel
theorem dX5_bestPitch_32 : decode cX5_bestPitch 32 = .ok (.goto (-28), 3) := by decide +kernel
theorem dX5_bestPitch_35 : decode cX5_bestPitch 35 = .ok (.iload_n 1, 1) := by decide +kernel
theorem dX5_bestPitch_36 : decode cX5_bestPitch 36 = .ok (.ireturn, 1) := by decide +kernel
theorem dX5_kettlesOf_0 : decode cX5_kettlesOf 0 = .ok (.iconst 0, 1) := by decide +kernel
theorem dX5_kettlesOf_1 : decode cX5_kettlesOf 1 = .ok (.istore_n 3, 1) := by decide +kernel
theorem dX5_kettlesOf_2 : decode cX5_kettlesOf 2 = .ok (.iconst 0, 1) := by decide +kernel
theorem dX5_kettlesOf_3 : decode cX5_kettlesOf 3 = .ok (.istore 4, 2) := by decide +kernel
theorem dX5_kettlesOf_5 : decode cX5_kettlesOf 5 = .ok (.iload 4, 2) := by decide +kernel
theorem dX5_kettlesOf_7 : decode cX5_kettlesOf 7 = .ok (.aload_n 0, 1) := by decide +kernel
theorem dX5_kettlesOf_8 : decode cX5_kettlesOf 8 = .ok (.getfield 9, 3) := by decide +kernel
theorem dX5_kettlesOf_11 : decode cX5_kettlesOf 11 = .ok (.iconst 1, 1) := by decide +kernel
theorem dX5_kettlesOf_12 : decode cX5_kettlesOf 12 = .ok (.iaload, 1) := by decide +kernel
theorem dX5_kettlesOf_13 : decode cX5_kettlesOf 13 = .ok (.if_icmp .ge 41, 3) := by decide +kernel
theorem dX5_kettlesOf_16 : decode cX5_kettlesOf 16 = .ok (.iload_n 3, 1) := by decide +kernel
theorem dX5_kettlesOf_17 : decode cX5_kettlesOf 17 = .ok (.aload_n 0, 1) := by decide +kernel
theorem dX5_kettlesOf_18 : decode cX5_kettlesOf 18 = .ok (.iload 4, 2) := by decide +kernel
theorem dX5_kettlesOf_20 : decode cX5_kettlesOf 20 = .ok (.iconst 0, 1) := by decide +kernel
theorem dX5_kettlesOf_21 : decode cX5_kettlesOf 21 = .ok (.invokevirtual 48, 3) := by decide +kernel
theorem dX5_kettlesOf_24 : decode cX5_kettlesOf 24 = .ok (.iload_n 1, 1) := by decide +kernel
theorem dX5_kettlesOf_25 : decode cX5_kettlesOf 25 = .ok (.if_icmp .ne 20, 3) := by decide +kernel
theorem dX5_kettlesOf_28 : decode cX5_kettlesOf 28 = .ok (.iload_n 2, 1) := by decide +kernel
theorem dX5_kettlesOf_29 : decode cX5_kettlesOf 29 = .ok (.ifCond .eq 12, 3) := by decide +kernel
theorem dX5_kettlesOf_32 : decode cX5_kettlesOf 32 = .ok (.aload_n 0, 1) := by decide +kernel
theorem dX5_kettlesOf_33 : decode cX5_kettlesOf 33 = .ok (.iload 4, 2) := by decide +kernel
theorem dX5_kettlesOf_35 : decode cX5_kettlesOf 35 = .ok (.invokevirtual 135, 3) := by decide +kernel
theorem dX5_kettlesOf_38 : decode cX5_kettlesOf 38 = .ok (.ifCond .eq 7, 3) := by decide +kernel
theorem dX5_kettlesOf_41 : decode cX5_kettlesOf 41 = .ok (.iconst 1, 1) := by decide +kernel
theorem dX5_kettlesOf_42 : decode cX5_kettlesOf 42 = .ok (.goto 4, 3) := by decide +kernel
theorem dX5_kettlesOf_45 : decode cX5_kettlesOf 45 = .ok (.iconst 0, 1) := by decide +kernel
theorem dX5_kettlesOf_46 : decode cX5_kettlesOf 46 = .ok (.iadd, 1) := by decide +kernel
theorem dX5_kettlesOf_47 : decode cX5_kettlesOf 47 = .ok (.istore_n 3, 1) := by decide +kernel
theorem dX5_kettlesOf_48 : decode cX5_kettlesOf 48 = .ok (.iinc 4 1, 3) := by decide +kernel
theorem dX5_kettlesOf_51 : decode cX5_kettlesOf 51 = .ok (.goto (-46), 3) := by decide +kernel
theorem dX5_kettlesOf_54 : decode cX5_kettlesOf 54 = .ok (.iload_n 3, 1) := by decide +kernel
theorem dX5_kettlesOf_55 : decode cX5_kettlesOf 55 = .ok (.ireturn, 1) := by decide +kernel
theorem dX5_memberOf_0 : decode cX5_memberOf 0 = .ok (.iload_n 1, 1) := by decide +kernel
theorem dX5_memberOf_1 : decode cX5_memberOf 1 = .ok (.invokestatic 62, 3) := by decide +kernel
theorem dX5_memberOf_4 : decode cX5_memberOf 4 = .ok (.ifCond .ne 7, 3) := by decide +kernel
theorem dX5_memberOf_7 : decode cX5_memberOf 7 = .ok (.sipush (-1011), 3) := by decide +kernel
theorem dX5_memberOf_10 : decode cX5_memberOf 10 = .ok (.ireturn, 1) := by decide +kernel
theorem dX5_memberOf_11 : decode cX5_memberOf 11 = .ok (.iload_n 2, 1) := by decide +kernel
theorem dX5_memberOf_12 : decode cX5_memberOf 12 = .ok (.tableswitch 81 0 5 #[40, 47, 53, 60, 67, 74], 40) := by decide +kernel
theorem dX5_memberOf_52 : decode cX5_memberOf 52 = .ok (.aload_n 0, 1) := by decide +kernel
theorem dX5_memberOf_53 : decode cX5_memberOf 53 = .ok (.iload_n 1, 1) := by decide +kernel
theorem dX5_memberOf_54 : decode cX5_memberOf 54 = .ok (.iconst 0, 1) := by decide +kernel
theorem dX5_memberOf_55 : decode cX5_memberOf 55 = .ok (.invokevirtual 165, 3) := by decide +kernel
theorem dX5_memberOf_58 : decode cX5_memberOf 58 = .ok (.ireturn, 1) := by decide +kernel
theorem dX5_memberOf_59 : decode cX5_memberOf 59 = .ok (.aload_n 0, 1) := by decide +kernel
theorem dX5_memberOf_60 : decode cX5_memberOf 60 = .ok (.iload_n 1, 1) := by decide +kernel
theorem dX5_memberOf_61 : decode cX5_memberOf 61 = .ok (.invokevirtual 72, 3) := by decide +kernel
theorem dX5_memberOf_64 : decode cX5_memberOf 64 = .ok (.ireturn, 1) := by decide +kernel
theorem dX5_memberOf_65 : decode cX5_memberOf 65 = .ok (.aload_n 0, 1) := by decide +kernel
theorem dX5_memberOf_66 : decode cX5_memberOf 66 = .ok (.iload_n 1, 1) := by decide +kernel
theorem dX5_memberOf_67 : decode cX5_memberOf 67 = .ok (.iconst 0, 1) := by decide +kernel
theorem dX5_memberOf_68 : decode cX5_memberOf 68 = .ok (.invokevirtual 168, 3) := by decide +kernel
theorem dX5_memberOf_71 : decode cX5_memberOf 71 = .ok (.ireturn, 1) := by decide +kernel
theorem dX5_memberOf_72 : decode cX5_memberOf 72 = .ok (.aload_n 0, 1) := by decide +kernel
theorem dX5_memberOf_73 : decode cX5_memberOf 73 = .ok (.iload_n 1, 1) := by decide +kernel
theorem dX5_memberOf_74 : decode cX5_memberOf 74 = .ok (.iconst 1, 1) := by decide +kernel
theorem dX5_memberOf_75 : decode cX5_memberOf 75 = .ok (.invokevirtual 168, 3) := by decide +kernel
theorem dX5_memberOf_78 : decode cX5_memberOf 78 = .ok (.ireturn, 1) := by decide +kernel
theorem dX5_memberOf_79 : decode cX5_memberOf 79 = .ok (.aload_n 0, 1) := by decide +kernel
theorem dX5_memberOf_80 : decode cX5_memberOf 80 = .ok (.iload_n 1, 1) := by decide +kernel
theorem dX5_memberOf_81 : decode cX5_memberOf 81 = .ok (.iconst 1, 1) := by decide +kernel
theorem dX5_memberOf_82 : decode cX5_memberOf 82 = .ok (.invokevirtual 165, 3) := by decide +kernel
theorem dX5_memberOf_85 : decode cX5_memberOf 85 = .ok (.ireturn, 1) := by decide +kernel
theorem dX5_memberOf_86 : decode cX5_memberOf 86 = .ok (.aload_n 0, 1) := by decide +kernel
theorem dX5_memberOf_87 : decode cX5_memberOf 87 = .ok (.iload_n 1, 1) := by decide +kernel
theorem dX5_memberOf_88 : decode cX5_memberOf 88 = .ok (.iconst 2, 1) := by decide +kernel
theorem dX5_memberOf_89 : decode cX5_memberOf 89 = .ok (.invokevirtual 165, 3) := by decide +kernel
theorem dX5_memberOf_92 : decode cX5_memberOf 92 = .ok (.ireturn, 1) := by decide +kernel
theorem dX5_memberOf_93 : decode cX5_memberOf 93 = .ok (.sipush (-1012), 3) := by decide +kernel
theorem dX5_memberOf_96 : decode cX5_memberOf 96 = .ok (.ireturn, 1) := by decide +kernel
theorem dX5_ranked_0 : decode cX5_ranked 0 = .ok (.iconst 0, 1) := by decide +kernel
theorem dX5_ranked_1 : decode cX5_ranked 1 = .ok (.istore_n 2, 1) := by decide +kernel
theorem dX5_ranked_2 : decode cX5_ranked 2 = .ok (.iload_n 2, 1) := by decide +kernel
theorem dX5_ranked_3 : decode cX5_ranked 3 = .ok (.iconst 4, 1) := by decide +kernel
theorem dX5_ranked_4 : decode cX5_ranked 4 = .ok (.if_icmp .ge 97, 3) := by decide +kernel
theorem dX5_ranked_7 : decode cX5_ranked 7 = .ok (.iconst 0, 1) := by decide +kernel
theorem dX5_ranked_8 : decode cX5_ranked 8 = .ok (.istore_n 3, 1) := by decide +kernel
theorem dX5_ranked_9 : decode cX5_ranked 9 = .ok (.iconst 0, 1) := by decide +kernel
theorem dX5_ranked_10 : decode cX5_ranked 10 = .ok (.istore 4, 2) := by decide +kernel
theorem dX5_ranked_12 : decode cX5_ranked 12 = .ok (.iload 4, 2) := by decide +kernel
theorem dX5_ranked_14 : decode cX5_ranked 14 = .ok (.iconst 4, 1) := by decide +kernel
theorem dX5_ranked_15 : decode cX5_ranked 15 = .ok (.if_icmp .ge 73, 3) := by decide +kernel
theorem dX5_ranked_18 : decode cX5_ranked 18 = .ok (.aload_n 0, 1) := by decide +kernel
theorem dX5_ranked_19 : decode cX5_ranked 19 = .ok (.iload 4, 2) := by decide +kernel
theorem dX5_ranked_21 : decode cX5_ranked 21 = .ok (.iconst 0, 1) := by decide +kernel
theorem dX5_ranked_22 : decode cX5_ranked 22 = .ok (.invokevirtual 165, 3) := by decide +kernel
theorem dX5_ranked_25 : decode cX5_ranked 25 = .ok (.aload_n 0, 1) := by decide +kernel
theorem dX5_ranked_26 : decode cX5_ranked 26 = .ok (.iload_n 2, 1) := by decide +kernel
theorem dX5_ranked_27 : decode cX5_ranked 27 = .ok (.iconst 0, 1) := by decide +kernel
theorem dX5_ranked_28 : decode cX5_ranked 28 = .ok (.invokevirtual 165, 3) := by decide +kernel
theorem dX5_ranked_31 : decode cX5_ranked 31 = .ok (.isub, 1) := by decide +kernel
theorem dX5_ranked_32 : decode cX5_ranked 32 = .ok (.istore 5, 2) := by decide +kernel
theorem dX5_ranked_34 : decode cX5_ranked 34 = .ok (.aload_n 0, 1) := by decide +kernel
theorem dX5_ranked_35 : decode cX5_ranked 35 = .ok (.iload 4, 2) := by decide +kernel
theorem dX5_ranked_37 : decode cX5_ranked 37 = .ok (.invokevirtual 72, 3) := by decide +kernel
theorem dX5_ranked_40 : decode cX5_ranked 40 = .ok (.aload_n 0, 1) := by decide +kernel
theorem dX5_ranked_41 : decode cX5_ranked 41 = .ok (.iload_n 2, 1) := by decide +kernel
theorem dX5_ranked_42 : decode cX5_ranked 42 = .ok (.invokevirtual 72, 3) := by decide +kernel
theorem dX5_ranked_45 : decode cX5_ranked 45 = .ok (.isub, 1) := by decide +kernel
theorem dX5_ranked_46 : decode cX5_ranked 46 = .ok (.istore 6, 2) := by decide +kernel
theorem dX5_ranked_48 : decode cX5_ranked 48 = .ok (.iload_n 3, 1) := by decide +kernel
theorem dX5_ranked_49 : decode cX5_ranked 49 = .ok (.iload 5, 2) := by decide +kernel
theorem dX5_ranked_51 : decode cX5_ranked 51 = .ok (.ifCond .gt 24, 3) := by decide +kernel
theorem dX5_ranked_54 : decode cX5_ranked 54 = .ok (.iload 5, 2) := by decide +kernel
theorem dX5_ranked_56 : decode cX5_ranked 56 = .ok (.ifCond .ne 23, 3) := by decide +kernel
theorem dX5_ranked_59 : decode cX5_ranked 59 = .ok (.iload 6, 2) := by decide +kernel
theorem dX5_ranked_61 : decode cX5_ranked 61 = .ok (.ifCond .gt 14, 3) := by decide +kernel
theorem dX5_ranked_64 : decode cX5_ranked 64 = .ok (.iload 6, 2) := by decide +kernel
theorem dX5_ranked_66 : decode cX5_ranked 66 = .ok (.ifCond .ne 13, 3) := by decide +kernel
theorem dX5_ranked_69 : decode cX5_ranked 69 = .ok (.iload 4, 2) := by decide +kernel
theorem dX5_ranked_71 : decode cX5_ranked 71 = .ok (.iload_n 2, 1) := by decide +kernel
theorem dX5_ranked_72 : decode cX5_ranked 72 = .ok (.if_icmp .ge 7, 3) := by decide +kernel
theorem dX5_ranked_75 : decode cX5_ranked 75 = .ok (.iconst 1, 1) := by decide +kernel
theorem dX5_ranked_76 : decode cX5_ranked 76 = .ok (.goto 4, 3) := by decide +kernel
theorem dX5_ranked_79 : decode cX5_ranked 79 = .ok (.iconst 0, 1) := by decide +kernel
theorem dX5_ranked_80 : decode cX5_ranked 80 = .ok (.iadd, 1) := by decide +kernel
theorem dX5_ranked_81 : decode cX5_ranked 81 = .ok (.istore_n 3, 1) := by decide +kernel
theorem dX5_ranked_82 : decode cX5_ranked 82 = .ok (.iinc 4 1, 3) := by decide +kernel
theorem dX5_ranked_85 : decode cX5_ranked 85 = .ok (.goto (-73), 3) := by decide +kernel
theorem dX5_ranked_88 : decode cX5_ranked 88 = .ok (.iload_n 3, 1) := by decide +kernel
theorem dX5_ranked_89 : decode cX5_ranked 89 = .ok (.iload_n 1, 1) := by decide +kernel
theorem dX5_ranked_90 : decode cX5_ranked 90 = .ok (.if_icmp .ne 5, 3) := by decide +kernel
theorem dX5_ranked_93 : decode cX5_ranked 93 = .ok (.iload_n 2, 1) := by decide +kernel
theorem dX5_ranked_94 : decode cX5_ranked 94 = .ok (.ireturn, 1) := by decide +kernel
theorem dX5_ranked_95 : decode cX5_ranked 95 = .ok (.iinc 2 1, 3) := by decide +kernel
theorem dX5_ranked_98 : decode cX5_ranked 98 = .ok (.goto (-96), 3) := by decide +kernel
theorem dX5_ranked_101 : decode cX5_ranked 101 = .ok (.sipush (-1011), 3) := by decide +kernel
theorem dX5_ranked_104 : decode cX5_ranked 104 = .ok (.ireturn, 1) := by decide +kernel
theorem dX5_hottest_0 : decode cX5_hottest 0 = .ok (.iconst 0, 1) := by decide +kernel
theorem dX5_hottest_1 : decode cX5_hottest 1 = .ok (.istore_n 2, 1) := by decide +kernel
theorem dX5_hottest_2 : decode cX5_hottest 2 = .ok (.iload_n 2, 1) := by decide +kernel
theorem dX5_hottest_3 : decode cX5_hottest 3 = .ok (.aload_n 0, 1) := by decide +kernel
theorem dX5_hottest_4 : decode cX5_hottest 4 = .ok (.getfield 9, 3) := by decide +kernel
theorem dX5_hottest_7 : decode cX5_hottest 7 = .ok (.iconst 1, 1) := by decide +kernel
theorem dX5_hottest_8 : decode cX5_hottest 8 = .ok (.iaload, 1) := by decide +kernel
theorem dX5_hottest_9 : decode cX5_hottest 9 = .ok (.if_icmp .ge 104, 3) := by decide +kernel
theorem dX5_hottest_12 : decode cX5_hottest 12 = .ok (.iconst 0, 1) := by decide +kernel
theorem dX5_hottest_13 : decode cX5_hottest 13 = .ok (.istore_n 3, 1) := by decide +kernel
theorem dX5_hottest_14 : decode cX5_hottest 14 = .ok (.iconst 0, 1) := by decide +kernel
theorem dX5_hottest_15 : decode cX5_hottest 15 = .ok (.istore 4, 2) := by decide +kernel
theorem dX5_hottest_17 : decode cX5_hottest 17 = .ok (.iload 4, 2) := by decide +kernel
theorem dX5_hottest_19 : decode cX5_hottest 19 = .ok (.aload_n 0, 1) := by decide +kernel
theorem dX5_hottest_20 : decode cX5_hottest 20 = .ok (.getfield 9, 3) := by decide +kernel
theorem dX5_hottest_23 : decode cX5_hottest 23 = .ok (.iconst 1, 1) := by decide +kernel
theorem dX5_hottest_24 : decode cX5_hottest 24 = .ok (.iaload, 1) := by decide +kernel
theorem dX5_hottest_25 : decode cX5_hottest 25 = .ok (.if_icmp .ge 75, 3) := by decide +kernel
theorem dX5_hottest_28 : decode cX5_hottest 28 = .ok (.aload_n 0, 1) := by decide +kernel
theorem dX5_hottest_29 : decode cX5_hottest 29 = .ok (.iload 4, 2) := by decide +kernel
theorem dX5_hottest_31 : decode cX5_hottest 31 = .ok (.iconst 3, 1) := by decide +kernel
theorem dX5_hottest_32 : decode cX5_hottest 32 = .ok (.invokevirtual 48, 3) := by decide +kernel
theorem dX5_hottest_35 : decode cX5_hottest 35 = .ok (.aload_n 0, 1) := by decide +kernel
theorem dX5_hottest_36 : decode cX5_hottest 36 = .ok (.iload_n 2, 1) := by decide +kernel
theorem dX5_hottest_37 : decode cX5_hottest 37 = .ok (.iconst 3, 1) := by decide +kernel
theorem dX5_hottest_38 : decode cX5_hottest 38 = .ok (.invokevirtual 48, 3) := by decide +kernel
theorem dX5_hottest_41 : decode cX5_hottest 41 = .ok (.isub, 1) := by decide +kernel
theorem dX5_hottest_42 : decode cX5_hottest 42 = .ok (.istore 5, 2) := by decide +kernel
theorem dX5_hottest_44 : decode cX5_hottest 44 = .ok (.aload_n 0, 1) := by decide +kernel
theorem dX5_hottest_45 : decode cX5_hottest 45 = .ok (.iload_n 2, 1) := by decide +kernel
theorem dX5_hottest_46 : decode cX5_hottest 46 = .ok (.iconst 2, 1) := by decide +kernel
theorem dX5_hottest_47 : decode cX5_hottest 47 = .ok (.invokevirtual 48, 3) := by decide +kernel
theorem dX5_hottest_50 : decode cX5_hottest 50 = .ok (.aload_n 0, 1) := by decide +kernel
theorem dX5_hottest_51 : decode cX5_hottest 51 = .ok (.iload 4, 2) := by decide +kernel
theorem dX5_hottest_53 : decode cX5_hottest 53 = .ok (.iconst 2, 1) := by decide +kernel
theorem dX5_hottest_54 : decode cX5_hottest 54 = .ok (.invokevirtual 48, 3) := by decide +kernel
theorem dX5_hottest_57 : decode cX5_hottest 57 = .ok (.isub, 1) := by decide +kernel
theorem dX5_hottest_58 : decode cX5_hottest 58 = .ok (.istore 6, 2) := by decide +kernel
theorem dX5_hottest_60 : decode cX5_hottest 60 = .ok (.iload_n 3, 1) := by decide +kernel
theorem dX5_hottest_61 : decode cX5_hottest 61 = .ok (.iload 5, 2) := by decide +kernel
theorem dX5_hottest_63 : decode cX5_hottest 63 = .ok (.ifCond .gt 24, 3) := by decide +kernel
theorem dX5_hottest_66 : decode cX5_hottest 66 = .ok (.iload 5, 2) := by decide +kernel
theorem dX5_hottest_68 : decode cX5_hottest 68 = .ok (.ifCond .ne 23, 3) := by decide +kernel
theorem dX5_hottest_71 : decode cX5_hottest 71 = .ok (.iload 6, 2) := by decide +kernel
theorem dX5_hottest_73 : decode cX5_hottest 73 = .ok (.ifCond .gt 14, 3) := by decide +kernel
theorem dX5_hottest_76 : decode cX5_hottest 76 = .ok (.iload 6, 2) := by decide +kernel
theorem dX5_hottest_78 : decode cX5_hottest 78 = .ok (.ifCond .ne 13, 3) := by decide +kernel
theorem dX5_hottest_81 : decode cX5_hottest 81 = .ok (.iload 4, 2) := by decide +kernel
theorem dX5_hottest_83 : decode cX5_hottest 83 = .ok (.iload_n 2, 1) := by decide +kernel
theorem dX5_hottest_84 : decode cX5_hottest 84 = .ok (.if_icmp .ge 7, 3) := by decide +kernel
theorem dX5_hottest_87 : decode cX5_hottest 87 = .ok (.iconst 1, 1) := by decide +kernel
theorem dX5_hottest_88 : decode cX5_hottest 88 = .ok (.goto 4, 3) := by decide +kernel
theorem dX5_hottest_91 : decode cX5_hottest 91 = .ok (.iconst 0, 1) := by decide +kernel
theorem dX5_hottest_92 : decode cX5_hottest 92 = .ok (.iadd, 1) := by decide +kernel
theorem dX5_hottest_93 : decode cX5_hottest 93 = .ok (.istore_n 3, 1) := by decide +kernel
theorem dX5_hottest_94 : decode cX5_hottest 94 = .ok (.iinc 4 1, 3) := by decide +kernel
theorem dX5_hottest_97 : decode cX5_hottest 97 = .ok (.goto (-80), 3) := by decide +kernel
theorem dX5_hottest_100 : decode cX5_hottest 100 = .ok (.iload_n 3, 1) := by decide +kernel
theorem dX5_hottest_101 : decode cX5_hottest 101 = .ok (.iload_n 1, 1) := by decide +kernel
theorem dX5_hottest_102 : decode cX5_hottest 102 = .ok (.if_icmp .ne 5, 3) := by decide +kernel
theorem dX5_hottest_105 : decode cX5_hottest 105 = .ok (.iload_n 2, 1) := by decide +kernel
theorem dX5_hottest_106 : decode cX5_hottest 106 = .ok (.ireturn, 1) := by decide +kernel
theorem dX5_hottest_107 : decode cX5_hottest 107 = .ok (.iinc 2 1, 3) := by decide +kernel
theorem dX5_hottest_110 : decode cX5_hottest 110 = .ok (.goto (-108), 3) := by decide +kernel
theorem dX5_hottest_113 : decode cX5_hottest 113 = .ok (.sipush (-1011), 3) := by decide +kernel
theorem dX5_hottest_116 : decode cX5_hottest 116 = .ok (.ireturn, 1) := by decide +kernel
theorem dX5_append_0 : decode cX5_append 0 = .ok (.iload_n 1, 1) := by decide +kernel
theorem dX5_append_1 : decode cX5_append 1 = .ok (.bipush 32, 2) := by decide +kernel
theorem dX5_append_3 : decode cX5_append 3 = .ok (.bipush 126, 2) := by decide +kernel
theorem dX5_append_5 : decode cX5_append 5 = .ok (.invokestatic 40, 3) := by decide +kernel
theorem dX5_append_8 : decode cX5_append 8 = .ok (.ifCond .ne 7, 3) := by decide +kernel
theorem dX5_append_11 : decode cX5_append 11 = .ok (.sipush (-1012), 3) := by decide +kernel
theorem dX5_append_14 : decode cX5_append 14 = .ok (.ireturn, 1) := by decide +kernel
theorem dX5_append_15 : decode cX5_append 15 = .ok (.aload_n 0, 1) := by decide +kernel
theorem dX5_append_16 : decode cX5_append 16 = .ok (.getfield 172, 3) := by decide +kernel
theorem dX5_append_19 : decode cX5_append 19 = .ok (.bipush 60, 2) := by decide +kernel
theorem dX5_append_21 : decode cX5_append 21 = .ok (.if_icmp .ne 7, 3) := by decide +kernel
theorem dX5_append_24 : decode cX5_append 24 = .ok (.sipush (-1013), 3) := by decide +kernel
theorem dX5_append_27 : decode cX5_append 27 = .ok (.ireturn, 1) := by decide +kernel
theorem dX5_append_28 : decode cX5_append 28 = .ok (.aload_n 0, 1) := by decide +kernel
theorem dX5_append_29 : decode cX5_append 29 = .ok (.getfield 19, 3) := by decide +kernel
theorem dX5_append_32 : decode cX5_append 32 = .ok (.aload_n 0, 1) := by decide +kernel
theorem dX5_append_33 : decode cX5_append 33 = .ok (.getfield 172, 3) := by decide +kernel
theorem dX5_append_36 : decode cX5_append 36 = .ok (.iload_n 1, 1) := by decide +kernel
theorem dX5_append_37 : decode cX5_append 37 = .ok (.i2c, 1) := by decide +kernel
theorem dX5_append_38 : decode cX5_append 38 = .ok (.castore, 1) := by decide +kernel
theorem dX5_append_39 : decode cX5_append 39 = .ok (.aload_n 0, 1) := by decide +kernel
theorem dX5_append_40 : decode cX5_append 40 = .ok (.dup, 1) := by decide +kernel
theorem dX5_append_41 : decode cX5_append 41 = .ok (.getfield 172, 3) := by decide +kernel
theorem dX5_append_44 : decode cX5_append 44 = .ok (.iconst 1, 1) := by decide +kernel
theorem dX5_append_45 : decode cX5_append 45 = .ok (.iadd, 1) := by decide +kernel
theorem dX5_append_46 : decode cX5_append 46 = .ok (.putfield 172, 3) := by decide +kernel
theorem dX5_append_49 : decode cX5_append 49 = .ok (.aload_n 0, 1) := by decide +kernel
theorem dX5_append_50 : decode cX5_append 50 = .ok (.getfield 172, 3) := by decide +kernel
theorem dX5_append_53 : decode cX5_append 53 = .ok (.ireturn, 1) := by decide +kernel
theorem dX5_sign_0 : decode cX5_sign 0 = .ok (.aload_n 0, 1) := by decide +kernel
theorem dX5_sign_1 : decode cX5_sign 1 = .ok (.getfield 175, 3) := by decide +kernel
theorem dX5_sign_4 : decode cX5_sign 4 = .ok (.aload_n 0, 1) := by decide +kernel
theorem dX5_sign_5 : decode cX5_sign 5 = .ok (.getfield 172, 3) := by decide +kernel
theorem dX5_sign_8 : decode cX5_sign 8 = .ok (.if_icmp .ge 15, 3) := by decide +kernel
theorem dX5_sign_11 : decode cX5_sign 11 = .ok (.aload_n 0, 1) := by decide +kernel
theorem dX5_sign_12 : decode cX5_sign 12 = .ok (.getfield 19, 3) := by decide +kernel
theorem dX5_sign_15 : decode cX5_sign 15 = .ok (.aload_n 0, 1) := by decide +kernel
theorem dX5_sign_16 : decode cX5_sign 16 = .ok (.getfield 175, 3) := by decide +kernel
theorem dX5_sign_19 : decode cX5_sign 19 = .ok (.caload, 1) := by decide +kernel
theorem dX5_sign_20 : decode cX5_sign 20 = .ok (.goto 4, 3) := by decide +kernel
theorem dX5_sign_23 : decode cX5_sign 23 = .ok (.iconst (-1), 1) := by decide +kernel
theorem dX5_sign_24 : decode cX5_sign 24 = .ok (.ireturn, 1) := by decide +kernel
theorem dX5_needs_0 : decode cX5_needs 0 = .ok (.aload_n 0, 1) := by decide +kernel
theorem dX5_needs_1 : decode cX5_needs 1 = .ok (.getfield 178, 3) := by decide +kernel
theorem dX5_needs_4 : decode cX5_needs 4 = .ok (.ifCond .lt 4, 3) := by decide +kernel
theorem dX5_needs_7 : decode cX5_needs 7 = .ok (.return_, 1) := by decide +kernel
theorem dX5_needs_8 : decode cX5_needs 8 = .ok (.aload_n 0, 1) := by decide +kernel
theorem dX5_needs_9 : decode cX5_needs 9 = .ok (.invokevirtual 181, 3) := by decide +kernel
theorem dX5_needs_12 : decode cX5_needs 12 = .ok (.iload_n 1, 1) := by decide +kernel
theorem dX5_needs_13 : decode cX5_needs 13 = .ok (.if_icmp .eq 12, 3) := by decide +kernel
theorem dX5_needs_16 : decode cX5_needs 16 = .ok (.aload_n 0, 1) := by decide +kernel
theorem dX5_needs_17 : decode cX5_needs 17 = .ok (.aload_n 0, 1) := by decide +kernel
theorem dX5_needs_18 : decode cX5_needs 18 = .ok (.getfield 175, 3) := by decide +kernel
theorem dX5_needs_21 : decode cX5_needs 21 = .ok (.putfield 178, 3) := by decide +kernel
theorem dX5_needs_24 : decode cX5_needs 24 = .ok (.return_, 1) := by decide +kernel
theorem dX5_needs_25 : decode cX5_needs 25 = .ok (.aload_n 0, 1) := by decide +kernel
theorem dX5_needs_26 : decode cX5_needs 26 = .ok (.dup, 1) := by decide +kernel
theorem dX5_needs_27 : decode cX5_needs 27 = .ok (.getfield 175, 3) := by decide +kernel
theorem dX5_needs_30 : decode cX5_needs 30 = .ok (.iconst 1, 1) := by decide +kernel
theorem dX5_needs_31 : decode cX5_needs 31 = .ok (.iadd, 1) := by decide +kernel
theorem dX5_needs_32 : decode cX5_needs 32 = .ok (.putfield 175, 3) := by decide +kernel
theorem dX5_needs_35 : decode cX5_needs 35 = .ok (.return_, 1) := by decide +kernel
theorem dX5_signs_0 : decode cX5_signs 0 = .ok (.aload_n 0, 1) := by decide +kernel
theorem dX5_signs_1 : decode cX5_signs 1 = .ok (.iload_n 1, 1) := by decide +kernel
theorem dX5_signs_2 : decode cX5_signs 2 = .ok (.invokevirtual 184, 3) := by decide +kernel
theorem dX5_signs_5 : decode cX5_signs 5 = .ok (.aload_n 0, 1) := by decide +kernel
theorem dX5_signs_6 : decode cX5_signs 6 = .ok (.iload_n 2, 1) := by decide +kernel
theorem dX5_signs_7 : decode cX5_signs 7 = .ok (.invokevirtual 184, 3) := by decide +kernel
theorem dX5_signs_10 : decode cX5_signs 10 = .ok (.iload_n 3, 1) := by decide +kernel
theorem dX5_signs_11 : decode cX5_signs 11 = .ok (.ifCond .eq 8, 3) := by decide +kernel
theorem dX5_signs_14 : decode cX5_signs 14 = .ok (.aload_n 0, 1) := by decide +kernel
theorem dX5_signs_15 : decode cX5_signs 15 = .ok (.iload_n 3, 1) := by decide +kernel
theorem dX5_signs_16 : decode cX5_signs 16 = .ok (.invokevirtual 184, 3) := by decide +kernel
theorem dX5_signs_19 : decode cX5_signs 19 = .ok (.return_, 1) := by decide +kernel
theorem dX5_number_0 : decode cX5_number 0 = .ok (.aload_n 0, 1) := by decide +kernel
theorem dX5_number_1 : decode cX5_number 1 = .ok (.bipush 32, 2) := by decide +kernel
theorem dX5_number_3 : decode cX5_number 3 = .ok (.invokevirtual 184, 3) := by decide +kernel
theorem dX5_number_6 : decode cX5_number 6 = .ok (.aload_n 0, 1) := by decide +kernel
theorem dX5_number_7 : decode cX5_number 7 = .ok (.getfield 178, 3) := by decide +kernel
theorem dX5_number_10 : decode cX5_number 10 = .ok (.ifCond .lt 5, 3) := by decide +kernel
theorem dX5_number_13 : decode cX5_number 13 = .ok (.iconst 0, 1) := by decide +kernel
theorem dX5_number_14 : decode cX5_number 14 = .ok (.ireturn, 1) := by decide +kernel
theorem dX5_number_15 : decode cX5_number 15 = .ok (.aload_n 0, 1) := by decide +kernel
theorem dX5_number_16 : decode cX5_number 16 = .ok (.invokevirtual 181, 3) := by decide +kernel
theorem dX5_number_19 : decode cX5_number 19 = .ok (.bipush 48, 2) := by decide +kernel
theorem dX5_number_21 : decode cX5_number 21 = .ok (.bipush 57, 2) := by decide +kernel
theorem dX5_number_23 : decode cX5_number 23 = .ok (.invokestatic 40, 3) := by decide +kernel
theorem dX5_number_26 : decode cX5_number 26 = .ok (.ifCond .ne 13, 3) := by decide +kernel
theorem dX5_number_29 : decode cX5_number 29 = .ok (.aload_n 0, 1) := by decide +kernel
theorem dX5_number_30 : decode cX5_number 30 = .ok (.aload_n 0, 1) := by decide +kernel
theorem dX5_number_31 : decode cX5_number 31 = .ok (.getfield 175, 3) := by decide +kernel
theorem dX5_number_34 : decode cX5_number 34 = .ok (.putfield 178, 3) := by decide +kernel
theorem dX5_number_37 : decode cX5_number 37 = .ok (.iconst 0, 1) := by decide +kernel
theorem dX5_number_38 : decode cX5_number 38 = .ok (.ireturn, 1) := by decide +kernel
theorem dX5_number_39 : decode cX5_number 39 = .ok (.iconst 0, 1) := by decide +kernel
theorem dX5_number_40 : decode cX5_number 40 = .ok (.istore_n 2, 1) := by decide +kernel
theorem dX5_number_41 : decode cX5_number 41 = .ok (.iconst 0, 1) := by decide +kernel
theorem dX5_number_42 : decode cX5_number 42 = .ok (.istore_n 3, 1) := by decide +kernel
theorem dX5_number_43 : decode cX5_number 43 = .ok (.iload_n 3, 1) := by decide +kernel
theorem dX5_number_44 : decode cX5_number 44 = .ok (.iload_n 1, 1) := by decide +kernel
theorem dX5_number_45 : decode cX5_number 45 = .ok (.if_icmp .ge 46, 3) := by decide +kernel
theorem dX5_number_48 : decode cX5_number 48 = .ok (.aload_n 0, 1) := by decide +kernel
theorem dX5_number_49 : decode cX5_number 49 = .ok (.invokevirtual 181, 3) := by decide +kernel
theorem dX5_number_52 : decode cX5_number 52 = .ok (.bipush 48, 2) := by decide +kernel
theorem dX5_number_54 : decode cX5_number 54 = .ok (.bipush 57, 2) := by decide +kernel
theorem dX5_number_56 : decode cX5_number 56 = .ok (.invokestatic 40, 3) := by decide +kernel
theorem dX5_number_59 : decode cX5_number 59 = .ok (.ifCond .eq 32, 3) := by decide +kernel
theorem dX5_number_62 : decode cX5_number 62 = .ok (.bipush 10, 2) := by decide +kernel
theorem dX5_number_64 : decode cX5_number 64 = .ok (.iload_n 2, 1) := by decide +kernel
theorem dX5_number_65 : decode cX5_number 65 = .ok (.imul, 1) := by decide +kernel
theorem dX5_number_66 : decode cX5_number 66 = .ok (.aload_n 0, 1) := by decide +kernel
theorem dX5_number_67 : decode cX5_number 67 = .ok (.invokevirtual 181, 3) := by decide +kernel
theorem dX5_number_70 : decode cX5_number 70 = .ok (.iadd, 1) := by decide +kernel
theorem dX5_number_71 : decode cX5_number 71 = .ok (.bipush 48, 2) := by decide +kernel
theorem dX5_number_73 : decode cX5_number 73 = .ok (.isub, 1) := by decide +kernel
theorem dX5_number_74 : decode cX5_number 74 = .ok (.istore_n 2, 1) := by decide +kernel
theorem dX5_number_75 : decode cX5_number 75 = .ok (.aload_n 0, 1) := by decide +kernel
theorem dX5_number_76 : decode cX5_number 76 = .ok (.dup, 1) := by decide +kernel
theorem dX5_number_77 : decode cX5_number 77 = .ok (.getfield 175, 3) := by decide +kernel
theorem dX5_number_80 : decode cX5_number 80 = .ok (.iconst 1, 1) := by decide +kernel
theorem dX5_number_81 : decode cX5_number 81 = .ok (.iadd, 1) := by decide +kernel
theorem dX5_number_82 : decode cX5_number 82 = .ok (.putfield 175, 3) := by decide +kernel
theorem dX5_number_85 : decode cX5_number 85 = .ok (.iinc 3 1, 3) := by decide +kernel
theorem dX5_number_88 : decode cX5_number 88 = .ok (.goto (-45), 3) := by decide +kernel
theorem dX5_number_91 : decode cX5_number 91 = .ok (.iload_n 2, 1) := by decide +kernel
theorem dX5_number_92 : decode cX5_number 92 = .ok (.ireturn, 1) := by decide +kernel
theorem dX5_plusOrMinus_0 : decode cX5_plusOrMinus 0 = .ok (.aload_n 0, 1) := by decide +kernel
theorem dX5_plusOrMinus_1 : decode cX5_plusOrMinus 1 = .ok (.getfield 178, 3) := by decide +kernel
theorem dX5_plusOrMinus_4 : decode cX5_plusOrMinus 4 = .ok (.ifCond .lt 5, 3) := by decide +kernel
theorem dX5_plusOrMinus_7 : decode cX5_plusOrMinus 7 = .ok (.iconst 0, 1) := by decide +kernel
theorem dX5_plusOrMinus_8 : decode cX5_plusOrMinus 8 = .ok (.ireturn, 1) := by decide +kernel
theorem dX5_plusOrMinus_9 : decode cX5_plusOrMinus 9 = .ok (.aload_n 0, 1) := by decide +kernel
theorem dX5_plusOrMinus_10 : decode cX5_plusOrMinus 10 = .ok (.invokevirtual 181, 3) := by decide +kernel
theorem dX5_plusOrMinus_13 : decode cX5_plusOrMinus 13 = .ok (.istore_n 1, 1) := by decide +kernel
theorem dX5_plusOrMinus_14 : decode cX5_plusOrMinus 14 = .ok (.iload_n 1, 1) := by decide +kernel
theorem dX5_plusOrMinus_15 : decode cX5_plusOrMinus 15 = .ok (.bipush 43, 2) := by decide +kernel
theorem dX5_plusOrMinus_17 : decode cX5_plusOrMinus 17 = .ok (.if_icmp .eq 19, 3) := by decide +kernel
theorem dX5_plusOrMinus_20 : decode cX5_plusOrMinus 20 = .ok (.iload_n 1, 1) := by decide +kernel
theorem dX5_plusOrMinus_21 : decode cX5_plusOrMinus 21 = .ok (.bipush 45, 2) := by decide +kernel
theorem dX5_plusOrMinus_23 : decode cX5_plusOrMinus 23 = .ok (.if_icmp .eq 13, 3) := by decide +kernel
theorem dX5_plusOrMinus_26 : decode cX5_plusOrMinus 26 = .ok (.aload_n 0, 1) := by decide +kernel
theorem dX5_plusOrMinus_27 : decode cX5_plusOrMinus 27 = .ok (.aload_n 0, 1) := by decide +kernel
theorem dX5_plusOrMinus_28 : decode cX5_plusOrMinus 28 = .ok (.getfield 175, 3) := by decide +kernel
theorem dX5_plusOrMinus_31 : decode cX5_plusOrMinus 31 = .ok (.putfield 178, 3) := by decide +kernel
theorem dX5_plusOrMinus_34 : decode cX5_plusOrMinus 34 = .ok (.iconst 0, 1) := by decide +kernel
theorem dX5_plusOrMinus_35 : decode cX5_plusOrMinus 35 = .ok (.ireturn, 1) := by decide +kernel
theorem dX5_plusOrMinus_36 : decode cX5_plusOrMinus 36 = .ok (.aload_n 0, 1) := by decide +kernel
theorem dX5_plusOrMinus_37 : decode cX5_plusOrMinus 37 = .ok (.dup, 1) := by decide +kernel
theorem dX5_plusOrMinus_38 : decode cX5_plusOrMinus 38 = .ok (.getfield 175, 3) := by decide +kernel
theorem dX5_plusOrMinus_41 : decode cX5_plusOrMinus 41 = .ok (.iconst 1, 1) := by decide +kernel
theorem dX5_plusOrMinus_42 : decode cX5_plusOrMinus 42 = .ok (.iadd, 1) := by decide +kernel
theorem dX5_plusOrMinus_43 : decode cX5_plusOrMinus 43 = .ok (.putfield 175, 3) := by decide +kernel
theorem dX5_plusOrMinus_46 : decode cX5_plusOrMinus 46 = .ok (.iload_n 1, 1) := by decide +kernel
theorem dX5_plusOrMinus_47 : decode cX5_plusOrMinus 47 = .ok (.bipush 43, 2) := by decide +kernel
theorem dX5_plusOrMinus_49 : decode cX5_plusOrMinus 49 = .ok (.if_icmp .ne 7, 3) := by decide +kernel
theorem dX5_plusOrMinus_52 : decode cX5_plusOrMinus 52 = .ok (.iconst 1, 1) := by decide +kernel
theorem dX5_plusOrMinus_53 : decode cX5_plusOrMinus 53 = .ok (.goto 4, 3) := by decide +kernel
theorem dX5_plusOrMinus_56 : decode cX5_plusOrMinus 56 = .ok (.iconst 0, 1) := by decide +kernel
theorem dX5_plusOrMinus_57 : decode cX5_plusOrMinus 57 = .ok (.ireturn, 1) := by decide +kernel
theorem dX5_word_0 : decode cX5_word 0 = .ok (.aload_n 0, 1) := by decide +kernel
theorem dX5_word_1 : decode cX5_word 1 = .ok (.invokevirtual 181, 3) := by decide +kernel
theorem dX5_word_4 : decode cX5_word 4 = .ok (.istore_n 2, 1) := by decide +kernel
theorem dX5_word_5 : decode cX5_word 5 = .ok (.iload_n 1, 1) := by decide +kernel
theorem dX5_word_6 : decode cX5_word 6 = .ok (.tableswitch 206 97 115 #[162, 206, 206, 206, 206, 137, 206, 124, 206, 206, 90, 150, 184, 206, 206, 206, 206, 206, 112], 90) := by decide +kernel
theorem dX5_word_96 : decode cX5_word 96 = .ok (.aload_n 0, 1) := by decide +kernel
theorem dX5_word_97 : decode cX5_word 97 = .ok (.bipush 101, 2) := by decide +kernel
theorem dX5_word_99 : decode cX5_word 99 = .ok (.bipush 116, 2) := by decide +kernel
theorem dX5_word_101 : decode cX5_word 101 = .ok (.bipush 116, 2) := by decide +kernel
theorem dX5_word_103 : decode cX5_word 103 = .ok (.invokevirtual 188, 3) := by decide +kernel
theorem dX5_word_106 : decode cX5_word 106 = .ok (.aload_n 0, 1) := by decide +kernel
theorem dX5_word_107 : decode cX5_word 107 = .ok (.bipush 108, 2) := by decide +kernel
theorem dX5_word_109 : decode cX5_word 109 = .ok (.bipush 101, 2) := by decide +kernel
theorem dX5_word_111 : decode cX5_word 111 = .ok (.iconst 0, 1) := by decide +kernel
theorem dX5_word_112 : decode cX5_word 112 = .ok (.invokevirtual 188, 3) := by decide +kernel
theorem dX5_word_115 : decode cX5_word 115 = .ok (.bipush 107, 2) := by decide +kernel
theorem dX5_word_117 : decode cX5_word 117 = .ok (.ireturn, 1) := by decide +kernel
theorem dX5_word_118 : decode cX5_word 118 = .ok (.aload_n 0, 1) := by decide +kernel
theorem dX5_word_119 : decode cX5_word 119 = .ok (.bipush 101, 2) := by decide +kernel
theorem dX5_word_121 : decode cX5_word 121 = .ok (.bipush 116, 2) := by decide +kernel
theorem dX5_word_123 : decode cX5_word 123 = .ok (.iconst 0, 1) := by decide +kernel
theorem dX5_word_124 : decode cX5_word 124 = .ok (.invokevirtual 188, 3) := by decide +kernel
theorem dX5_word_127 : decode cX5_word 127 = .ok (.bipush 115, 2) := by decide +kernel
theorem dX5_word_129 : decode cX5_word 129 = .ok (.ireturn, 1) := by decide +kernel
theorem dX5_word_130 : decode cX5_word 130 = .ok (.aload_n 0, 1) := by decide +kernel
theorem dX5_word_131 : decode cX5_word 131 = .ok (.bipush 101, 2) := by decide +kernel
theorem dX5_word_133 : decode cX5_word 133 = .ok (.bipush 97, 2) := by decide +kernel
theorem dX5_word_135 : decode cX5_word 135 = .ok (.bipush 116, 2) := by decide +kernel
theorem dX5_word_137 : decode cX5_word 137 = .ok (.invokevirtual 188, 3) := by decide +kernel
theorem dX5_word_140 : decode cX5_word 140 = .ok (.bipush 104, 2) := by decide +kernel
theorem dX5_word_142 : decode cX5_word 142 = .ok (.ireturn, 1) := by decide +kernel
theorem dX5_word_143 : decode cX5_word 143 = .ok (.aload_n 0, 1) := by decide +kernel
theorem dX5_word_144 : decode cX5_word 144 = .ok (.bipush 105, 2) := by decide +kernel
theorem dX5_word_146 : decode cX5_word 146 = .ok (.bipush 108, 2) := by decide +kernel
theorem dX5_word_148 : decode cX5_word 148 = .ok (.bipush 108, 2) := by decide +kernel
theorem dX5_word_150 : decode cX5_word 150 = .ok (.invokevirtual 188, 3) := by decide +kernel
theorem dX5_word_153 : decode cX5_word 153 = .ok (.bipush 102, 2) := by decide +kernel
theorem dX5_word_155 : decode cX5_word 155 = .ok (.ireturn, 1) := by decide +kernel
theorem dX5_word_156 : decode cX5_word 156 = .ok (.aload_n 0, 1) := by decide +kernel
theorem dX5_word_157 : decode cX5_word 157 = .ok (.bipush 105, 2) := by decide +kernel
theorem dX5_word_159 : decode cX5_word 159 = .ok (.bipush 100, 2) := by decide +kernel
theorem dX5_word_161 : decode cX5_word 161 = .ok (.iconst 0, 1) := by decide +kernel
theorem dX5_word_162 : decode cX5_word 162 = .ok (.invokevirtual 188, 3) := by decide +kernel
theorem dX5_word_165 : decode cX5_word 165 = .ok (.bipush 108, 2) := by decide +kernel
theorem dX5_word_167 : decode cX5_word 167 = .ok (.ireturn, 1) := by decide +kernel
theorem dX5_word_168 : decode cX5_word 168 = .ok (.aload_n 0, 1) := by decide +kernel
theorem dX5_word_169 : decode cX5_word 169 = .ok (.bipush 112, 2) := by decide +kernel
theorem dX5_word_171 : decode cX5_word 171 = .ok (.bipush 112, 2) := by decide +kernel
theorem dX5_word_173 : decode cX5_word 173 = .ok (.bipush 101, 2) := by decide +kernel
theorem dX5_word_175 : decode cX5_word 175 = .ok (.invokevirtual 188, 3) := by decide +kernel
theorem dX5_word_178 : decode cX5_word 178 = .ok (.aload_n 0, 1) := by decide +kernel
theorem dX5_word_179 : decode cX5_word 179 = .ok (.bipush 97, 2) := by decide +kernel
theorem dX5_word_181 : decode cX5_word 181 = .ok (.bipush 108, 2) := by decide +kernel
theorem dX5_word_183 : decode cX5_word 183 = .ok (.iconst 0, 1) := by decide +kernel
theorem dX5_word_184 : decode cX5_word 184 = .ok (.invokevirtual 188, 3) := by decide +kernel
theorem dX5_word_187 : decode cX5_word 187 = .ok (.bipush 97, 2) := by decide +kernel
theorem dX5_word_189 : decode cX5_word 189 = .ok (.ireturn, 1) := by decide +kernel
theorem dX5_word_190 : decode cX5_word 190 = .ok (.aload_n 0, 1) := by decide +kernel
theorem dX5_word_191 : decode cX5_word 191 = .ok (.bipush 105, 2) := by decide +kernel
theorem dX5_word_193 : decode cX5_word 193 = .ok (.bipush 110, 2) := by decide +kernel
theorem dX5_word_195 : decode cX5_word 195 = .ok (.bipush 117, 2) := by decide +kernel
theorem dX5_word_197 : decode cX5_word 197 = .ok (.invokevirtual 188, 3) := by decide +kernel
theorem dX5_word_200 : decode cX5_word 200 = .ok (.aload_n 0, 1) := by decide +kernel
theorem dX5_word_201 : decode cX5_word 201 = .ok (.bipush 116, 2) := by decide +kernel
theorem dX5_word_203 : decode cX5_word 203 = .ok (.bipush 101, 2) := by decide +kernel
theorem dX5_word_205 : decode cX5_word 205 = .ok (.iconst 0, 1) := by decide +kernel
theorem dX5_word_206 : decode cX5_word 206 = .ok (.invokevirtual 188, 3) := by decide +kernel
theorem dX5_word_209 : decode cX5_word 209 = .ok (.bipush 109, 2) := by decide +kernel
theorem dX5_word_211 : decode cX5_word 211 = .ok (.ireturn, 1) := by decide +kernel
theorem dX5_word_212 : decode cX5_word 212 = .ok (.iload_n 2, 1) := by decide +kernel
theorem dX5_word_213 : decode cX5_word 213 = .ok (.bipush 102, 2) := by decide +kernel
theorem dX5_word_215 : decode cX5_word 215 = .ok (.if_icmp .ne 15, 3) := by decide +kernel
theorem dX5_word_218 : decode cX5_word 218 = .ok (.aload_n 0, 1) := by decide +kernel
theorem dX5_word_219 : decode cX5_word 219 = .ok (.bipush 102, 2) := by decide +kernel
theorem dX5_word_221 : decode cX5_word 221 = .ok (.bipush 102, 2) := by decide +kernel
theorem dX5_word_223 : decode cX5_word 223 = .ok (.iconst 0, 1) := by decide +kernel
theorem dX5_word_224 : decode cX5_word 224 = .ok (.invokevirtual 188, 3) := by decide +kernel
theorem dX5_word_227 : decode cX5_word 227 = .ok (.bipush 116, 2) := by decide +kernel
theorem dX5_word_229 : decode cX5_word 229 = .ok (.ireturn, 1) := by decide +kernel
theorem dX5_word_230 : decode cX5_word 230 = .ok (.aload_n 0, 1) := by decide +kernel
theorem dX5_word_231 : decode cX5_word 231 = .ok (.bipush 119, 2) := by decide +kernel
theorem dX5_word_233 : decode cX5_word 233 = .ok (.bipush 110, 2) := by decide +kernel
theorem dX5_word_235 : decode cX5_word 235 = .ok (.iconst 0, 1) := by decide +kernel
theorem dX5_word_236 : decode cX5_word 236 = .ok (.invokevirtual 188, 3) := by decide +kernel
theorem dX5_word_239 : decode cX5_word 239 = .ok (.bipush 110, 2) := by decide +kernel
theorem dX5_word_241 : decode cX5_word 241 = .ok (.ireturn, 1) := by decide +kernel
theorem dX5_order_0 : decode cX5_order 0 = .ok (.iconst 4, 1) := by decide +kernel
theorem dX5_order_1 : decode cX5_order 1 = .ok (.aload_n 0, 1) := by decide +kernel
theorem dX5_order_2 : decode cX5_order 2 = .ok (.getfield 191, 3) := by decide +kernel
theorem dX5_order_5 : decode cX5_order 5 = .ok (.imul, 1) := by decide +kernel
theorem dX5_order_6 : decode cX5_order 6 = .ok (.istore_n 1, 1) := by decide +kernel
theorem dX5_order_7 : decode cX5_order 7 = .ok (.aload_n 0, 1) := by decide +kernel
theorem dX5_order_8 : decode cX5_order 8 = .ok (.dup, 1) := by decide +kernel
theorem dX5_order_9 : decode cX5_order 9 = .ok (.getfield 191, 3) := by decide +kernel
theorem dX5_order_12 : decode cX5_order 12 = .ok (.iconst 1, 1) := by decide +kernel
theorem dX5_order_13 : decode cX5_order 13 = .ok (.iadd, 1) := by decide +kernel
theorem dX5_order_14 : decode cX5_order 14 = .ok (.putfield 191, 3) := by decide +kernel
theorem dX5_order_17 : decode cX5_order 17 = .ok (.aload_n 0, 1) := by decide +kernel
theorem dX5_order_18 : decode cX5_order 18 = .ok (.invokevirtual 181, 3) := by decide +kernel
theorem dX5_order_21 : decode cX5_order 21 = .ok (.istore_n 2, 1) := by decide +kernel
theorem dX5_order_22 : decode cX5_order 22 = .ok (.iconst 0, 1) := by decide +kernel
theorem dX5_order_23 : decode cX5_order 23 = .ok (.istore_n 3, 1) := by decide +kernel
theorem dX5_order_24 : decode cX5_order 24 = .ok (.iload_n 3, 1) := by decide +kernel
theorem dX5_order_25 : decode cX5_order 25 = .ok (.iconst 4, 1) := by decide +kernel
theorem dX5_order_26 : decode cX5_order 26 = .ok (.if_icmp .ge 18, 3) := by decide +kernel
theorem dX5_order_29 : decode cX5_order 29 = .ok (.aload_n 0, 1) := by decide +kernel
theorem dX5_order_30 : decode cX5_order 30 = .ok (.getfield 23, 3) := by decide +kernel
theorem dX5_order_33 : decode cX5_order 33 = .ok (.iload_n 1, 1) := by decide +kernel
theorem dX5_order_34 : decode cX5_order 34 = .ok (.iload_n 3, 1) := by decide +kernel
theorem dX5_order_35 : decode cX5_order 35 = .ok (.iadd, 1) := by decide +kernel
theorem dX5_order_36 : decode cX5_order 36 = .ok (.iconst 0, 1) := by decide +kernel
theorem dX5_order_37 : decode cX5_order 37 = .ok (.iastore, 1) := by decide +kernel
theorem dX5_order_38 : decode cX5_order 38 = .ok (.iinc 3 1, 3) := by decide +kernel
theorem dX5_order_41 : decode cX5_order 41 = .ok (.goto (-17), 3) := by decide +kernel
theorem dX5_order_44 : decode cX5_order 44 = .ok (.iload_n 2, 1) := by decide +kernel
theorem dX5_order_45 : decode cX5_order 45 = .ok (.bipush 111, 2) := by decide +kernel
theorem dX5_order_47 : decode cX5_order 47 = .ok (.if_icmp .eq 54, 3) := by decide +kernel
theorem dX5_order_50 : decode cX5_order 50 = .ok (.iload_n 2, 1) := by decide +kernel
theorem dX5_order_51 : decode cX5_order 51 = .ok (.bipush 107, 2) := by decide +kernel
theorem dX5_order_53 : decode cX5_order 53 = .ok (.if_icmp .eq 48, 3) := by decide +kernel
theorem dX5_order_56 : decode cX5_order 56 = .ok (.iload_n 2, 1) := by decide +kernel
theorem dX5_order_57 : decode cX5_order 57 = .ok (.bipush 115, 2) := by decide +kernel
theorem dX5_order_59 : decode cX5_order 59 = .ok (.if_icmp .eq 42, 3) := by decide +kernel
theorem dX5_order_62 : decode cX5_order 62 = .ok (.iload_n 2, 1) := by decide +kernel
theorem dX5_order_63 : decode cX5_order 63 = .ok (.bipush 104, 2) := by decide +kernel
theorem dX5_order_65 : decode cX5_order 65 = .ok (.if_icmp .eq 36, 3) := by decide +kernel
theorem dX5_order_68 : decode cX5_order 68 = .ok (.iload_n 2, 1) := by decide +kernel
theorem dX5_order_69 : decode cX5_order 69 = .ok (.bipush 102, 2) := by decide +kernel
theorem dX5_order_71 : decode cX5_order 71 = .ok (.if_icmp .eq 30, 3) := by decide +kernel
theorem dX5_order_74 : decode cX5_order 74 = .ok (.iload_n 2, 1) := by decide +kernel
theorem dX5_order_75 : decode cX5_order 75 = .ok (.bipush 108, 2) := by decide +kernel
theorem dX5_order_77 : decode cX5_order 77 = .ok (.if_icmp .eq 24, 3) := by decide +kernel
theorem dX5_order_80 : decode cX5_order 80 = .ok (.iload_n 2, 1) := by decide +kernel
theorem dX5_order_81 : decode cX5_order 81 = .ok (.bipush 97, 2) := by decide +kernel
theorem dX5_order_83 : decode cX5_order 83 = .ok (.if_icmp .eq 18, 3) := by decide +kernel
theorem dX5_order_86 : decode cX5_order 86 = .ok (.iload_n 2, 1) := by decide +kernel
theorem dX5_order_87 : decode cX5_order 87 = .ok (.bipush 109, 2) := by decide +kernel
theorem dX5_order_89 : decode cX5_order 89 = .ok (.if_icmp .eq 12, 3) := by decide +kernel
theorem dX5_order_92 : decode cX5_order 92 = .ok (.aload_n 0, 1) := by decide +kernel
theorem dX5_order_93 : decode cX5_order 93 = .ok (.aload_n 0, 1) := by decide +kernel
theorem dX5_order_94 : decode cX5_order 94 = .ok (.getfield 175, 3) := by decide +kernel
theorem dX5_order_97 : decode cX5_order 97 = .ok (.putfield 178, 3) := by decide +kernel
theorem dX5_order_100 : decode cX5_order 100 = .ok (.return_, 1) := by decide +kernel
theorem dX5_order_101 : decode cX5_order 101 = .ok (.aload_n 0, 1) := by decide +kernel
theorem dX5_order_102 : decode cX5_order 102 = .ok (.dup, 1) := by decide +kernel
theorem dX5_order_103 : decode cX5_order 103 = .ok (.getfield 175, 3) := by decide +kernel
theorem dX5_order_106 : decode cX5_order 106 = .ok (.iconst 1, 1) := by decide +kernel
theorem dX5_order_107 : decode cX5_order 107 = .ok (.iadd, 1) := by decide +kernel
theorem dX5_order_108 : decode cX5_order 108 = .ok (.putfield 175, 3) := by decide +kernel
theorem dX5_order_111 : decode cX5_order 111 = .ok (.aload_n 0, 1) := by decide +kernel
theorem dX5_order_112 : decode cX5_order 112 = .ok (.iload_n 2, 1) := by decide +kernel
theorem dX5_order_113 : decode cX5_order 113 = .ok (.invokevirtual 194, 3) := by decide +kernel
theorem dX5_order_116 : decode cX5_order 116 = .ok (.istore_n 3, 1) := by decide +kernel
theorem dX5_order_117 : decode cX5_order 117 = .ok (.aload_n 0, 1) := by decide +kernel
theorem dX5_order_118 : decode cX5_order 118 = .ok (.getfield 23, 3) := by decide +kernel
theorem dX5_order_121 : decode cX5_order 121 = .ok (.iload_n 1, 1) := by decide +kernel
theorem dX5_order_122 : decode cX5_order 122 = .ok (.iload_n 3, 1) := by decide +kernel
theorem dX5_order_123 : decode cX5_order 123 = .ok (.iastore, 1) := by decide +kernel
theorem dX5_order_124 : decode cX5_order 124 = .ok (.aload_n 0, 1) := by decide +kernel
theorem dX5_order_125 : decode cX5_order 125 = .ok (.getfield 23, 3) := by decide +kernel
theorem dX5_order_128 : decode cX5_order 128 = .ok (.iload_n 1, 1) := by decide +kernel
theorem dX5_order_129 : decode cX5_order 129 = .ok (.iconst 1, 1) := by decide +kernel
theorem dX5_order_130 : decode cX5_order 130 = .ok (.iadd, 1) := by decide +kernel
theorem dX5_order_131 : decode cX5_order 131 = .ok (.aload_n 0, 1) := by decide +kernel
theorem dX5_order_132 : decode cX5_order 132 = .ok (.iconst 1, 1) := by decide +kernel
theorem dX5_order_133 : decode cX5_order 133 = .ok (.invokevirtual 197, 3) := by decide +kernel
theorem dX5_order_136 : decode cX5_order 136 = .ok (.iastore, 1) := by decide +kernel
theorem dX5_order_137 : decode cX5_order 137 = .ok (.iload_n 3, 1) := by decide +kernel
theorem dX5_order_138 : decode cX5_order 138 = .ok (.bipush 116, 2) := by decide +kernel
theorem dX5_order_140 : decode cX5_order 140 = .ok (.if_icmp .eq 9, 3) := by decide +kernel
theorem dX5_order_143 : decode cX5_order 143 = .ok (.iload_n 3, 1) := by decide +kernel
theorem dX5_order_144 : decode cX5_order 144 = .ok (.bipush 109, 2) := by decide +kernel
theorem dX5_order_146 : decode cX5_order 146 = .ok (.if_icmp .ne 4, 3) := by decide +kernel
theorem dX5_order_149 : decode cX5_order 149 = .ok (.return_, 1) := by decide +kernel
theorem dX5_order_150 : decode cX5_order 150 = .ok (.aload_n 0, 1) := by decide +kernel
theorem dX5_order_151 : decode cX5_order 151 = .ok (.getfield 23, 3) := by decide +kernel
theorem dX5_order_154 : decode cX5_order 154 = .ok (.iload_n 1, 1) := by decide +kernel
theorem dX5_order_155 : decode cX5_order 155 = .ok (.iconst 2, 1) := by decide +kernel
theorem dX5_order_156 : decode cX5_order 156 = .ok (.iadd, 1) := by decide +kernel
theorem dX5_order_157 : decode cX5_order 157 = .ok (.iload_n 3, 1) := by decide +kernel
theorem dX5_order_158 : decode cX5_order 158 = .ok (.bipush 108, 2) := by decide +kernel
theorem dX5_order_160 : decode cX5_order 160 = .ok (.if_icmp .ne 10, 3) := by decide +kernel
theorem dX5_order_163 : decode cX5_order 163 = .ok (.aload_n 0, 1) := by decide +kernel
theorem dX5_order_164 : decode cX5_order 164 = .ok (.invokevirtual 200, 3) := by decide +kernel
theorem dX5_order_167 : decode cX5_order 167 = .ok (.goto 30, 3) := by decide +kernel
theorem dX5_order_170 : decode cX5_order 170 = .ok (.aload_n 0, 1) := by decide +kernel
theorem dX5_order_171 : decode cX5_order 171 = .ok (.iload_n 3, 1) := by decide +kernel
theorem dX5_order_172 : decode cX5_order 172 = .ok (.bipush 110, 2) := by decide +kernel
theorem dX5_order_174 : decode cX5_order 174 = .ok (.if_icmp .eq 15, 3) := by decide +kernel
theorem dX5_order_177 : decode cX5_order 177 = .ok (.iload_n 3, 1) := by decide +kernel
theorem dX5_order_178 : decode cX5_order 178 = .ok (.bipush 107, 2) := by decide +kernel
theorem dX5_order_180 : decode cX5_order 180 = .ok (.if_icmp .eq 9, 3) := by decide +kernel
theorem dX5_order_183 : decode cX5_order 183 = .ok (.iload_n 3, 1) := by decide +kernel
theorem dX5_order_184 : decode cX5_order 184 = .ok (.bipush 102, 2) := by decide +kernel
theorem dX5_order_186 : decode cX5_order 186 = .ok (.if_icmp .ne 7, 3) := by decide +kernel
theorem dX5_order_189 : decode cX5_order 189 = .ok (.iconst 2, 1) := by decide +kernel
theorem dX5_order_190 : decode cX5_order 190 = .ok (.goto 4, 3) := by decide +kernel
theorem dX5_order_193 : decode cX5_order 193 = .ok (.iconst 1, 1) := by decide +kernel
theorem dX5_order_194 : decode cX5_order 194 = .ok (.invokevirtual 197, 3) := by decide +kernel
theorem dX5_order_197 : decode cX5_order 197 = .ok (.iastore, 1) := by decide +kernel
theorem dX5_order_198 : decode cX5_order 198 = .ok (.iload_n 3, 1) := by decide +kernel
theorem dX5_order_199 : decode cX5_order 199 = .ok (.bipush 107, 2) := by decide +kernel
theorem dX5_order_201 : decode cX5_order 201 = .ok (.if_icmp .ne 16, 3) := by decide +kernel
theorem dX5_order_204 : decode cX5_order 204 = .ok (.aload_n 0, 1) := by decide +kernel
theorem dX5_order_205 : decode cX5_order 205 = .ok (.getfield 23, 3) := by decide +kernel
theorem dX5_order_208 : decode cX5_order 208 = .ok (.iload_n 1, 1) := by decide +kernel
theorem dX5_order_209 : decode cX5_order 209 = .ok (.iconst 3, 1) := by decide +kernel
theorem dX5_order_210 : decode cX5_order 210 = .ok (.iadd, 1) := by decide +kernel
theorem dX5_order_211 : decode cX5_order 211 = .ok (.aload_n 0, 1) := by decide +kernel
theorem dX5_order_212 : decode cX5_order 212 = .ok (.iconst 2, 1) := by decide +kernel
theorem dX5_order_213 : decode cX5_order 213 = .ok (.invokevirtual 197, 3) := by decide +kernel
theorem dX5_order_216 : decode cX5_order 216 = .ok (.iastore, 1) := by decide +kernel
theorem dX5_order_217 : decode cX5_order 217 = .ok (.return_, 1) := by decide +kernel
theorem dX5_parse_0 : decode cX5_parse 0 = .ok (.aload_n 0, 1) := by decide +kernel
theorem dX5_parse_1 : decode cX5_parse 1 = .ok (.iconst 0, 1) := by decide +kernel
theorem dX5_parse_2 : decode cX5_parse 2 = .ok (.putfield 175, 3) := by decide +kernel
theorem dX5_parse_5 : decode cX5_parse 5 = .ok (.aload_n 0, 1) := by decide +kernel
theorem dX5_parse_6 : decode cX5_parse 6 = .ok (.iconst (-1), 1) := by decide +kernel
theorem dX5_parse_7 : decode cX5_parse 7 = .ok (.putfield 178, 3) := by decide +kernel
theorem dX5_parse_10 : decode cX5_parse 10 = .ok (.aload_n 0, 1) := by decide +kernel
theorem dX5_parse_11 : decode cX5_parse 11 = .ok (.iconst 0, 1) := by decide +kernel
theorem dX5_parse_12 : decode cX5_parse 12 = .ok (.putfield 191, 3) := by decide +kernel
theorem dX5_parse_15 : decode cX5_parse 15 = .ok (.aload_n 0, 1) := by decide +kernel
theorem dX5_parse_16 : decode cX5_parse 16 = .ok (.invokevirtual 203, 3) := by decide +kernel
theorem dX5_parse_19 : decode cX5_parse 19 = .ok (.aload_n 0, 1) := by decide +kernel
theorem dX5_parse_20 : decode cX5_parse 20 = .ok (.getfield 178, 3) := by decide +kernel
theorem dX5_parse_23 : decode cX5_parse 23 = .ok (.ifCond .ge 29, 3) := by decide +kernel
theorem dX5_parse_26 : decode cX5_parse 26 = .ok (.aload_n 0, 1) := by decide +kernel
theorem dX5_parse_27 : decode cX5_parse 27 = .ok (.invokevirtual 181, 3) := by decide +kernel
theorem dX5_parse_30 : decode cX5_parse 30 = .ok (.bipush 59, 2) := by decide +kernel
theorem dX5_parse_32 : decode cX5_parse 32 = .ok (.if_icmp .ne 20, 3) := by decide +kernel
theorem dX5_parse_35 : decode cX5_parse 35 = .ok (.aload_n 0, 1) := by decide +kernel
theorem dX5_parse_36 : decode cX5_parse 36 = .ok (.dup, 1) := by decide +kernel
theorem dX5_parse_37 : decode cX5_parse 37 = .ok (.getfield 175, 3) := by decide +kernel
theorem dX5_parse_40 : decode cX5_parse 40 = .ok (.iconst 1, 1) := by decide +kernel
theorem dX5_parse_41 : decode cX5_parse 41 = .ok (.iadd, 1) := by decide +kernel
theorem dX5_parse_42 : decode cX5_parse 42 = .ok (.putfield 175, 3) := by decide +kernel
theorem dX5_parse_45 : decode cX5_parse 45 = .ok (.aload_n 0, 1) := by decide +kernel
theorem dX5_parse_46 : decode cX5_parse 46 = .ok (.invokevirtual 203, 3) := by decide +kernel
theorem dX5_parse_49 : decode cX5_parse 49 = .ok (.goto (-30), 3) := by decide +kernel
theorem dX5_parse_52 : decode cX5_parse 52 = .ok (.aload_n 0, 1) := by decide +kernel
theorem dX5_parse_53 : decode cX5_parse 53 = .ok (.getfield 178, 3) := by decide +kernel
theorem dX5_parse_56 : decode cX5_parse 56 = .ok (.ifCond .ge 22, 3) := by decide +kernel
theorem dX5_parse_59 : decode cX5_parse 59 = .ok (.aload_n 0, 1) := by decide +kernel
theorem dX5_parse_60 : decode cX5_parse 60 = .ok (.getfield 175, 3) := by decide +kernel
theorem dX5_parse_63 : decode cX5_parse 63 = .ok (.aload_n 0, 1) := by decide +kernel
theorem dX5_parse_64 : decode cX5_parse 64 = .ok (.getfield 172, 3) := by decide +kernel
theorem dX5_parse_67 : decode cX5_parse 67 = .ok (.if_icmp .ge 11, 3) := by decide +kernel
theorem dX5_parse_70 : decode cX5_parse 70 = .ok (.aload_n 0, 1) := by decide +kernel
theorem dX5_parse_71 : decode cX5_parse 71 = .ok (.aload_n 0, 1) := by decide +kernel
theorem dX5_parse_72 : decode cX5_parse 72 = .ok (.getfield 175, 3) := by decide +kernel
theorem dX5_parse_75 : decode cX5_parse 75 = .ok (.putfield 178, 3) := by decide +kernel
theorem dX5_parse_78 : decode cX5_parse 78 = .ok (.return_, 1) := by decide +kernel
theorem dX5_does_0 : decode cX5_does 0 = .ok (.aload_n 0, 1) := by decide +kernel
theorem dX5_does_1 : decode cX5_does 1 = .ok (.getfield 23, 3) := by decide +kernel
theorem dX5_does_4 : decode cX5_does 4 = .ok (.iload_n 1, 1) := by decide +kernel
theorem dX5_does_5 : decode cX5_does 5 = .ok (.iconst 1, 1) := by decide +kernel
theorem dX5_does_6 : decode cX5_does 6 = .ok (.iadd, 1) := by decide +kernel
theorem dX5_does_7 : decode cX5_does 7 = .ok (.iaload, 1) := by decide +kernel
theorem dX5_does_8 : decode cX5_does 8 = .ok (.istore_n 2, 1) := by decide +kernel
theorem dX5_does_9 : decode cX5_does 9 = .ok (.aload_n 0, 1) := by decide +kernel
theorem dX5_does_10 : decode cX5_does 10 = .ok (.getfield 23, 3) := by decide +kernel
theorem dX5_does_13 : decode cX5_does 13 = .ok (.iload_n 1, 1) := by decide +kernel
theorem dX5_does_14 : decode cX5_does 14 = .ok (.iconst 2, 1) := by decide +kernel
theorem dX5_does_15 : decode cX5_does 15 = .ok (.iadd, 1) := by decide +kernel
theorem dX5_does_16 : decode cX5_does 16 = .ok (.iaload, 1) := by decide +kernel
theorem dX5_does_17 : decode cX5_does 17 = .ok (.istore_n 3, 1) := by decide +kernel
theorem dX5_does_18 : decode cX5_does 18 = .ok (.aload_n 0, 1) := by decide +kernel
theorem dX5_does_19 : decode cX5_does 19 = .ok (.getfield 23, 3) := by decide +kernel
theorem dX5_does_22 : decode cX5_does 22 = .ok (.iload_n 1, 1) := by decide +kernel
theorem dX5_does_23 : decode cX5_does 23 = .ok (.iaload, 1) := by decide +kernel
theorem dX5_does_24 : decode cX5_does 24 = .ok (.tableswitch 159 97 116 #[152, 159, 159, 159, 159, 138, 159, 131, 159, 159, 103, 145, 159, 96, 159, 159, 159, 159, 118, 125], 96) := by decide +kernel
theorem dX5_does_120 : decode cX5_does 120 = .ok (.aload_n 0, 1) := by decide +kernel
theorem dX5_does_121 : decode cX5_does 121 = .ok (.iload_n 2, 1) := by decide +kernel
theorem dX5_does_122 : decode cX5_does 122 = .ok (.iload_n 3, 1) := by decide +kernel
theorem dX5_does_123 : decode cX5_does 123 = .ok (.invokevirtual 78, 3) := by decide +kernel
theorem dX5_does_126 : decode cX5_does 126 = .ok (.ireturn, 1) := by decide +kernel
theorem dX5_does_127 : decode cX5_does 127 = .ok (.aload_n 0, 1) := by decide +kernel
theorem dX5_does_128 : decode cX5_does 128 = .ok (.iload_n 2, 1) := by decide +kernel
theorem dX5_does_129 : decode cX5_does 129 = .ok (.iload_n 3, 1) := by decide +kernel
theorem dX5_does_130 : decode cX5_does 130 = .ok (.aload_n 0, 1) := by decide +kernel
theorem dX5_does_131 : decode cX5_does 131 = .ok (.getfield 23, 3) := by decide +kernel
theorem dX5_does_134 : decode cX5_does 134 = .ok (.iload_n 1, 1) := by decide +kernel
theorem dX5_does_135 : decode cX5_does 135 = .ok (.iconst 3, 1) := by decide +kernel
theorem dX5_does_136 : decode cX5_does 136 = .ok (.iadd, 1) := by decide +kernel
theorem dX5_does_137 : decode cX5_does 137 = .ok (.iaload, 1) := by decide +kernel
theorem dX5_does_138 : decode cX5_does 138 = .ok (.invokevirtual 88, 3) := by decide +kernel
theorem dX5_does_141 : decode cX5_does 141 = .ok (.ireturn, 1) := by decide +kernel
theorem dX5_does_142 : decode cX5_does 142 = .ok (.aload_n 0, 1) := by decide +kernel
theorem dX5_does_143 : decode cX5_does 143 = .ok (.iload_n 2, 1) := by decide +kernel
theorem dX5_does_144 : decode cX5_does 144 = .ok (.iload_n 3, 1) := by decide +kernel
theorem dX5_does_145 : decode cX5_does 145 = .ok (.invokevirtual 114, 3) := by decide +kernel
theorem dX5_does_148 : decode cX5_does 148 = .ok (.ireturn, 1) := by decide +kernel
theorem dX5_does_149 : decode cX5_does 149 = .ok (.aload_n 0, 1) := by decide +kernel
theorem dX5_does_150 : decode cX5_does 150 = .ok (.iload_n 2, 1) := by decide +kernel
theorem dX5_does_151 : decode cX5_does 151 = .ok (.invokevirtual 117, 3) := by decide +kernel
theorem dX5_does_154 : decode cX5_does 154 = .ok (.ireturn, 1) := by decide +kernel
theorem dX5_does_155 : decode cX5_does 155 = .ok (.aload_n 0, 1) := by decide +kernel
theorem dX5_does_156 : decode cX5_does 156 = .ok (.iload_n 2, 1) := by decide +kernel
theorem dX5_does_157 : decode cX5_does 157 = .ok (.iload_n 3, 1) := by decide +kernel
theorem dX5_does_158 : decode cX5_does 158 = .ok (.invokevirtual 120, 3) := by decide +kernel
theorem dX5_does_161 : decode cX5_does 161 = .ok (.ireturn, 1) := by decide +kernel
theorem dX5_does_162 : decode cX5_does 162 = .ok (.aload_n 0, 1) := by decide +kernel
theorem dX5_does_163 : decode cX5_does 163 = .ok (.iload_n 2, 1) := by decide +kernel
theorem dX5_does_164 : decode cX5_does 164 = .ok (.iload_n 3, 1) := by decide +kernel
theorem dX5_does_165 : decode cX5_does 165 = .ok (.invokevirtual 95, 3) := by decide +kernel
theorem dX5_does_168 : decode cX5_does 168 = .ok (.ireturn, 1) := by decide +kernel
theorem dX5_does_169 : decode cX5_does 169 = .ok (.aload_n 0, 1) := by decide +kernel
theorem dX5_does_170 : decode cX5_does 170 = .ok (.iload_n 2, 1) := by decide +kernel
theorem dX5_does_171 : decode cX5_does 171 = .ok (.iload_n 3, 1) := by decide +kernel
theorem dX5_does_172 : decode cX5_does 172 = .ok (.invokevirtual 126, 3) := by decide +kernel
theorem dX5_does_175 : decode cX5_does 175 = .ok (.ireturn, 1) := by decide +kernel
theorem dX5_does_176 : decode cX5_does 176 = .ok (.aload_n 0, 1) := by decide +kernel
theorem dX5_does_177 : decode cX5_does 177 = .ok (.iload_n 2, 1) := by decide +kernel
theorem dX5_does_178 : decode cX5_does 178 = .ok (.iload_n 3, 1) := by decide +kernel
theorem dX5_does_179 : decode cX5_does 179 = .ok (.invokevirtual 132, 3) := by decide +kernel
theorem dX5_does_182 : decode cX5_does 182 = .ok (.ireturn, 1) := by decide +kernel
theorem dX5_does_183 : decode cX5_does 183 = .ok (.aload_n 0, 1) := by decide +kernel
theorem dX5_does_184 : decode cX5_does 184 = .ok (.iload_n 2, 1) := by decide +kernel
theorem dX5_does_185 : decode cX5_does 185 = .ok (.invokevirtual 150, 3) := by decide +kernel
theorem dX5_does_188 : decode cX5_does 188 = .ok (.ireturn, 1) := by decide +kernel
theorem dX5_run_0 : decode cX5_run 0 = .ok (.aload_n 0, 1) := by decide +kernel
theorem dX5_run_1 : decode cX5_run 1 = .ok (.invokevirtual 206, 3) := by decide +kernel
theorem dX5_run_4 : decode cX5_run 4 = .ok (.aload_n 0, 1) := by decide +kernel
theorem dX5_run_5 : decode cX5_run 5 = .ok (.iconst 0, 1) := by decide +kernel
theorem dX5_run_6 : decode cX5_run 6 = .ok (.putfield 172, 3) := by decide +kernel
theorem dX5_run_9 : decode cX5_run 9 = .ok (.aload_n 0, 1) := by decide +kernel
theorem dX5_run_10 : decode cX5_run 10 = .ok (.getfield 178, 3) := by decide +kernel
theorem dX5_run_13 : decode cX5_run 13 = .ok (.ifCond .lt 12, 3) := by decide +kernel
theorem dX5_run_16 : decode cX5_run 16 = .ok (.sipush (-2000), 3) := by decide +kernel
theorem dX5_run_19 : decode cX5_run 19 = .ok (.aload_n 0, 1) := by decide +kernel
theorem dX5_run_20 : decode cX5_run 20 = .ok (.getfield 178, 3) := by decide +kernel
theorem dX5_run_23 : decode cX5_run 23 = .ok (.isub, 1) := by decide +kernel
theorem dX5_run_24 : decode cX5_run 24 = .ok (.ireturn, 1) := by decide +kernel
theorem dX5_run_25 : decode cX5_run 25 = .ok (.aload_n 0, 1) := by decide +kernel
theorem dX5_run_26 : decode cX5_run 26 = .ok (.invokevirtual 75, 3) := by decide +kernel
theorem dX5_run_29 : decode cX5_run 29 = .ok (.iconst 0, 1) := by decide +kernel
theorem dX5_run_30 : decode cX5_run 30 = .ok (.istore_n 1, 1) := by decide +kernel
theorem dX5_run_31 : decode cX5_run 31 = .ok (.iconst 0, 1) := by decide +kernel
theorem dX5_run_32 : decode cX5_run 32 = .ok (.istore_n 2, 1) := by decide +kernel
theorem dX5_run_33 : decode cX5_run 33 = .ok (.iload_n 2, 1) := by decide +kernel
theorem dX5_run_34 : decode cX5_run 34 = .ok (.aload_n 0, 1) := by decide +kernel
theorem dX5_run_35 : decode cX5_run 35 = .ok (.getfield 191, 3) := by decide +kernel
theorem dX5_run_38 : decode cX5_run 38 = .ok (.if_icmp .ge 24, 3) := by decide +kernel
theorem dX5_run_41 : decode cX5_run 41 = .ok (.iload_n 1, 1) := by decide +kernel
theorem dX5_run_42 : decode cX5_run 42 = .ok (.sipush (-1011), 3) := by decide +kernel
theorem dX5_run_45 : decode cX5_run 45 = .ok (.if_icmp .le 17, 3) := by decide +kernel
theorem dX5_run_48 : decode cX5_run 48 = .ok (.aload_n 0, 1) := by decide +kernel
theorem dX5_run_49 : decode cX5_run 49 = .ok (.iconst 4, 1) := by decide +kernel
theorem dX5_run_50 : decode cX5_run 50 = .ok (.iload_n 2, 1) := by decide +kernel
theorem dX5_run_51 : decode cX5_run 51 = .ok (.imul, 1) := by decide +kernel
theorem dX5_run_52 : decode cX5_run 52 = .ok (.invokevirtual 209, 3) := by decide +kernel
theorem dX5_run_55 : decode cX5_run 55 = .ok (.istore_n 1, 1) := by decide +kernel
theorem dX5_run_56 : decode cX5_run 56 = .ok (.iinc 2 1, 3) := by decide +kernel
theorem dX5_run_59 : decode cX5_run 59 = .ok (.goto (-26), 3) := by decide +kernel
theorem dX5_run_62 : decode cX5_run 62 = .ok (.iload_n 1, 1) := by decide +kernel
theorem dX5_run_63 : decode cX5_run 63 = .ok (.sipush (-1011), 3) := by decide +kernel
theorem dX5_run_66 : decode cX5_run 66 = .ok (.if_icmp .gt 39, 3) := by decide +kernel
theorem dX5_run_69 : decode cX5_run 69 = .ok (.aload_n 0, 1) := by decide +kernel
theorem dX5_run_70 : decode cX5_run 70 = .ok (.iload_n 1, 1) := by decide +kernel
theorem dX5_run_71 : decode cX5_run 71 = .ok (.sipush (-1014), 3) := by decide +kernel
theorem dX5_run_74 : decode cX5_run 74 = .ok (.if_icmp .ne 10, 3) := by decide +kernel
theorem dX5_run_77 : decode cX5_run 77 = .ok (.aload_n 0, 1) := by decide +kernel
theorem dX5_run_78 : decode cX5_run 78 = .ok (.getfield 37, 3) := by decide +kernel
theorem dX5_run_81 : decode cX5_run 81 = .ok (.goto 4, 3) := by decide +kernel
theorem dX5_run_84 : decode cX5_run 84 = .ok (.iconst 0, 1) := by decide +kernel
theorem dX5_run_85 : decode cX5_run 85 = .ok (.putfield 37, 3) := by decide +kernel
theorem dX5_run_88 : decode cX5_run 88 = .ok (.aload_n 0, 1) := by decide +kernel
theorem dX5_run_89 : decode cX5_run 89 = .ok (.bipush 16, 2) := by decide +kernel
theorem dX5_run_91 : decode cX5_run 91 = .ok (.iload_n 2, 1) := by decide +kernel
theorem dX5_run_92 : decode cX5_run 92 = .ok (.iconst 1, 1) := by decide +kernel
theorem dX5_run_93 : decode cX5_run 93 = .ok (.isub, 1) := by decide +kernel
theorem dX5_run_94 : decode cX5_run 94 = .ok (.invokevirtual 107, 3) := by decide +kernel
theorem dX5_run_97 : decode cX5_run 97 = .ok (.aload_n 0, 1) := by decide +kernel
theorem dX5_run_98 : decode cX5_run 98 = .ok (.sipush (-1014), 3) := by decide +kernel
theorem dX5_run_101 : decode cX5_run 101 = .ok (.invokevirtual 81, 3) := by decide +kernel
theorem dX5_run_104 : decode cX5_run 104 = .ok (.ireturn, 1) := by decide +kernel
theorem dX5_run_105 : decode cX5_run 105 = .ok (.aload_n 0, 1) := by decide +kernel
theorem dX5_run_106 : decode cX5_run 106 = .ok (.aload_n 0, 1) := by decide +kernel
theorem dX5_run_107 : decode cX5_run 107 = .ok (.getfield 191, 3) := by decide +kernel
theorem dX5_run_110 : decode cX5_run 110 = .ok (.invokevirtual 81, 3) := by decide +kernel
theorem dX5_run_113 : decode cX5_run 113 = .ok (.ireturn, 1) := by decide +kernel
theorem dX5_writes_0 : decode cX5_writes 0 = .ok (.aload_n 0, 1) := by decide +kernel
theorem dX5_writes_1 : decode cX5_writes 1 = .ok (.getfield 26, 3) := by decide +kernel
theorem dX5_writes_4 : decode cX5_writes 4 = .ok (.aload_n 0, 1) := by decide +kernel
theorem dX5_writes_5 : decode cX5_writes 5 = .ok (.getfield 212, 3) := by decide +kernel
theorem dX5_writes_8 : decode cX5_writes 8 = .ok (.iload_n 1, 1) := by decide +kernel
theorem dX5_writes_9 : decode cX5_writes 9 = .ok (.i2c, 1) := by decide +kernel
theorem dX5_writes_10 : decode cX5_writes 10 = .ok (.castore, 1) := by decide +kernel
theorem dX5_writes_11 : decode cX5_writes 11 = .ok (.aload_n 0, 1) := by decide +kernel
theorem dX5_writes_12 : decode cX5_writes 12 = .ok (.dup, 1) := by decide +kernel
theorem dX5_writes_13 : decode cX5_writes 13 = .ok (.getfield 212, 3) := by decide +kernel
theorem dX5_writes_16 : decode cX5_writes 16 = .ok (.iconst 1, 1) := by decide +kernel
theorem dX5_writes_17 : decode cX5_writes 17 = .ok (.iadd, 1) := by decide +kernel
theorem dX5_writes_18 : decode cX5_writes 18 = .ok (.putfield 212, 3) := by decide +kernel
theorem dX5_writes_21 : decode cX5_writes 21 = .ok (.return_, 1) := by decide +kernel
theorem dX5_writesNumber_0 : decode cX5_writesNumber 0 = .ok (.iload_n 1, 1) := by decide +kernel
theorem dX5_writesNumber_1 : decode cX5_writesNumber 1 = .ok (.bipush 9, 2) := by decide +kernel
theorem dX5_writesNumber_3 : decode cX5_writesNumber 3 = .ok (.if_icmp .le 11, 3) := by decide +kernel
theorem dX5_writesNumber_6 : decode cX5_writesNumber 6 = .ok (.aload_n 0, 1) := by decide +kernel
theorem dX5_writesNumber_7 : decode cX5_writesNumber 7 = .ok (.iload_n 1, 1) := by decide +kernel
theorem dX5_writesNumber_8 : decode cX5_writesNumber 8 = .ok (.bipush 10, 2) := by decide +kernel
theorem dX5_writesNumber_10 : decode cX5_writesNumber 10 = .ok (.idiv, 1) := by decide +kernel
theorem dX5_writesNumber_11 : decode cX5_writesNumber 11 = .ok (.invokevirtual 215, 3) := by decide +kernel
theorem dX5_writesNumber_14 : decode cX5_writesNumber 14 = .ok (.aload_n 0, 1) := by decide +kernel
theorem dX5_writesNumber_15 : decode cX5_writesNumber 15 = .ok (.bipush 48, 2) := by decide +kernel
theorem dX5_writesNumber_17 : decode cX5_writesNumber 17 = .ok (.iload_n 1, 1) := by decide +kernel
theorem dX5_writesNumber_18 : decode cX5_writesNumber 18 = .ok (.bipush 10, 2) := by decide +kernel
theorem dX5_writesNumber_20 : decode cX5_writesNumber 20 = .ok (.irem, 1) := by decide +kernel
theorem dX5_writesNumber_21 : decode cX5_writesNumber 21 = .ok (.iadd, 1) := by decide +kernel
theorem dX5_writesNumber_22 : decode cX5_writesNumber 22 = .ok (.invokevirtual 218, 3) := by decide +kernel
theorem dX5_writesNumber_25 : decode cX5_writesNumber 25 = .ok (.return_, 1) := by decide +kernel
theorem dX5_tell_0 : decode cX5_tell 0 = .ok (.aload_n 0, 1) := by decide +kernel
theorem dX5_tell_1 : decode cX5_tell 1 = .ok (.iload_n 1, 1) := by decide +kernel
theorem dX5_tell_2 : decode cX5_tell 2 = .ok (.invokevirtual 92, 3) := by decide +kernel
theorem dX5_tell_5 : decode cX5_tell 5 = .ok (.ifCond .ne 7, 3) := by decide +kernel
theorem dX5_tell_8 : decode cX5_tell 8 = .ok (.sipush (-1011), 3) := by decide +kernel
theorem dX5_tell_11 : decode cX5_tell 11 = .ok (.ireturn, 1) := by decide +kernel
theorem dX5_tell_12 : decode cX5_tell 12 = .ok (.aload_n 0, 1) := by decide +kernel
theorem dX5_tell_13 : decode cX5_tell 13 = .ok (.iconst 0, 1) := by decide +kernel
theorem dX5_tell_14 : decode cX5_tell 14 = .ok (.putfield 212, 3) := by decide +kernel
theorem dX5_tell_17 : decode cX5_tell 17 = .ok (.aload_n 0, 1) := by decide +kernel
theorem dX5_tell_18 : decode cX5_tell 18 = .ok (.iload_n 1, 1) := by decide +kernel
theorem dX5_tell_19 : decode cX5_tell 19 = .ok (.invokevirtual 215, 3) := by decide +kernel
theorem dX5_tell_22 : decode cX5_tell 22 = .ok (.aload_n 0, 1) := by decide +kernel
theorem dX5_tell_23 : decode cX5_tell 23 = .ok (.bipush 58, 2) := by decide +kernel
theorem dX5_tell_25 : decode cX5_tell 25 = .ok (.invokevirtual 218, 3) := by decide +kernel
theorem dX5_tell_28 : decode cX5_tell 28 = .ok (.aload_n 0, 1) := by decide +kernel
theorem dX5_tell_29 : decode cX5_tell 29 = .ok (.aload_n 0, 1) := by decide +kernel
theorem dX5_tell_30 : decode cX5_tell 30 = .ok (.iload_n 1, 1) := by decide +kernel
theorem dX5_tell_31 : decode cX5_tell 31 = .ok (.iconst 0, 1) := by decide +kernel
theorem dX5_tell_32 : decode cX5_tell 32 = .ok (.invokevirtual 48, 3) := by decide +kernel
theorem dX5_tell_35 : decode cX5_tell 35 = .ok (.invokevirtual 215, 3) := by decide +kernel
theorem dX5_tell_38 : decode cX5_tell 38 = .ok (.aload_n 0, 1) := by decide +kernel
theorem dX5_tell_39 : decode cX5_tell 39 = .ok (.bipush 112, 2) := by decide +kernel
theorem dX5_tell_41 : decode cX5_tell 41 = .ok (.invokevirtual 218, 3) := by decide +kernel
theorem dX5_tell_44 : decode cX5_tell 44 = .ok (.aload_n 0, 1) := by decide +kernel
theorem dX5_tell_45 : decode cX5_tell 45 = .ok (.aload_n 0, 1) := by decide +kernel
theorem dX5_tell_46 : decode cX5_tell 46 = .ok (.iload_n 1, 1) := by decide +kernel
theorem dX5_tell_47 : decode cX5_tell 47 = .ok (.iconst 1, 1) := by decide +kernel
theorem dX5_tell_48 : decode cX5_tell 48 = .ok (.invokevirtual 48, 3) := by decide +kernel
theorem dX5_tell_51 : decode cX5_tell 51 = .ok (.invokevirtual 215, 3) := by decide +kernel
theorem dX5_tell_54 : decode cX5_tell 54 = .ok (.aload_n 0, 1) := by decide +kernel
theorem dX5_tell_55 : decode cX5_tell 55 = .ok (.bipush 119, 2) := by decide +kernel
theorem dX5_tell_57 : decode cX5_tell 57 = .ok (.invokevirtual 218, 3) := by decide +kernel
theorem dX5_tell_60 : decode cX5_tell 60 = .ok (.aload_n 0, 1) := by decide +kernel
theorem dX5_tell_61 : decode cX5_tell 61 = .ok (.aload_n 0, 1) := by decide +kernel
theorem dX5_tell_62 : decode cX5_tell 62 = .ok (.iload_n 1, 1) := by decide +kernel
theorem dX5_tell_63 : decode cX5_tell 63 = .ok (.iconst 2, 1) := by decide +kernel
theorem dX5_tell_64 : decode cX5_tell 64 = .ok (.invokevirtual 48, 3) := by decide +kernel
theorem dX5_tell_67 : decode cX5_tell 67 = .ok (.invokevirtual 215, 3) := by decide +kernel
theorem dX5_tell_70 : decode cX5_tell 70 = .ok (.aload_n 0, 1) := by decide +kernel
theorem dX5_tell_71 : decode cX5_tell 71 = .ok (.bipush 116, 2) := by decide +kernel
theorem dX5_tell_73 : decode cX5_tell 73 = .ok (.invokevirtual 218, 3) := by decide +kernel
theorem dX5_tell_76 : decode cX5_tell 76 = .ok (.aload_n 0, 1) := by decide +kernel
theorem dX5_tell_77 : decode cX5_tell 77 = .ok (.aload_n 0, 1) := by decide +kernel
theorem dX5_tell_78 : decode cX5_tell 78 = .ok (.iload_n 1, 1) := by decide +kernel
theorem dX5_tell_79 : decode cX5_tell 79 = .ok (.iconst 3, 1) := by decide +kernel
theorem dX5_tell_80 : decode cX5_tell 80 = .ok (.invokevirtual 48, 3) := by decide +kernel
theorem dX5_tell_83 : decode cX5_tell 83 = .ok (.invokevirtual 215, 3) := by decide +kernel
theorem dX5_tell_86 : decode cX5_tell 86 = .ok (.aload_n 0, 1) := by decide +kernel
theorem dX5_tell_87 : decode cX5_tell 87 = .ok (.iload_n 1, 1) := by decide +kernel
theorem dX5_tell_88 : decode cX5_tell 88 = .ok (.iconst 4, 1) := by decide +kernel
theorem dX5_tell_89 : decode cX5_tell 89 = .ok (.invokevirtual 48, 3) := by decide +kernel
theorem dX5_tell_92 : decode cX5_tell 92 = .ok (.ifCond .ne 9, 3) := by decide +kernel
theorem dX5_tell_95 : decode cX5_tell 95 = .ok (.aload_n 0, 1) := by decide +kernel
theorem dX5_tell_96 : decode cX5_tell 96 = .ok (.bipush 95, 2) := by decide +kernel
theorem dX5_tell_98 : decode cX5_tell 98 = .ok (.invokevirtual 218, 3) := by decide +kernel
theorem dX5_tell_101 : decode cX5_tell 101 = .ok (.aload_n 0, 1) := by decide +kernel
theorem dX5_tell_102 : decode cX5_tell 102 = .ok (.iload_n 1, 1) := by decide +kernel
theorem dX5_tell_103 : decode cX5_tell 103 = .ok (.bipush 7, 2) := by decide +kernel
theorem dX5_tell_105 : decode cX5_tell 105 = .ok (.invokevirtual 48, 3) := by decide +kernel
theorem dX5_tell_108 : decode cX5_tell 108 = .ok (.iconst 1, 1) := by decide +kernel
theorem dX5_tell_109 : decode cX5_tell 109 = .ok (.if_icmp .ne 9, 3) := by decide +kernel
theorem dX5_tell_112 : decode cX5_tell 112 = .ok (.aload_n 0, 1) := by decide +kernel
theorem dX5_tell_113 : decode cX5_tell 113 = .ok (.bipush 35, 2) := by decide +kernel
theorem dX5_tell_115 : decode cX5_tell 115 = .ok (.invokevirtual 218, 3) := by decide +kernel
theorem dX5_tell_118 : decode cX5_tell 118 = .ok (.aload_n 0, 1) := by decide +kernel
theorem dX5_tell_119 : decode cX5_tell 119 = .ok (.iload_n 1, 1) := by decide +kernel
theorem dX5_tell_120 : decode cX5_tell 120 = .ok (.invokevirtual 52, 3) := by decide +kernel
theorem dX5_tell_123 : decode cX5_tell 123 = .ok (.ifCond .eq 21, 3) := by decide +kernel
theorem dX5_tell_126 : decode cX5_tell 126 = .ok (.aload_n 0, 1) := by decide +kernel
theorem dX5_tell_127 : decode cX5_tell 127 = .ok (.bipush 64, 2) := by decide +kernel
theorem dX5_tell_129 : decode cX5_tell 129 = .ok (.invokevirtual 218, 3) := by decide +kernel
theorem dX5_tell_132 : decode cX5_tell 132 = .ok (.aload_n 0, 1) := by decide +kernel
theorem dX5_tell_133 : decode cX5_tell 133 = .ok (.aload_n 0, 1) := by decide +kernel
theorem dX5_tell_134 : decode cX5_tell 134 = .ok (.iload_n 1, 1) := by decide +kernel
theorem dX5_tell_135 : decode cX5_tell 135 = .ok (.iconst 5, 1) := by decide +kernel
theorem dX5_tell_136 : decode cX5_tell 136 = .ok (.invokevirtual 48, 3) := by decide +kernel
theorem dX5_tell_139 : decode cX5_tell 139 = .ok (.iconst 1, 1) := by decide +kernel
theorem dX5_tell_140 : decode cX5_tell 140 = .ok (.isub, 1) := by decide +kernel
theorem dX5_tell_141 : decode cX5_tell 141 = .ok (.invokevirtual 215, 3) := by decide +kernel
theorem dX5_tell_144 : decode cX5_tell 144 = .ok (.aload_n 0, 1) := by decide +kernel
theorem dX5_tell_145 : decode cX5_tell 145 = .ok (.iload_n 1, 1) := by decide +kernel
theorem dX5_tell_146 : decode cX5_tell 146 = .ok (.invokevirtual 135, 3) := by decide +kernel
theorem dX5_tell_149 : decode cX5_tell 149 = .ok (.ifCond .eq 9, 3) := by decide +kernel
theorem dX5_tell_152 : decode cX5_tell 152 = .ok (.aload_n 0, 1) := by decide +kernel
theorem dX5_tell_153 : decode cX5_tell 153 = .ok (.bipush 33, 2) := by decide +kernel
theorem dX5_tell_155 : decode cX5_tell 155 = .ok (.invokevirtual 218, 3) := by decide +kernel
theorem dX5_tell_158 : decode cX5_tell 158 = .ok (.aload_n 0, 1) := by decide +kernel
theorem dX5_tell_159 : decode cX5_tell 159 = .ok (.iload_n 1, 1) := by decide +kernel
theorem dX5_tell_160 : decode cX5_tell 160 = .ok (.bipush 6, 2) := by decide +kernel
theorem dX5_tell_162 : decode cX5_tell 162 = .ok (.invokevirtual 48, 3) := by decide +kernel
theorem dX5_tell_165 : decode cX5_tell 165 = .ok (.ifCond .le 20, 3) := by decide +kernel
theorem dX5_tell_168 : decode cX5_tell 168 = .ok (.aload_n 0, 1) := by decide +kernel
theorem dX5_tell_169 : decode cX5_tell 169 = .ok (.bipush 120, 2) := by decide +kernel
theorem dX5_tell_171 : decode cX5_tell 171 = .ok (.invokevirtual 218, 3) := by decide +kernel
theorem dX5_tell_174 : decode cX5_tell 174 = .ok (.aload_n 0, 1) := by decide +kernel
theorem dX5_tell_175 : decode cX5_tell 175 = .ok (.aload_n 0, 1) := by decide +kernel
theorem dX5_tell_176 : decode cX5_tell 176 = .ok (.iload_n 1, 1) := by decide +kernel
theorem dX5_tell_177 : decode cX5_tell 177 = .ok (.bipush 6, 2) := by decide +kernel
theorem dX5_tell_179 : decode cX5_tell 179 = .ok (.invokevirtual 48, 3) := by decide +kernel
theorem dX5_tell_182 : decode cX5_tell 182 = .ok (.invokevirtual 215, 3) := by decide +kernel
theorem dX5_tell_185 : decode cX5_tell 185 = .ok (.aload_n 0, 1) := by decide +kernel
theorem dX5_tell_186 : decode cX5_tell 186 = .ok (.getfield 212, 3) := by decide +kernel
theorem dX5_tell_189 : decode cX5_tell 189 = .ok (.ireturn, 1) := by decide +kernel
theorem dX5_tellStoves_0 : decode cX5_tellStoves 0 = .ok (.aload_n 0, 1) := by decide +kernel
theorem dX5_tellStoves_1 : decode cX5_tellStoves 1 = .ok (.iconst 0, 1) := by decide +kernel
theorem dX5_tellStoves_2 : decode cX5_tellStoves 2 = .ok (.putfield 212, 3) := by decide +kernel
theorem dX5_tellStoves_5 : decode cX5_tellStoves 5 = .ok (.iconst 0, 1) := by decide +kernel
theorem dX5_tellStoves_6 : decode cX5_tellStoves 6 = .ok (.istore_n 1, 1) := by decide +kernel
theorem dX5_tellStoves_7 : decode cX5_tellStoves 7 = .ok (.iload_n 1, 1) := by decide +kernel
theorem dX5_tellStoves_8 : decode cX5_tellStoves 8 = .ok (.bipush 6, 2) := by decide +kernel
theorem dX5_tellStoves_10 : decode cX5_tellStoves 10 = .ok (.if_icmp .ge 54, 3) := by decide +kernel
theorem dX5_tellStoves_13 : decode cX5_tellStoves 13 = .ok (.aload_n 0, 1) := by decide +kernel
theorem dX5_tellStoves_14 : decode cX5_tellStoves 14 = .ok (.aload_n 0, 1) := by decide +kernel
theorem dX5_tellStoves_15 : decode cX5_tellStoves 15 = .ok (.getfield 9, 3) := by decide +kernel
theorem dX5_tellStoves_18 : decode cX5_tellStoves 18 = .ok (.bipush 29, 2) := by decide +kernel
theorem dX5_tellStoves_20 : decode cX5_tellStoves 20 = .ok (.iload_n 1, 1) := by decide +kernel
theorem dX5_tellStoves_21 : decode cX5_tellStoves 21 = .ok (.iadd, 1) := by decide +kernel
theorem dX5_tellStoves_22 : decode cX5_tellStoves 22 = .ok (.iaload, 1) := by decide +kernel
theorem dX5_tellStoves_23 : decode cX5_tellStoves 23 = .ok (.invokevirtual 215, 3) := by decide +kernel
theorem dX5_tellStoves_26 : decode cX5_tellStoves 26 = .ok (.aload_n 0, 1) := by decide +kernel
theorem dX5_tellStoves_27 : decode cX5_tellStoves 27 = .ok (.iload_n 1, 1) := by decide +kernel
theorem dX5_tellStoves_28 : decode cX5_tellStoves 28 = .ok (.invokevirtual 101, 3) := by decide +kernel
theorem dX5_tellStoves_31 : decode cX5_tellStoves 31 = .ok (.ifCond .ge 6, 3) := by decide +kernel
theorem dX5_tellStoves_34 : decode cX5_tellStoves 34 = .ok (.goto 24, 3) := by decide +kernel
theorem dX5_tellStoves_37 : decode cX5_tellStoves 37 = .ok (.aload_n 0, 1) := by decide +kernel
theorem dX5_tellStoves_38 : decode cX5_tellStoves 38 = .ok (.bipush 40, 2) := by decide +kernel
theorem dX5_tellStoves_40 : decode cX5_tellStoves 40 = .ok (.invokevirtual 218, 3) := by decide +kernel
theorem dX5_tellStoves_43 : decode cX5_tellStoves 43 = .ok (.aload_n 0, 1) := by decide +kernel
theorem dX5_tellStoves_44 : decode cX5_tellStoves 44 = .ok (.aload_n 0, 1) := by decide +kernel
theorem dX5_tellStoves_45 : decode cX5_tellStoves 45 = .ok (.iload_n 1, 1) := by decide +kernel
theorem dX5_tellStoves_46 : decode cX5_tellStoves 46 = .ok (.invokevirtual 101, 3) := by decide +kernel
theorem dX5_tellStoves_49 : decode cX5_tellStoves 49 = .ok (.invokevirtual 215, 3) := by decide +kernel
theorem dX5_tellStoves_52 : decode cX5_tellStoves 52 = .ok (.aload_n 0, 1) := by decide +kernel
theorem dX5_tellStoves_53 : decode cX5_tellStoves 53 = .ok (.bipush 41, 2) := by decide +kernel
theorem dX5_tellStoves_55 : decode cX5_tellStoves 55 = .ok (.invokevirtual 218, 3) := by decide +kernel
theorem dX5_tellStoves_58 : decode cX5_tellStoves 58 = .ok (.iinc 1 1, 3) := by decide +kernel
theorem dX5_tellStoves_61 : decode cX5_tellStoves 61 = .ok (.goto (-54), 3) := by decide +kernel
theorem dX5_tellStoves_64 : decode cX5_tellStoves 64 = .ok (.aload_n 0, 1) := by decide +kernel
theorem dX5_tellStoves_65 : decode cX5_tellStoves 65 = .ok (.getfield 212, 3) := by decide +kernel
theorem dX5_tellStoves_68 : decode cX5_tellStoves 68 = .ok (.ireturn, 1) := by decide +kernel
theorem dX5_character_0 : decode cX5_character 0 = .ok (.iload_n 1, 1) := by decide +kernel
theorem dX5_character_1 : decode cX5_character 1 = .ok (.iconst 0, 1) := by decide +kernel
theorem dX5_character_2 : decode cX5_character 2 = .ok (.aload_n 0, 1) := by decide +kernel
theorem dX5_character_3 : decode cX5_character 3 = .ok (.getfield 212, 3) := by decide +kernel
theorem dX5_character_6 : decode cX5_character 6 = .ok (.iconst 1, 1) := by decide +kernel
theorem dX5_character_7 : decode cX5_character 7 = .ok (.isub, 1) := by decide +kernel
theorem dX5_character_8 : decode cX5_character 8 = .ok (.invokestatic 40, 3) := by decide +kernel
theorem dX5_character_11 : decode cX5_character 11 = .ok (.ifCond .eq 12, 3) := by decide +kernel
theorem dX5_character_14 : decode cX5_character 14 = .ok (.aload_n 0, 1) := by decide +kernel
theorem dX5_character_15 : decode cX5_character 15 = .ok (.getfield 26, 3) := by decide +kernel
theorem dX5_character_18 : decode cX5_character 18 = .ok (.iload_n 1, 1) := by decide +kernel
theorem dX5_character_19 : decode cX5_character 19 = .ok (.caload, 1) := by decide +kernel
theorem dX5_character_20 : decode cX5_character 20 = .ok (.goto 6, 3) := by decide +kernel
theorem dX5_character_23 : decode cX5_character 23 = .ok (.sipush (-1011), 3) := by decide +kernel
theorem dX5_character_26 : decode cX5_character 26 = .ok (.ireturn, 1) := by decide +kernel
theorem dX5_ofKettles_0 : decode cX5_ofKettles 0 = .ok (.iconst 0, 1) := by decide +kernel
theorem dX5_ofKettles_1 : decode cX5_ofKettles 1 = .ok (.istore_n 2, 1) := by decide +kernel
theorem dX5_ofKettles_2 : decode cX5_ofKettles 2 = .ok (.iconst 0, 1) := by decide +kernel
theorem dX5_ofKettles_3 : decode cX5_ofKettles 3 = .ok (.istore_n 3, 1) := by decide +kernel
theorem dX5_ofKettles_4 : decode cX5_ofKettles 4 = .ok (.iload_n 3, 1) := by decide +kernel
theorem dX5_ofKettles_5 : decode cX5_ofKettles 5 = .ok (.aload_n 0, 1) := by decide +kernel
theorem dX5_ofKettles_6 : decode cX5_ofKettles 6 = .ok (.getfield 9, 3) := by decide +kernel
theorem dX5_ofKettles_9 : decode cX5_ofKettles 9 = .ok (.iconst 1, 1) := by decide +kernel
theorem dX5_ofKettles_10 : decode cX5_ofKettles 10 = .ok (.iaload, 1) := by decide +kernel
theorem dX5_ofKettles_11 : decode cX5_ofKettles 11 = .ok (.if_icmp .ge 48, 3) := by decide +kernel
theorem dX5_ofKettles_14 : decode cX5_ofKettles 14 = .ok (.iload_n 2, 1) := by decide +kernel
theorem dX5_ofKettles_15 : decode cX5_ofKettles 15 = .ok (.iload_n 1, 1) := by decide +kernel
theorem dX5_ofKettles_16 : decode cX5_ofKettles 16 = .ok (.ifCond .ne 19, 3) := by decide +kernel
theorem dX5_ofKettles_19 : decode cX5_ofKettles 19 = .ok (.aload_n 0, 1) := by decide +kernel
theorem dX5_ofKettles_20 : decode cX5_ofKettles 20 = .ok (.iload_n 3, 1) := by decide +kernel
theorem dX5_ofKettles_21 : decode cX5_ofKettles 21 = .ok (.invokevirtual 59, 3) := by decide +kernel
theorem dX5_ofKettles_24 : decode cX5_ofKettles 24 = .ok (.ifCond .eq 7, 3) := by decide +kernel
theorem dX5_ofKettles_27 : decode cX5_ofKettles 27 = .ok (.iconst 1, 1) := by decide +kernel
theorem dX5_ofKettles_28 : decode cX5_ofKettles 28 = .ok (.goto 23, 3) := by decide +kernel
theorem dX5_ofKettles_31 : decode cX5_ofKettles 31 = .ok (.iconst 0, 1) := by decide +kernel
theorem dX5_ofKettles_32 : decode cX5_ofKettles 32 = .ok (.goto 19, 3) := by decide +kernel
theorem dX5_ofKettles_35 : decode cX5_ofKettles 35 = .ok (.aload_n 0, 1) := by decide +kernel
theorem dX5_ofKettles_36 : decode cX5_ofKettles 36 = .ok (.iload_n 3, 1) := by decide +kernel
theorem dX5_ofKettles_37 : decode cX5_ofKettles 37 = .ok (.iload_n 1, 1) := by decide +kernel
theorem dX5_ofKettles_38 : decode cX5_ofKettles 38 = .ok (.iconst 1, 1) := by decide +kernel
theorem dX5_ofKettles_39 : decode cX5_ofKettles 39 = .ok (.if_icmp .ne 8, 3) := by decide +kernel
theorem dX5_ofKettles_42 : decode cX5_ofKettles 42 = .ok (.bipush 7, 2) := by decide +kernel
theorem dX5_ofKettles_44 : decode cX5_ofKettles 44 = .ok (.goto 4, 3) := by decide +kernel
theorem dX5_ofKettles_47 : decode cX5_ofKettles 47 = .ok (.iconst 2, 1) := by decide +kernel
theorem dX5_ofKettles_48 : decode cX5_ofKettles 48 = .ok (.invokevirtual 48, 3) := by decide +kernel
theorem dX5_ofKettles_51 : decode cX5_ofKettles 51 = .ok (.iadd, 1) := by decide +kernel
theorem dX5_ofKettles_52 : decode cX5_ofKettles 52 = .ok (.istore_n 2, 1) := by decide +kernel
theorem dX5_ofKettles_53 : decode cX5_ofKettles 53 = .ok (.iinc 3 1, 3) := by decide +kernel
theorem dX5_ofKettles_56 : decode cX5_ofKettles 56 = .ok (.goto (-52), 3) := by decide +kernel
theorem dX5_ofKettles_59 : decode cX5_ofKettles 59 = .ok (.iload_n 2, 1) := by decide +kernel
theorem dX5_ofKettles_60 : decode cX5_ofKettles 60 = .ok (.ireturn, 1) := by decide +kernel
theorem dX5_allPoints_0 : decode cX5_allPoints 0 = .ok (.iconst 0, 1) := by decide +kernel
theorem dX5_allPoints_1 : decode cX5_allPoints 1 = .ok (.istore_n 1, 1) := by decide +kernel
theorem dX5_allPoints_2 : decode cX5_allPoints 2 = .ok (.iconst 0, 1) := by decide +kernel
theorem dX5_allPoints_3 : decode cX5_allPoints 3 = .ok (.istore_n 2, 1) := by decide +kernel
theorem dX5_allPoints_4 : decode cX5_allPoints 4 = .ok (.iload_n 2, 1) := by decide +kernel
theorem dX5_allPoints_5 : decode cX5_allPoints 5 = .ok (.iconst 4, 1) := by decide +kernel
theorem dX5_allPoints_6 : decode cX5_allPoints 6 = .ok (.if_icmp .ge 18, 3) := by decide +kernel
theorem dX5_allPoints_9 : decode cX5_allPoints 9 = .ok (.iload_n 1, 1) := by decide +kernel
theorem dX5_allPoints_10 : decode cX5_allPoints 10 = .ok (.aload_n 0, 1) := by decide +kernel
theorem dX5_allPoints_11 : decode cX5_allPoints 11 = .ok (.iload_n 2, 1) := by decide +kernel
theorem dX5_allPoints_12 : decode cX5_allPoints 12 = .ok (.iconst 0, 1) := by decide +kernel
theorem dX5_allPoints_13 : decode cX5_allPoints 13 = .ok (.invokevirtual 165, 3) := by decide +kernel
theorem dX5_allPoints_16 : decode cX5_allPoints 16 = .ok (.iadd, 1) := by decide +kernel
theorem dX5_allPoints_17 : decode cX5_allPoints 17 = .ok (.istore_n 1, 1) := by decide +kernel
theorem dX5_allPoints_18 : decode cX5_allPoints 18 = .ok (.iinc 2 1, 3) := by decide +kernel
theorem dX5_allPoints_21 : decode cX5_allPoints 21 = .ok (.goto (-17), 3) := by decide +kernel
theorem dX5_allPoints_24 : decode cX5_allPoints 24 = .ok (.iload_n 1, 1) := by decide +kernel
theorem dX5_allPoints_25 : decode cX5_allPoints 25 = .ok (.ireturn, 1) := by decide +kernel
theorem dX5_account_0 : decode cX5_account 0 = .ok (.iload_n 1, 1) := by decide +kernel
theorem dX5_account_1 : decode cX5_account 1 = .ok (.tableswitch 133 0 12 #[67, 74, 79, 85, 90, 96, 103, 109, 109, 109, 118, 123, 128], 67) := by decide +kernel
theorem dX5_account_68 : decode cX5_account 68 = .ok (.aload_n 0, 1) := by decide +kernel
theorem dX5_account_69 : decode cX5_account 69 = .ok (.getfield 9, 3) := by decide +kernel
theorem dX5_account_72 : decode cX5_account 72 = .ok (.iconst 1, 1) := by decide +kernel
theorem dX5_account_73 : decode cX5_account 73 = .ok (.iaload, 1) := by decide +kernel
theorem dX5_account_74 : decode cX5_account 74 = .ok (.ireturn, 1) := by decide +kernel
theorem dX5_account_75 : decode cX5_account 75 = .ok (.aload_n 0, 1) := by decide +kernel
theorem dX5_account_76 : decode cX5_account 76 = .ok (.invokevirtual 110, 3) := by decide +kernel
theorem dX5_account_79 : decode cX5_account 79 = .ok (.ireturn, 1) := by decide +kernel
theorem dX5_account_80 : decode cX5_account 80 = .ok (.aload_n 0, 1) := by decide +kernel
theorem dX5_account_81 : decode cX5_account 81 = .ok (.iconst 0, 1) := by decide +kernel
theorem dX5_account_82 : decode cX5_account 82 = .ok (.invokevirtual 221, 3) := by decide +kernel
theorem dX5_account_85 : decode cX5_account 85 = .ok (.ireturn, 1) := by decide +kernel
theorem dX5_account_86 : decode cX5_account 86 = .ok (.aload_n 0, 1) := by decide +kernel
theorem dX5_account_87 : decode cX5_account 87 = .ok (.invokevirtual 123, 3) := by decide +kernel
theorem dX5_account_90 : decode cX5_account 90 = .ok (.ireturn, 1) := by decide +kernel
theorem dX5_account_91 : decode cX5_account 91 = .ok (.aload_n 0, 1) := by decide +kernel
theorem dX5_account_92 : decode cX5_account 92 = .ok (.iconst 1, 1) := by decide +kernel
theorem dX5_account_93 : decode cX5_account 93 = .ok (.invokevirtual 221, 3) := by decide +kernel
theorem dX5_account_96 : decode cX5_account 96 = .ok (.ireturn, 1) := by decide +kernel
theorem dX5_account_97 : decode cX5_account 97 = .ok (.aload_n 0, 1) := by decide +kernel
theorem dX5_account_98 : decode cX5_account 98 = .ok (.getfield 9, 3) := by decide +kernel
theorem dX5_account_101 : decode cX5_account 101 = .ok (.iconst 0, 1) := by decide +kernel
theorem dX5_account_102 : decode cX5_account 102 = .ok (.iaload, 1) := by decide +kernel
theorem dX5_account_103 : decode cX5_account 103 = .ok (.ireturn, 1) := by decide +kernel
theorem dX5_account_104 : decode cX5_account 104 = .ok (.aload_n 0, 1) := by decide +kernel
theorem dX5_account_105 : decode cX5_account 105 = .ok (.iconst 2, 1) := by decide +kernel
theorem dX5_account_106 : decode cX5_account 106 = .ok (.invokevirtual 221, 3) := by decide +kernel
theorem dX5_account_109 : decode cX5_account 109 = .ok (.ireturn, 1) := by decide +kernel
theorem dX5_account_110 : decode cX5_account 110 = .ok (.aload_n 0, 1) := by decide +kernel
theorem dX5_account_111 : decode cX5_account 111 = .ok (.getfield 9, 3) := by decide +kernel
theorem dX5_account_114 : decode cX5_account 114 = .ok (.iload_n 1, 1) := by decide +kernel
theorem dX5_account_115 : decode cX5_account 115 = .ok (.iconst 5, 1) := by decide +kernel
theorem dX5_account_116 : decode cX5_account 116 = .ok (.isub, 1) := by decide +kernel
theorem dX5_account_117 : decode cX5_account 117 = .ok (.iaload, 1) := by decide +kernel
theorem dX5_account_118 : decode cX5_account 118 = .ok (.ireturn, 1) := by decide +kernel
theorem dX5_account_119 : decode cX5_account 119 = .ok (.aload_n 0, 1) := by decide +kernel
theorem dX5_account_120 : decode cX5_account 120 = .ok (.invokevirtual 224, 3) := by decide +kernel
theorem dX5_account_123 : decode cX5_account 123 = .ok (.ireturn, 1) := by decide +kernel
theorem dX5_account_124 : decode cX5_account 124 = .ok (.aload_n 0, 1) := by decide +kernel
theorem dX5_account_125 : decode cX5_account 125 = .ok (.getfield 172, 3) := by decide +kernel
theorem dX5_account_128 : decode cX5_account 128 = .ok (.ireturn, 1) := by decide +kernel
theorem dX5_account_129 : decode cX5_account 129 = .ok (.aload_n 0, 1) := by decide +kernel
theorem dX5_account_130 : decode cX5_account 130 = .ok (.getfield 33, 3) := by decide +kernel
theorem dX5_account_133 : decode cX5_account 133 = .ok (.ireturn, 1) := by decide +kernel
theorem dX5_account_134 : decode cX5_account 134 = .ok (.sipush (-1012), 3) := by decide +kernel
theorem dX5_account_137 : decode cX5_account 137 = .ok (.ireturn, 1) := by decide +kernel
theorem dX5_isBalanced_0 : decode cX5_isBalanced 0 = .ok (.iconst 1, 1) := by decide +kernel
theorem dX5_isBalanced_1 : decode cX5_isBalanced 1 = .ok (.ireturn, 1) := by decide +kernel
theorem dX5_meanWater_0 : decode cX5_meanWater 0 = .ok (.aload_n 0, 1) := by decide +kernel
theorem dX5_meanWater_1 : decode cX5_meanWater 1 = .ok (.getfield 9, 3) := by decide +kernel
theorem dX5_meanWater_4 : decode cX5_meanWater 4 = .ok (.iconst 1, 1) := by decide +kernel
theorem dX5_meanWater_5 : decode cX5_meanWater 5 = .ok (.iaload, 1) := by decide +kernel
theorem dX5_meanWater_6 : decode cX5_meanWater 6 = .ok (.ifCond .ne 7, 3) := by decide +kernel
theorem dX5_meanWater_9 : decode cX5_meanWater 9 = .ok (.dconst 0, 1) := by decide +kernel
theorem dX5_meanWater_10 : decode cX5_meanWater 10 = .ok (.goto 17, 3) := by decide +kernel
theorem dX5_meanWater_13 : decode cX5_meanWater 13 = .ok (.aload_n 0, 1) := by decide +kernel
theorem dX5_meanWater_14 : decode cX5_meanWater 14 = .ok (.iconst 2, 1) := by decide +kernel
theorem dX5_meanWater_15 : decode cX5_meanWater 15 = .ok (.invokevirtual 221, 3) := by decide +kernel
theorem dX5_meanWater_18 : decode cX5_meanWater 18 = .ok (.i2d, 1) := by decide +kernel
theorem dX5_meanWater_19 : decode cX5_meanWater 19 = .ok (.aload_n 0, 1) := by decide +kernel
theorem dX5_meanWater_20 : decode cX5_meanWater 20 = .ok (.getfield 9, 3) := by decide +kernel
theorem dX5_meanWater_23 : decode cX5_meanWater 23 = .ok (.iconst 1, 1) := by decide +kernel
theorem dX5_meanWater_24 : decode cX5_meanWater 24 = .ok (.iaload, 1) := by decide +kernel
theorem dX5_meanWater_25 : decode cX5_meanWater 25 = .ok (.i2d, 1) := by decide +kernel
theorem dX5_meanWater_26 : decode cX5_meanWater 26 = .ok (.ddiv, 1) := by decide +kernel
theorem dX5_meanWater_27 : decode cX5_meanWater 27 = .ok (.dreturn, 1) := by decide +kernel
theorem dX5_whistleShare_0 : decode cX5_whistleShare 0 = .ok (.aload_n 0, 1) := by decide +kernel
theorem dX5_whistleShare_1 : decode cX5_whistleShare 1 = .ok (.invokevirtual 110, 3) := by decide +kernel
theorem dX5_whistleShare_4 : decode cX5_whistleShare 4 = .ok (.ifCond .ne 7, 3) := by decide +kernel
theorem dX5_whistleShare_7 : decode cX5_whistleShare 7 = .ok (.fconst 0, 1) := by decide +kernel
theorem dX5_whistleShare_8 : decode cX5_whistleShare 8 = .ok (.goto 17, 3) := by decide +kernel
theorem dX5_whistleShare_11 : decode cX5_whistleShare 11 = .ok (.aload_n 0, 1) := by decide +kernel
theorem dX5_whistleShare_12 : decode cX5_whistleShare 12 = .ok (.invokevirtual 227, 3) := by decide +kernel
theorem dX5_whistleShare_15 : decode cX5_whistleShare 15 = .ok (.invokestatic 129, 3) := by decide +kernel
theorem dX5_whistleShare_18 : decode cX5_whistleShare 18 = .ok (.i2f, 1) := by decide +kernel
theorem dX5_whistleShare_19 : decode cX5_whistleShare 19 = .ok (.aload_n 0, 1) := by decide +kernel
theorem dX5_whistleShare_20 : decode cX5_whistleShare 20 = .ok (.invokevirtual 110, 3) := by decide +kernel
theorem dX5_whistleShare_23 : decode cX5_whistleShare 23 = .ok (.i2f, 1) := by decide +kernel
theorem dX5_whistleShare_24 : decode cX5_whistleShare 24 = .ok (.fdiv, 1) := by decide +kernel
theorem dX5_whistleShare_25 : decode cX5_whistleShare 25 = .ok (.freturn, 1) := by decide +kernel
theorem dX5_undo_0 : decode cX5_undo 0 = .ok (.aload_n 0, 1) := by decide +kernel
theorem dX5_undo_1 : decode cX5_undo 1 = .ok (.getfield 33, 3) := by decide +kernel
theorem dX5_undo_4 : decode cX5_undo 4 = .ok (.ifCond .ne 7, 3) := by decide +kernel
theorem dX5_undo_7 : decode cX5_undo 7 = .ok (.sipush (-1015), 3) := by decide +kernel
theorem dX5_undo_10 : decode cX5_undo 10 = .ok (.ireturn, 1) := by decide +kernel
theorem dX5_undo_11 : decode cX5_undo 11 = .ok (.aload_n 0, 1) := by decide +kernel
theorem dX5_undo_12 : decode cX5_undo 12 = .ok (.aload_n 0, 1) := by decide +kernel
theorem dX5_undo_13 : decode cX5_undo 13 = .ok (.getfield 33, 3) := by decide +kernel
theorem dX5_undo_16 : decode cX5_undo 16 = .ok (.iconst 0, 1) := by decide +kernel
theorem dX5_undo_17 : decode cX5_undo 17 = .ok (.invokevirtual 29, 3) := by decide +kernel
theorem dX5_undo_20 : decode cX5_undo 20 = .ok (.aload_n 0, 1) := by decide +kernel
theorem dX5_undo_21 : decode cX5_undo 21 = .ok (.dup, 1) := by decide +kernel
theorem dX5_undo_22 : decode cX5_undo 22 = .ok (.getfield 33, 3) := by decide +kernel
theorem dX5_undo_25 : decode cX5_undo 25 = .ok (.iconst 1, 1) := by decide +kernel
theorem dX5_undo_26 : decode cX5_undo 26 = .ok (.isub, 1) := by decide +kernel
theorem dX5_undo_27 : decode cX5_undo 27 = .ok (.putfield 33, 3) := by decide +kernel
theorem dX5_undo_30 : decode cX5_undo 30 = .ok (.aload_n 0, 1) := by decide +kernel
theorem dX5_undo_31 : decode cX5_undo 31 = .ok (.getfield 33, 3) := by decide +kernel
theorem dX5_undo_34 : decode cX5_undo 34 = .ok (.ireturn, 1) := by decide +kernel
theorem dX5_save_0 : decode cX5_save 0 = .ok (.aload_n 0, 1) := by decide +kernel
theorem dX5_save_1 : decode cX5_save 1 = .ok (.iconst 1, 1) := by decide +kernel
theorem dX5_save_2 : decode cX5_save 2 = .ok (.putfield 230, 3) := by decide +kernel
theorem dX5_save_5 : decode cX5_save 5 = .ok (.aload_n 0, 1) := by decide +kernel
theorem dX5_save_6 : decode cX5_save 6 = .ok (.iconst 0, 1) := by decide +kernel
theorem dX5_save_7 : decode cX5_save 7 = .ok (.bipush 9, 2) := by decide +kernel
theorem dX5_save_9 : decode cX5_save 9 = .ok (.invokevirtual 29, 3) := by decide +kernel
theorem dX5_save_12 : decode cX5_save 12 = .ok (.aload_n 0, 1) := by decide +kernel
theorem dX5_save_13 : decode cX5_save 13 = .ok (.getfield 9, 3) := by decide +kernel
theorem dX5_save_16 : decode cX5_save 16 = .ok (.iconst 1, 1) := by decide +kernel
theorem dX5_save_17 : decode cX5_save 17 = .ok (.iaload, 1) := by decide +kernel
theorem dX5_save_18 : decode cX5_save 18 = .ok (.ireturn, 1) := by decide +kernel
theorem dX5_restore_0 : decode cX5_restore 0 = .ok (.aload_n 0, 1) := by decide +kernel
theorem dX5_restore_1 : decode cX5_restore 1 = .ok (.getfield 230, 3) := by decide +kernel
theorem dX5_restore_4 : decode cX5_restore 4 = .ok (.ifCond .ne 7, 3) := by decide +kernel
theorem dX5_restore_7 : decode cX5_restore 7 = .ok (.sipush (-1015), 3) := by decide +kernel
theorem dX5_restore_10 : decode cX5_restore 10 = .ok (.ireturn, 1) := by decide +kernel
theorem dX5_restore_11 : decode cX5_restore 11 = .ok (.aload_n 0, 1) := by decide +kernel
theorem dX5_restore_12 : decode cX5_restore 12 = .ok (.bipush 9, 2) := by decide +kernel
theorem dX5_restore_14 : decode cX5_restore 14 = .ok (.iconst 0, 1) := by decide +kernel
theorem dX5_restore_15 : decode cX5_restore 15 = .ok (.invokevirtual 29, 3) := by decide +kernel
theorem dX5_restore_18 : decode cX5_restore 18 = .ok (.aload_n 0, 1) := by decide +kernel
theorem dX5_restore_19 : decode cX5_restore 19 = .ok (.iconst 0, 1) := by decide +kernel
theorem dX5_restore_20 : decode cX5_restore 20 = .ok (.putfield 33, 3) := by decide +kernel
theorem dX5_restore_23 : decode cX5_restore 23 = .ok (.aload_n 0, 1) := by decide +kernel
theorem dX5_restore_24 : decode cX5_restore 24 = .ok (.getfield 9, 3) := by decide +kernel
theorem dX5_restore_27 : decode cX5_restore 27 = .ok (.iconst 1, 1) := by decide +kernel
theorem dX5_restore_28 : decode cX5_restore 28 = .ok (.iaload, 1) := by decide +kernel
theorem dX5_restore_29 : decode cX5_restore 29 = .ok (.ireturn, 1) := by decide +kernel
end
section
theorem dX4_init_0 : decode cX4_init 0 = .ok (.aload_n 0, 1) := by decide +kernel
theorem dX4_init_1 : decode cX4_init 1 = .ok (.invokespecial 1, 3) := by decide +kernel
theorem dX4_init_4 : decode cX4_init 4 = .ok (.aload_n 0, 1) := by decide +kernel
theorem dX4_init_5 : decode cX4_init 5 = .ok (.new 7, 3) := by decide +kernel
theorem dX4_init_8 : decode cX4_init 8 = .ok (.dup, 1) := by decide +kernel
theorem dX4_init_9 : decode cX4_init 9 = .ok (.invokespecial 9, 3) := by decide +kernel
theorem dX4_init_12 : decode cX4_init 12 = .ok (.putfield 10, 3) := by decide +kernel
theorem dX4_init_15 : decode cX4_init 15 = .ok (.aload_n 0, 1) := by decide +kernel
theorem dX4_init_16 : decode cX4_init 16 = .ok (.new 7, 3) := by decide +kernel
theorem dX4_init_19 : decode cX4_init 19 = .ok (.dup, 1) := by decide +kernel
theorem dX4_init_20 : decode cX4_init 20 = .ok (.invokespecial 9, 3) := by decide +kernel
theorem dX4_init_23 : decode cX4_init 23 = .ok (.putfield 16, 3) := by decide +kernel
theorem dX4_init_26 : decode cX4_init 26 = .ok (.aload_n 0, 1) := by decide +kernel
theorem dX4_init_27 : decode cX4_init 27 = .ok (.new 19, 3) := by decide +kernel
theorem dX4_init_30 : decode cX4_init 30 = .ok (.dup, 1) := by decide +kernel
theorem dX4_init_31 : decode cX4_init 31 = .ok (.invokespecial 21, 3) := by decide +kernel
theorem dX4_init_34 : decode cX4_init 34 = .ok (.putfield 22, 3) := by decide +kernel
theorem dX4_init_37 : decode cX4_init 37 = .ok (.aload_n 0, 1) := by decide +kernel
theorem dX4_init_38 : decode cX4_init 38 = .ok (.new 26, 3) := by decide +kernel
theorem dX4_init_41 : decode cX4_init 41 = .ok (.dup, 1) := by decide +kernel
theorem dX4_init_42 : decode cX4_init 42 = .ok (.invokespecial 28, 3) := by decide +kernel
theorem dX4_init_45 : decode cX4_init 45 = .ok (.putfield 29, 3) := by decide +kernel
theorem dX4_init_48 : decode cX4_init 48 = .ok (.aload_n 0, 1) := by decide +kernel
theorem dX4_init_49 : decode cX4_init 49 = .ok (.new 33, 3) := by decide +kernel
theorem dX4_init_52 : decode cX4_init 52 = .ok (.dup, 1) := by decide +kernel
theorem dX4_init_53 : decode cX4_init 53 = .ok (.invokespecial 35, 3) := by decide +kernel
theorem dX4_init_56 : decode cX4_init 56 = .ok (.putfield 36, 3) := by decide +kernel
theorem dX4_init_59 : decode cX4_init 59 = .ok (.aload_n 0, 1) := by decide +kernel
theorem dX4_init_60 : decode cX4_init 60 = .ok (.new 40, 3) := by decide +kernel
theorem dX4_init_63 : decode cX4_init 63 = .ok (.dup, 1) := by decide +kernel
theorem dX4_init_64 : decode cX4_init 64 = .ok (.invokespecial 42, 3) := by decide +kernel
theorem dX4_init_67 : decode cX4_init 67 = .ok (.putfield 43, 3) := by decide +kernel
theorem dX4_init_70 : decode cX4_init 70 = .ok (.return_, 1) := by decide +kernel
theorem dX4_own_0 : decode cX4_own 0 = .ok (.aload_n 0, 1) := by decide +kernel
theorem dX4_own_1 : decode cX4_own 1 = .ok (.getfield 22, 3) := by decide +kernel
theorem dX4_own_4 : decode cX4_own 4 = .ok (.aload_n 0, 1) := by decide +kernel
theorem dX4_own_5 : decode cX4_own 5 = .ok (.getfield 10, 3) := by decide +kernel
theorem dX4_own_8 : decode cX4_own 8 = .ok (.invokevirtual 47, 3) := by decide +kernel
theorem dX4_own_11 : decode cX4_own 11 = .ok (.aload_n 0, 1) := by decide +kernel
theorem dX4_own_12 : decode cX4_own 12 = .ok (.aload_n 0, 1) := by decide +kernel
theorem dX4_own_13 : decode cX4_own 13 = .ok (.iload_n 1, 1) := by decide +kernel
theorem dX4_own_14 : decode cX4_own 14 = .ok (.iload_n 2, 1) := by decide +kernel
theorem dX4_own_15 : decode cX4_own 15 = .ok (.invokevirtual 51, 3) := by decide +kernel
theorem dX4_own_18 : decode cX4_own 18 = .ok (.invokevirtual 55, 3) := by decide +kernel
theorem dX4_own_21 : decode cX4_own 21 = .ok (.ireturn, 1) := by decide +kernel
theorem dX4_owner_0 : decode cX4_owner 0 = .ok (.iload_n 1, 1) := by decide +kernel
theorem dX4_owner_1 : decode cX4_owner 1 = .ok (.invokestatic 59, 3) := by decide +kernel
theorem dX4_owner_4 : decode cX4_owner 4 = .ok (.ifCond .ne 7, 3) := by decide +kernel
theorem dX4_owner_7 : decode cX4_owner 7 = .ok (.sipush (-1012), 3) := by decide +kernel
theorem dX4_owner_10 : decode cX4_owner 10 = .ok (.ireturn, 1) := by decide +kernel
theorem dX4_owner_11 : decode cX4_owner 11 = .ok (.aload_n 0, 1) := by decide +kernel
theorem dX4_owner_12 : decode cX4_owner 12 = .ok (.getfield 10, 3) := by decide +kernel
theorem dX4_owner_15 : decode cX4_owner 15 = .ok (.getfield 63, 3) := by decide +kernel
theorem dX4_owner_18 : decode cX4_owner 18 = .ok (.iload_n 1, 1) := by decide +kernel
theorem dX4_owner_19 : decode cX4_owner 19 = .ok (.iaload, 1) := by decide +kernel
theorem dX4_owner_20 : decode cX4_owner 20 = .ok (.invokestatic 67, 3) := by decide +kernel
theorem dX4_owner_23 : decode cX4_owner 23 = .ok (.ireturn, 1) := by decide +kernel
theorem dX4_kettle_0 : decode cX4_kettle 0 = .ok (.aload_n 0, 1) := by decide +kernel
theorem dX4_kettle_1 : decode cX4_kettle 1 = .ok (.getfield 22, 3) := by decide +kernel
theorem dX4_kettle_4 : decode cX4_kettle 4 = .ok (.aload_n 0, 1) := by decide +kernel
theorem dX4_kettle_5 : decode cX4_kettle 5 = .ok (.getfield 10, 3) := by decide +kernel
theorem dX4_kettle_8 : decode cX4_kettle 8 = .ok (.invokevirtual 47, 3) := by decide +kernel
theorem dX4_kettle_11 : decode cX4_kettle 11 = .ok (.aload_n 0, 1) := by decide +kernel
theorem dX4_kettle_12 : decode cX4_kettle 12 = .ok (.aload_n 0, 1) := by decide +kernel
theorem dX4_kettle_13 : decode cX4_kettle 13 = .ok (.iload_n 1, 1) := by decide +kernel
theorem dX4_kettle_14 : decode cX4_kettle 14 = .ok (.iload_n 2, 1) := by decide +kernel
theorem dX4_kettle_15 : decode cX4_kettle 15 = .ok (.iload_n 3, 1) := by decide +kernel
theorem dX4_kettle_16 : decode cX4_kettle 16 = .ok (.invokevirtual 70, 3) := by decide +kernel
theorem dX4_kettle_19 : decode cX4_kettle 19 = .ok (.invokevirtual 55, 3) := by decide +kernel
theorem dX4_kettle_22 : decode cX4_kettle 22 = .ok (.ireturn, 1) := by decide +kernel
theorem dX4_fill_0 : decode cX4_fill 0 = .ok (.aload_n 0, 1) := by decide +kernel
theorem dX4_fill_1 : decode cX4_fill 1 = .ok (.getfield 22, 3) := by decide +kernel
theorem dX4_fill_4 : decode cX4_fill 4 = .ok (.aload_n 0, 1) := by decide +kernel
theorem dX4_fill_5 : decode cX4_fill 5 = .ok (.getfield 10, 3) := by decide +kernel
theorem dX4_fill_8 : decode cX4_fill 8 = .ok (.invokevirtual 47, 3) := by decide +kernel
theorem dX4_fill_11 : decode cX4_fill 11 = .ok (.aload_n 0, 1) := by decide +kernel
theorem dX4_fill_12 : decode cX4_fill 12 = .ok (.aload_n 0, 1) := by decide +kernel
theorem dX4_fill_13 : decode cX4_fill 13 = .ok (.iload_n 1, 1) := by decide +kernel
theorem dX4_fill_14 : decode cX4_fill 14 = .ok (.iload_n 2, 1) := by decide +kernel
theorem dX4_fill_15 : decode cX4_fill 15 = .ok (.invokevirtual 74, 3) := by decide +kernel
theorem dX4_fill_18 : decode cX4_fill 18 = .ok (.invokevirtual 55, 3) := by decide +kernel
theorem dX4_fill_21 : decode cX4_fill 21 = .ok (.ireturn, 1) := by decide +kernel
theorem dX4_kettleOf_0 : decode cX4_kettleOf 0 = .ok (.aload_n 0, 1) := by decide +kernel
theorem dX4_kettleOf_1 : decode cX4_kettleOf 1 = .ok (.iload_n 1, 1) := by decide +kernel
theorem dX4_kettleOf_2 : decode cX4_kettleOf 2 = .ok (.invokevirtual 77, 3) := by decide +kernel
theorem dX4_kettleOf_5 : decode cX4_kettleOf 5 = .ok (.ifCond .ne 7, 3) := by decide +kernel
theorem dX4_kettleOf_8 : decode cX4_kettleOf 8 = .ok (.sipush (-1011), 3) := by decide +kernel
theorem dX4_kettleOf_11 : decode cX4_kettleOf 11 = .ok (.ireturn, 1) := by decide +kernel
theorem dX4_kettleOf_12 : decode cX4_kettleOf 12 = .ok (.iload_n 2, 1) := by decide +kernel
theorem dX4_kettleOf_13 : decode cX4_kettleOf 13 = .ok (.tableswitch 175 0 9 #[55, 65, 75, 85, 95, 105, 118, 135, 152, 162], 55) := by decide +kernel
theorem dX4_kettleOf_68 : decode cX4_kettleOf 68 = .ok (.aload_n 0, 1) := by decide +kernel
theorem dX4_kettleOf_69 : decode cX4_kettleOf 69 = .ok (.getfield 10, 3) := by decide +kernel
theorem dX4_kettleOf_72 : decode cX4_kettleOf 72 = .ok (.getfield 80, 3) := by decide +kernel
theorem dX4_kettleOf_75 : decode cX4_kettleOf 75 = .ok (.iload_n 1, 1) := by decide +kernel
theorem dX4_kettleOf_76 : decode cX4_kettleOf 76 = .ok (.iaload, 1) := by decide +kernel
theorem dX4_kettleOf_77 : decode cX4_kettleOf 77 = .ok (.ireturn, 1) := by decide +kernel
theorem dX4_kettleOf_78 : decode cX4_kettleOf 78 = .ok (.aload_n 0, 1) := by decide +kernel
theorem dX4_kettleOf_79 : decode cX4_kettleOf 79 = .ok (.getfield 10, 3) := by decide +kernel
theorem dX4_kettleOf_82 : decode cX4_kettleOf 82 = .ok (.getfield 83, 3) := by decide +kernel
theorem dX4_kettleOf_85 : decode cX4_kettleOf 85 = .ok (.iload_n 1, 1) := by decide +kernel
theorem dX4_kettleOf_86 : decode cX4_kettleOf 86 = .ok (.iaload, 1) := by decide +kernel
theorem dX4_kettleOf_87 : decode cX4_kettleOf 87 = .ok (.ireturn, 1) := by decide +kernel
theorem dX4_kettleOf_88 : decode cX4_kettleOf 88 = .ok (.aload_n 0, 1) := by decide +kernel
theorem dX4_kettleOf_89 : decode cX4_kettleOf 89 = .ok (.getfield 10, 3) := by decide +kernel
theorem dX4_kettleOf_92 : decode cX4_kettleOf 92 = .ok (.getfield 86, 3) := by decide +kernel
theorem dX4_kettleOf_95 : decode cX4_kettleOf 95 = .ok (.iload_n 1, 1) := by decide +kernel
theorem dX4_kettleOf_96 : decode cX4_kettleOf 96 = .ok (.iaload, 1) := by decide +kernel
theorem dX4_kettleOf_97 : decode cX4_kettleOf 97 = .ok (.ireturn, 1) := by decide +kernel
theorem dX4_kettleOf_98 : decode cX4_kettleOf 98 = .ok (.aload_n 0, 1) := by decide +kernel
theorem dX4_kettleOf_99 : decode cX4_kettleOf 99 = .ok (.getfield 10, 3) := by decide +kernel
theorem dX4_kettleOf_102 : decode cX4_kettleOf 102 = .ok (.getfield 89, 3) := by decide +kernel
theorem dX4_kettleOf_105 : decode cX4_kettleOf 105 = .ok (.iload_n 1, 1) := by decide +kernel
theorem dX4_kettleOf_106 : decode cX4_kettleOf 106 = .ok (.iaload, 1) := by decide +kernel
theorem dX4_kettleOf_107 : decode cX4_kettleOf 107 = .ok (.ireturn, 1) := by decide +kernel
theorem dX4_kettleOf_108 : decode cX4_kettleOf 108 = .ok (.aload_n 0, 1) := by decide +kernel
theorem dX4_kettleOf_109 : decode cX4_kettleOf 109 = .ok (.getfield 10, 3) := by decide +kernel
theorem dX4_kettleOf_112 : decode cX4_kettleOf 112 = .ok (.getfield 92, 3) := by decide +kernel
theorem dX4_kettleOf_115 : decode cX4_kettleOf 115 = .ok (.iload_n 1, 1) := by decide +kernel
theorem dX4_kettleOf_116 : decode cX4_kettleOf 116 = .ok (.iaload, 1) := by decide +kernel
theorem dX4_kettleOf_117 : decode cX4_kettleOf 117 = .ok (.ireturn, 1) := by decide +kernel
theorem dX4_kettleOf_118 : decode cX4_kettleOf 118 = .ok (.aload_n 0, 1) := by decide +kernel
theorem dX4_kettleOf_119 : decode cX4_kettleOf 119 = .ok (.getfield 10, 3) := by decide +kernel
theorem dX4_kettleOf_122 : decode cX4_kettleOf 122 = .ok (.getfield 95, 3) := by decide +kernel
theorem dX4_kettleOf_125 : decode cX4_kettleOf 125 = .ok (.iload_n 1, 1) := by decide +kernel
theorem dX4_kettleOf_126 : decode cX4_kettleOf 126 = .ok (.iaload, 1) := by decide +kernel
theorem dX4_kettleOf_127 : decode cX4_kettleOf 127 = .ok (.invokestatic 67, 3) := by decide +kernel
theorem dX4_kettleOf_130 : decode cX4_kettleOf 130 = .ok (.ireturn, 1) := by decide +kernel
theorem dX4_kettleOf_131 : decode cX4_kettleOf 131 = .ok (.aload_n 0, 1) := by decide +kernel
theorem dX4_kettleOf_132 : decode cX4_kettleOf 132 = .ok (.getfield 10, 3) := by decide +kernel
theorem dX4_kettleOf_135 : decode cX4_kettleOf 135 = .ok (.iload_n 1, 1) := by decide +kernel
theorem dX4_kettleOf_136 : decode cX4_kettleOf 136 = .ok (.invokevirtual 98, 3) := by decide +kernel
theorem dX4_kettleOf_139 : decode cX4_kettleOf 139 = .ok (.ifCond .eq 7, 3) := by decide +kernel
theorem dX4_kettleOf_142 : decode cX4_kettleOf 142 = .ok (.iconst 1, 1) := by decide +kernel
theorem dX4_kettleOf_143 : decode cX4_kettleOf 143 = .ok (.goto 4, 3) := by decide +kernel
theorem dX4_kettleOf_146 : decode cX4_kettleOf 146 = .ok (.iconst 0, 1) := by decide +kernel
theorem dX4_kettleOf_147 : decode cX4_kettleOf 147 = .ok (.ireturn, 1) := by decide +kernel
theorem dX4_kettleOf_148 : decode cX4_kettleOf 148 = .ok (.aload_n 0, 1) := by decide +kernel
theorem dX4_kettleOf_149 : decode cX4_kettleOf 149 = .ok (.getfield 10, 3) := by decide +kernel
theorem dX4_kettleOf_152 : decode cX4_kettleOf 152 = .ok (.iload_n 1, 1) := by decide +kernel
theorem dX4_kettleOf_153 : decode cX4_kettleOf 153 = .ok (.invokevirtual 101, 3) := by decide +kernel
theorem dX4_kettleOf_156 : decode cX4_kettleOf 156 = .ok (.ifCond .eq 7, 3) := by decide +kernel
theorem dX4_kettleOf_159 : decode cX4_kettleOf 159 = .ok (.iconst 1, 1) := by decide +kernel
theorem dX4_kettleOf_160 : decode cX4_kettleOf 160 = .ok (.goto 4, 3) := by decide +kernel
theorem dX4_kettleOf_163 : decode cX4_kettleOf 163 = .ok (.iconst 0, 1) := by decide +kernel
theorem dX4_kettleOf_164 : decode cX4_kettleOf 164 = .ok (.ireturn, 1) := by decide +kernel
theorem dX4_kettleOf_165 : decode cX4_kettleOf 165 = .ok (.aload_n 0, 1) := by decide +kernel
theorem dX4_kettleOf_166 : decode cX4_kettleOf 166 = .ok (.getfield 10, 3) := by decide +kernel
theorem dX4_kettleOf_169 : decode cX4_kettleOf 169 = .ok (.getfield 104, 3) := by decide +kernel
theorem dX4_kettleOf_172 : decode cX4_kettleOf 172 = .ok (.iload_n 1, 1) := by decide +kernel
theorem dX4_kettleOf_173 : decode cX4_kettleOf 173 = .ok (.iaload, 1) := by decide +kernel
theorem dX4_kettleOf_174 : decode cX4_kettleOf 174 = .ok (.ireturn, 1) := by decide +kernel
theorem dX4_kettleOf_175 : decode cX4_kettleOf 175 = .ok (.aload_n 0, 1) := by decide +kernel
theorem dX4_kettleOf_176 : decode cX4_kettleOf 176 = .ok (.getfield 10, 3) := by decide +kernel
theorem dX4_kettleOf_179 : decode cX4_kettleOf 179 = .ok (.getfield 107, 3) := by decide +kernel
theorem dX4_kettleOf_182 : decode cX4_kettleOf 182 = .ok (.iload_n 1, 1) := by decide +kernel
theorem dX4_kettleOf_183 : decode cX4_kettleOf 183 = .ok (.iaload, 1) := by decide +kernel
theorem dX4_kettleOf_184 : decode cX4_kettleOf 184 = .ok (.invokestatic 110, 3) := by decide +kernel
theorem dX4_kettleOf_187 : decode cX4_kettleOf 187 = .ok (.ireturn, 1) := by decide +kernel
theorem dX4_kettleOf_188 : decode cX4_kettleOf 188 = .ok (.sipush (-1012), 3) := by decide +kernel
theorem dX4_kettleOf_191 : decode cX4_kettleOf 191 = .ok (.ireturn, 1) := by decide +kernel
theorem dX4_set_0 : decode cX4_set 0 = .ok (.aload_n 0, 1) := by decide +kernel
theorem dX4_set_1 : decode cX4_set 1 = .ok (.getfield 22, 3) := by decide +kernel
theorem dX4_set_4 : decode cX4_set 4 = .ok (.aload_n 0, 1) := by decide +kernel
theorem dX4_set_5 : decode cX4_set 5 = .ok (.getfield 10, 3) := by decide +kernel
theorem dX4_set_8 : decode cX4_set 8 = .ok (.invokevirtual 47, 3) := by decide +kernel
theorem dX4_set_11 : decode cX4_set 11 = .ok (.aload_n 0, 1) := by decide +kernel
theorem dX4_set_12 : decode cX4_set 12 = .ok (.aload_n 0, 1) := by decide +kernel
theorem dX4_set_13 : decode cX4_set 13 = .ok (.iload_n 1, 1) := by decide +kernel
theorem dX4_set_14 : decode cX4_set 14 = .ok (.iload_n 2, 1) := by decide +kernel
theorem dX4_set_15 : decode cX4_set 15 = .ok (.invokevirtual 115, 3) := by decide +kernel
theorem dX4_set_18 : decode cX4_set 18 = .ok (.invokevirtual 55, 3) := by decide +kernel
theorem dX4_set_21 : decode cX4_set 21 = .ok (.ireturn, 1) := by decide +kernel
theorem dX4_off_0 : decode cX4_off 0 = .ok (.aload_n 0, 1) := by decide +kernel
theorem dX4_off_1 : decode cX4_off 1 = .ok (.getfield 22, 3) := by decide +kernel
theorem dX4_off_4 : decode cX4_off 4 = .ok (.aload_n 0, 1) := by decide +kernel
theorem dX4_off_5 : decode cX4_off 5 = .ok (.getfield 10, 3) := by decide +kernel
theorem dX4_off_8 : decode cX4_off 8 = .ok (.invokevirtual 47, 3) := by decide +kernel
theorem dX4_off_11 : decode cX4_off 11 = .ok (.aload_n 0, 1) := by decide +kernel
theorem dX4_off_12 : decode cX4_off 12 = .ok (.aload_n 0, 1) := by decide +kernel
theorem dX4_off_13 : decode cX4_off 13 = .ok (.iload_n 1, 1) := by decide +kernel
theorem dX4_off_14 : decode cX4_off 14 = .ok (.invokevirtual 118, 3) := by decide +kernel
theorem dX4_off_17 : decode cX4_off 17 = .ok (.invokevirtual 55, 3) := by decide +kernel
theorem dX4_off_20 : decode cX4_off 20 = .ok (.ireturn, 1) := by decide +kernel
theorem dX4_heat_0 : decode cX4_heat 0 = .ok (.aload_n 0, 1) := by decide +kernel
theorem dX4_heat_1 : decode cX4_heat 1 = .ok (.getfield 22, 3) := by decide +kernel
theorem dX4_heat_4 : decode cX4_heat 4 = .ok (.aload_n 0, 1) := by decide +kernel
theorem dX4_heat_5 : decode cX4_heat 5 = .ok (.getfield 10, 3) := by decide +kernel
theorem dX4_heat_8 : decode cX4_heat 8 = .ok (.invokevirtual 47, 3) := by decide +kernel
theorem dX4_heat_11 : decode cX4_heat 11 = .ok (.aload_n 0, 1) := by decide +kernel
theorem dX4_heat_12 : decode cX4_heat 12 = .ok (.aload_n 0, 1) := by decide +kernel
theorem dX4_heat_13 : decode cX4_heat 13 = .ok (.iload_n 1, 1) := by decide +kernel
theorem dX4_heat_14 : decode cX4_heat 14 = .ok (.iload_n 2, 1) := by decide +kernel
theorem dX4_heat_15 : decode cX4_heat 15 = .ok (.invokevirtual 121, 3) := by decide +kernel
theorem dX4_heat_18 : decode cX4_heat 18 = .ok (.invokevirtual 55, 3) := by decide +kernel
theorem dX4_heat_21 : decode cX4_heat 21 = .ok (.ireturn, 1) := by decide +kernel
theorem dX4_lid_0 : decode cX4_lid 0 = .ok (.aload_n 0, 1) := by decide +kernel
theorem dX4_lid_1 : decode cX4_lid 1 = .ok (.getfield 22, 3) := by decide +kernel
theorem dX4_lid_4 : decode cX4_lid 4 = .ok (.aload_n 0, 1) := by decide +kernel
theorem dX4_lid_5 : decode cX4_lid 5 = .ok (.getfield 10, 3) := by decide +kernel
theorem dX4_lid_8 : decode cX4_lid 8 = .ok (.invokevirtual 47, 3) := by decide +kernel
theorem dX4_lid_11 : decode cX4_lid 11 = .ok (.aload_n 0, 1) := by decide +kernel
theorem dX4_lid_12 : decode cX4_lid 12 = .ok (.aload_n 0, 1) := by decide +kernel
theorem dX4_lid_13 : decode cX4_lid 13 = .ok (.iload_n 1, 1) := by decide +kernel
theorem dX4_lid_14 : decode cX4_lid 14 = .ok (.iload_n 2, 1) := by decide +kernel
theorem dX4_lid_15 : decode cX4_lid 15 = .ok (.invokevirtual 124, 3) := by decide +kernel
theorem dX4_lid_18 : decode cX4_lid 18 = .ok (.invokevirtual 55, 3) := by decide +kernel
theorem dX4_lid_21 : decode cX4_lid 21 = .ok (.ireturn, 1) := by decide +kernel
theorem dX4_appeal_0 : decode cX4_appeal 0 = .ok (.aload_n 0, 1) := by decide +kernel
theorem dX4_appeal_1 : decode cX4_appeal 1 = .ok (.getfield 22, 3) := by decide +kernel
theorem dX4_appeal_4 : decode cX4_appeal 4 = .ok (.aload_n 0, 1) := by decide +kernel
theorem dX4_appeal_5 : decode cX4_appeal 5 = .ok (.getfield 10, 3) := by decide +kernel
theorem dX4_appeal_8 : decode cX4_appeal 8 = .ok (.invokevirtual 47, 3) := by decide +kernel
theorem dX4_appeal_11 : decode cX4_appeal 11 = .ok (.aload_n 0, 1) := by decide +kernel
theorem dX4_appeal_12 : decode cX4_appeal 12 = .ok (.aload_n 0, 1) := by decide +kernel
theorem dX4_appeal_13 : decode cX4_appeal 13 = .ok (.iload_n 1, 1) := by decide +kernel
theorem dX4_appeal_14 : decode cX4_appeal 14 = .ok (.iload_n 2, 1) := by decide +kernel
theorem dX4_appeal_15 : decode cX4_appeal 15 = .ok (.invokevirtual 127, 3) := by decide +kernel
theorem dX4_appeal_18 : decode cX4_appeal 18 = .ok (.invokevirtual 55, 3) := by decide +kernel
theorem dX4_appeal_21 : decode cX4_appeal 21 = .ok (.ireturn, 1) := by decide +kernel
theorem dX4_stoveOf_0 : decode cX4_stoveOf 0 = .ok (.iload_n 1, 1) := by decide +kernel
theorem dX4_stoveOf_1 : decode cX4_stoveOf 1 = .ok (.invokestatic 130, 3) := by decide +kernel
theorem dX4_stoveOf_4 : decode cX4_stoveOf 4 = .ok (.ifCond .ne 7, 3) := by decide +kernel
theorem dX4_stoveOf_7 : decode cX4_stoveOf 7 = .ok (.sipush (-1011), 3) := by decide +kernel
theorem dX4_stoveOf_10 : decode cX4_stoveOf 10 = .ok (.ireturn, 1) := by decide +kernel
theorem dX4_stoveOf_11 : decode cX4_stoveOf 11 = .ok (.iload_n 2, 1) := by decide +kernel
theorem dX4_stoveOf_12 : decode cX4_stoveOf 12 = .ok (.ifCond .eq 15, 3) := by decide +kernel
theorem dX4_stoveOf_15 : decode cX4_stoveOf 15 = .ok (.aload_n 0, 1) := by decide +kernel
theorem dX4_stoveOf_16 : decode cX4_stoveOf 16 = .ok (.getfield 10, 3) := by decide +kernel
theorem dX4_stoveOf_19 : decode cX4_stoveOf 19 = .ok (.getfield 133, 3) := by decide +kernel
theorem dX4_stoveOf_22 : decode cX4_stoveOf 22 = .ok (.iload_n 1, 1) := by decide +kernel
theorem dX4_stoveOf_23 : decode cX4_stoveOf 23 = .ok (.iaload, 1) := by decide +kernel
theorem dX4_stoveOf_24 : decode cX4_stoveOf 24 = .ok (.goto 14, 3) := by decide +kernel
theorem dX4_stoveOf_27 : decode cX4_stoveOf 27 = .ok (.aload_n 0, 1) := by decide +kernel
theorem dX4_stoveOf_28 : decode cX4_stoveOf 28 = .ok (.getfield 10, 3) := by decide +kernel
theorem dX4_stoveOf_31 : decode cX4_stoveOf 31 = .ok (.iload_n 1, 1) := by decide +kernel
theorem dX4_stoveOf_32 : decode cX4_stoveOf 32 = .ok (.invokevirtual 136, 3) := by decide +kernel
theorem dX4_stoveOf_35 : decode cX4_stoveOf 35 = .ok (.invokestatic 67, 3) := by decide +kernel
theorem dX4_stoveOf_38 : decode cX4_stoveOf 38 = .ok (.ireturn, 1) := by decide +kernel
theorem dX4_minute_0 : decode cX4_minute 0 = .ok (.aload_n 0, 1) := by decide +kernel
theorem dX4_minute_1 : decode cX4_minute 1 = .ok (.getfield 22, 3) := by decide +kernel
theorem dX4_minute_4 : decode cX4_minute 4 = .ok (.aload_n 0, 1) := by decide +kernel
theorem dX4_minute_5 : decode cX4_minute 5 = .ok (.getfield 10, 3) := by decide +kernel
theorem dX4_minute_8 : decode cX4_minute 8 = .ok (.invokevirtual 47, 3) := by decide +kernel
theorem dX4_minute_11 : decode cX4_minute 11 = .ok (.aload_n 0, 1) := by decide +kernel
theorem dX4_minute_12 : decode cX4_minute 12 = .ok (.aload_n 0, 1) := by decide +kernel
theorem dX4_minute_13 : decode cX4_minute 13 = .ok (.iload_n 1, 1) := by decide +kernel
theorem dX4_minute_14 : decode cX4_minute 14 = .ok (.invokevirtual 139, 3) := by decide +kernel
theorem dX4_minute_17 : decode cX4_minute 17 = .ok (.invokevirtual 55, 3) := by decide +kernel
theorem dX4_minute_20 : decode cX4_minute 20 = .ok (.ireturn, 1) := by decide +kernel
theorem dX4_whistling_0 : decode cX4_whistling 0 = .ok (.aload_n 0, 1) := by decide +kernel
theorem dX4_whistling_1 : decode cX4_whistling 1 = .ok (.getfield 10, 3) := by decide +kernel
theorem dX4_whistling_4 : decode cX4_whistling 4 = .ok (.invokevirtual 142, 3) := by decide +kernel
theorem dX4_whistling_7 : decode cX4_whistling 7 = .ok (.ireturn, 1) := by decide +kernel
theorem dX4_harmony_0 : decode cX4_harmony 0 = .ok (.aload_n 0, 1) := by decide +kernel
theorem dX4_harmony_1 : decode cX4_harmony 1 = .ok (.getfield 10, 3) := by decide +kernel
theorem dX4_harmony_4 : decode cX4_harmony 4 = .ok (.invokevirtual 142, 3) := by decide +kernel
theorem dX4_harmony_7 : decode cX4_harmony 7 = .ok (.istore_n 1, 1) := by decide +kernel
theorem dX4_harmony_8 : decode cX4_harmony 8 = .ok (.iconst 0, 1) := by decide +kernel
theorem dX4_harmony_9 : decode cX4_harmony 9 = .ok (.istore_n 2, 1) := by decide +kernel
theorem dX4_harmony_10 : decode cX4_harmony 10 = .ok (.iconst 0, 1) := by decide +kernel
theorem dX4_harmony_11 : decode cX4_harmony 11 = .ok (.istore_n 3, 1) := by decide +kernel
theorem dX4_harmony_12 : decode cX4_harmony 12 = .ok (.iload_n 3, 1) := by decide +kernel
theorem dX4_harmony_13 : decode cX4_harmony 13 = .ok (.aload_n 0, 1) := by decide +kernel
theorem dX4_harmony_14 : decode cX4_harmony 14 = .ok (.getfield 10, 3) := by decide +kernel
theorem dX4_harmony_17 : decode cX4_harmony 17 = .ok (.getfield 146, 3) := by decide +kernel
theorem dX4_harmony_20 : decode cX4_harmony 20 = .ok (.if_icmp .ge 74, 3) := by decide +kernel
theorem dX4_harmony_23 : decode cX4_harmony 23 = .ok (.iload_n 3, 1) := by decide +kernel
theorem dX4_harmony_24 : decode cX4_harmony 24 = .ok (.iconst 1, 1) := by decide +kernel
theorem dX4_harmony_25 : decode cX4_harmony 25 = .ok (.iadd, 1) := by decide +kernel
theorem dX4_harmony_26 : decode cX4_harmony 26 = .ok (.istore 4, 2) := by decide +kernel
theorem dX4_harmony_28 : decode cX4_harmony 28 = .ok (.iload 4, 2) := by decide +kernel
theorem dX4_harmony_30 : decode cX4_harmony 30 = .ok (.aload_n 0, 1) := by decide +kernel
theorem dX4_harmony_31 : decode cX4_harmony 31 = .ok (.getfield 10, 3) := by decide +kernel
theorem dX4_harmony_34 : decode cX4_harmony 34 = .ok (.getfield 146, 3) := by decide +kernel
theorem dX4_harmony_37 : decode cX4_harmony 37 = .ok (.if_icmp .ge 51, 3) := by decide +kernel
theorem dX4_harmony_40 : decode cX4_harmony 40 = .ok (.iload_n 1, 1) := by decide +kernel
theorem dX4_harmony_41 : decode cX4_harmony 41 = .ok (.iload_n 3, 1) := by decide +kernel
theorem dX4_harmony_42 : decode cX4_harmony 42 = .ok (.invokestatic 150, 3) := by decide +kernel
theorem dX4_harmony_45 : decode cX4_harmony 45 = .ok (.ifCond .eq 37, 3) := by decide +kernel
theorem dX4_harmony_48 : decode cX4_harmony 48 = .ok (.iload_n 1, 1) := by decide +kernel
theorem dX4_harmony_49 : decode cX4_harmony 49 = .ok (.iload 4, 2) := by decide +kernel
theorem dX4_harmony_51 : decode cX4_harmony 51 = .ok (.invokestatic 150, 3) := by decide +kernel
theorem dX4_harmony_54 : decode cX4_harmony 54 = .ok (.ifCond .eq 28, 3) := by decide +kernel
theorem dX4_harmony_57 : decode cX4_harmony 57 = .ok (.iload_n 2, 1) := by decide +kernel
theorem dX4_harmony_58 : decode cX4_harmony 58 = .ok (.aload_n 0, 1) := by decide +kernel
theorem dX4_harmony_59 : decode cX4_harmony 59 = .ok (.getfield 10, 3) := by decide +kernel
theorem dX4_harmony_62 : decode cX4_harmony 62 = .ok (.getfield 83, 3) := by decide +kernel
theorem dX4_harmony_65 : decode cX4_harmony 65 = .ok (.iload_n 3, 1) := by decide +kernel
theorem dX4_harmony_66 : decode cX4_harmony 66 = .ok (.iaload, 1) := by decide +kernel
theorem dX4_harmony_67 : decode cX4_harmony 67 = .ok (.aload_n 0, 1) := by decide +kernel
theorem dX4_harmony_68 : decode cX4_harmony 68 = .ok (.getfield 10, 3) := by decide +kernel
theorem dX4_harmony_71 : decode cX4_harmony 71 = .ok (.getfield 83, 3) := by decide +kernel
theorem dX4_harmony_74 : decode cX4_harmony 74 = .ok (.iload 4, 2) := by decide +kernel
theorem dX4_harmony_76 : decode cX4_harmony 76 = .ok (.iaload, 1) := by decide +kernel
theorem dX4_harmony_77 : decode cX4_harmony 77 = .ok (.invokestatic 154, 3) := by decide +kernel
theorem dX4_harmony_80 : decode cX4_harmony 80 = .ok (.iadd, 1) := by decide +kernel
theorem dX4_harmony_81 : decode cX4_harmony 81 = .ok (.istore_n 2, 1) := by decide +kernel
theorem dX4_harmony_82 : decode cX4_harmony 82 = .ok (.iinc 4 1, 3) := by decide +kernel
theorem dX4_harmony_85 : decode cX4_harmony 85 = .ok (.goto (-57), 3) := by decide +kernel
theorem dX4_harmony_88 : decode cX4_harmony 88 = .ok (.iinc 3 1, 3) := by decide +kernel
theorem dX4_harmony_91 : decode cX4_harmony 91 = .ok (.goto (-79), 3) := by decide +kernel
theorem dX4_harmony_94 : decode cX4_harmony 94 = .ok (.iload_n 2, 1) := by decide +kernel
theorem dX4_harmony_95 : decode cX4_harmony 95 = .ok (.ireturn, 1) := by decide +kernel
theorem dX4_harmonyAgain_0 : decode cX4_harmonyAgain 0 = .ok (.aload_n 0, 1) := by decide +kernel
theorem dX4_harmonyAgain_1 : decode cX4_harmonyAgain 1 = .ok (.getfield 10, 3) := by decide +kernel
theorem dX4_harmonyAgain_4 : decode cX4_harmonyAgain 4 = .ok (.invokevirtual 157, 3) := by decide +kernel
theorem dX4_harmonyAgain_7 : decode cX4_harmonyAgain 7 = .ok (.istore_n 1, 1) := by decide +kernel
theorem dX4_harmonyAgain_8 : decode cX4_harmonyAgain 8 = .ok (.iconst 0, 1) := by decide +kernel
theorem dX4_harmonyAgain_9 : decode cX4_harmonyAgain 9 = .ok (.istore_n 2, 1) := by decide +kernel
theorem dX4_harmonyAgain_10 : decode cX4_harmonyAgain 10 = .ok (.iconst 1, 1) := by decide +kernel
theorem dX4_harmonyAgain_11 : decode cX4_harmonyAgain 11 = .ok (.istore_n 3, 1) := by decide +kernel
theorem dX4_harmonyAgain_12 : decode cX4_harmonyAgain 12 = .ok (.iload_n 3, 1) := by decide +kernel
theorem dX4_harmonyAgain_13 : decode cX4_harmonyAgain 13 = .ok (.getstatic 160, 3) := by decide +kernel
theorem dX4_harmonyAgain_16 : decode cX4_harmonyAgain 16 = .ok (.arraylength, 1) := by decide +kernel
theorem dX4_harmonyAgain_17 : decode cX4_harmonyAgain 17 = .ok (.if_icmp .ge 30, 3) := by decide +kernel
theorem dX4_harmonyAgain_20 : decode cX4_harmonyAgain 20 = .ok (.iload_n 1, 1) := by decide +kernel
theorem dX4_harmonyAgain_21 : decode cX4_harmonyAgain 21 = .ok (.iload_n 1, 1) := by decide +kernel
theorem dX4_harmonyAgain_22 : decode cX4_harmonyAgain 22 = .ok (.iload_n 3, 1) := by decide +kernel
theorem dX4_harmonyAgain_23 : decode cX4_harmonyAgain 23 = .ok (.ishr, 1) := by decide +kernel
theorem dX4_harmonyAgain_24 : decode cX4_harmonyAgain 24 = .ok (.iand, 1) := by decide +kernel
theorem dX4_harmonyAgain_25 : decode cX4_harmonyAgain 25 = .ok (.invokestatic 110, 3) := by decide +kernel
theorem dX4_harmonyAgain_28 : decode cX4_harmonyAgain 28 = .ok (.istore 4, 2) := by decide +kernel
theorem dX4_harmonyAgain_30 : decode cX4_harmonyAgain 30 = .ok (.iload_n 2, 1) := by decide +kernel
theorem dX4_harmonyAgain_31 : decode cX4_harmonyAgain 31 = .ok (.getstatic 160, 3) := by decide +kernel
theorem dX4_harmonyAgain_34 : decode cX4_harmonyAgain 34 = .ok (.iload_n 3, 1) := by decide +kernel
theorem dX4_harmonyAgain_35 : decode cX4_harmonyAgain 35 = .ok (.iaload, 1) := by decide +kernel
theorem dX4_harmonyAgain_36 : decode cX4_harmonyAgain 36 = .ok (.iload 4, 2) := by decide +kernel
theorem dX4_harmonyAgain_38 : decode cX4_harmonyAgain 38 = .ok (.imul, 1) := by decide +kernel
theorem dX4_harmonyAgain_39 : decode cX4_harmonyAgain 39 = .ok (.iadd, 1) := by decide +kernel
theorem dX4_harmonyAgain_40 : decode cX4_harmonyAgain 40 = .ok (.istore_n 2, 1) := by decide +kernel
theorem dX4_harmonyAgain_41 : decode cX4_harmonyAgain 41 = .ok (.iinc 3 1, 3) := by decide +kernel
theorem dX4_harmonyAgain_44 : decode cX4_harmonyAgain 44 = .ok (.goto (-32), 3) := by decide +kernel
theorem dX4_harmonyAgain_47 : decode cX4_harmonyAgain 47 = .ok (.iload_n 2, 1) := by decide +kernel
theorem dX4_harmonyAgain_48 : decode cX4_harmonyAgain 48 = .ok (.ireturn, 1) := by decide +kernel
theorem dX4_boilsIn_0 : decode cX4_boilsIn 0 = .ok (.aload_n 0, 1) := by decide +kernel
theorem dX4_boilsIn_1 : decode cX4_boilsIn 1 = .ok (.iload_n 1, 1) := by decide +kernel
theorem dX4_boilsIn_2 : decode cX4_boilsIn 2 = .ok (.invokevirtual 77, 3) := by decide +kernel
theorem dX4_boilsIn_5 : decode cX4_boilsIn 5 = .ok (.ifCond .ne 7, 3) := by decide +kernel
theorem dX4_boilsIn_8 : decode cX4_boilsIn 8 = .ok (.sipush (-1011), 3) := by decide +kernel
theorem dX4_boilsIn_11 : decode cX4_boilsIn 11 = .ok (.ireturn, 1) := by decide +kernel
theorem dX4_boilsIn_12 : decode cX4_boilsIn 12 = .ok (.aload_n 0, 1) := by decide +kernel
theorem dX4_boilsIn_13 : decode cX4_boilsIn 13 = .ok (.getfield 10, 3) := by decide +kernel
theorem dX4_boilsIn_16 : decode cX4_boilsIn 16 = .ok (.iload_n 1, 1) := by decide +kernel
theorem dX4_boilsIn_17 : decode cX4_boilsIn 17 = .ok (.invokevirtual 163, 3) := by decide +kernel
theorem dX4_boilsIn_20 : decode cX4_boilsIn 20 = .ok (.istore_n 2, 1) := by decide +kernel
theorem dX4_boilsIn_21 : decode cX4_boilsIn 21 = .ok (.aload_n 0, 1) := by decide +kernel
theorem dX4_boilsIn_22 : decode cX4_boilsIn 22 = .ok (.getfield 10, 3) := by decide +kernel
theorem dX4_boilsIn_25 : decode cX4_boilsIn 25 = .ok (.getfield 89, 3) := by decide +kernel
theorem dX4_boilsIn_28 : decode cX4_boilsIn 28 = .ok (.iload_n 1, 1) := by decide +kernel
theorem dX4_boilsIn_29 : decode cX4_boilsIn 29 = .ok (.iaload, 1) := by decide +kernel
theorem dX4_boilsIn_30 : decode cX4_boilsIn 30 = .ok (.istore_n 3, 1) := by decide +kernel
theorem dX4_boilsIn_31 : decode cX4_boilsIn 31 = .ok (.iconst 0, 1) := by decide +kernel
theorem dX4_boilsIn_32 : decode cX4_boilsIn 32 = .ok (.istore 4, 2) := by decide +kernel
theorem dX4_boilsIn_34 : decode cX4_boilsIn 34 = .ok (.iload 4, 2) := by decide +kernel
theorem dX4_boilsIn_36 : decode cX4_boilsIn 36 = .ok (.bipush 100, 2) := by decide +kernel
theorem dX4_boilsIn_38 : decode cX4_boilsIn 38 = .ok (.if_icmp .gt 33, 3) := by decide +kernel
theorem dX4_boilsIn_41 : decode cX4_boilsIn 41 = .ok (.iload_n 2, 1) := by decide +kernel
theorem dX4_boilsIn_42 : decode cX4_boilsIn 42 = .ok (.ifCond .le 12, 3) := by decide +kernel
theorem dX4_boilsIn_45 : decode cX4_boilsIn 45 = .ok (.iload_n 3, 1) := by decide +kernel
theorem dX4_boilsIn_46 : decode cX4_boilsIn 46 = .ok (.bipush 100, 2) := by decide +kernel
theorem dX4_boilsIn_48 : decode cX4_boilsIn 48 = .ok (.if_icmp .ne 6, 3) := by decide +kernel
theorem dX4_boilsIn_51 : decode cX4_boilsIn 51 = .ok (.iload 4, 2) := by decide +kernel
theorem dX4_boilsIn_53 : decode cX4_boilsIn 53 = .ok (.ireturn, 1) := by decide +kernel
theorem dX4_boilsIn_54 : decode cX4_boilsIn 54 = .ok (.bipush 100, 2) := by decide +kernel
theorem dX4_boilsIn_56 : decode cX4_boilsIn 56 = .ok (.iload_n 3, 1) := by decide +kernel
theorem dX4_boilsIn_57 : decode cX4_boilsIn 57 = .ok (.iconst 5, 1) := by decide +kernel
theorem dX4_boilsIn_58 : decode cX4_boilsIn 58 = .ok (.iload_n 2, 1) := by decide +kernel
theorem dX4_boilsIn_59 : decode cX4_boilsIn 59 = .ok (.imul, 1) := by decide +kernel
theorem dX4_boilsIn_60 : decode cX4_boilsIn 60 = .ok (.iadd, 1) := by decide +kernel
theorem dX4_boilsIn_61 : decode cX4_boilsIn 61 = .ok (.invokestatic 166, 3) := by decide +kernel
theorem dX4_boilsIn_64 : decode cX4_boilsIn 64 = .ok (.istore_n 3, 1) := by decide +kernel
theorem dX4_boilsIn_65 : decode cX4_boilsIn 65 = .ok (.iinc 4 1, 3) := by decide +kernel
theorem dX4_boilsIn_68 : decode cX4_boilsIn 68 = .ok (.goto (-34), 3) := by decide +kernel
theorem dX4_boilsIn_71 : decode cX4_boilsIn 71 = .ok (.sipush (-1015), 3) := by decide +kernel
theorem dX4_boilsIn_74 : decode cX4_boilsIn 74 = .ok (.ireturn, 1) := by decide +kernel
theorem dX4_boilsInAgain_0 : decode cX4_boilsInAgain 0 = .ok (.aload_n 0, 1) := by decide +kernel
theorem dX4_boilsInAgain_1 : decode cX4_boilsInAgain 1 = .ok (.iload_n 1, 1) := by decide +kernel
theorem dX4_boilsInAgain_2 : decode cX4_boilsInAgain 2 = .ok (.invokevirtual 77, 3) := by decide +kernel
theorem dX4_boilsInAgain_5 : decode cX4_boilsInAgain 5 = .ok (.ifCond .ne 7, 3) := by decide +kernel
theorem dX4_boilsInAgain_8 : decode cX4_boilsInAgain 8 = .ok (.sipush (-1011), 3) := by decide +kernel
theorem dX4_boilsInAgain_11 : decode cX4_boilsInAgain 11 = .ok (.ireturn, 1) := by decide +kernel
theorem dX4_boilsInAgain_12 : decode cX4_boilsInAgain 12 = .ok (.iconst 5, 1) := by decide +kernel
theorem dX4_boilsInAgain_13 : decode cX4_boilsInAgain 13 = .ok (.aload_n 0, 1) := by decide +kernel
theorem dX4_boilsInAgain_14 : decode cX4_boilsInAgain 14 = .ok (.getfield 10, 3) := by decide +kernel
theorem dX4_boilsInAgain_17 : decode cX4_boilsInAgain 17 = .ok (.iload_n 1, 1) := by decide +kernel
theorem dX4_boilsInAgain_18 : decode cX4_boilsInAgain 18 = .ok (.invokevirtual 163, 3) := by decide +kernel
theorem dX4_boilsInAgain_21 : decode cX4_boilsInAgain 21 = .ok (.imul, 1) := by decide +kernel
theorem dX4_boilsInAgain_22 : decode cX4_boilsInAgain 22 = .ok (.istore_n 2, 1) := by decide +kernel
theorem dX4_boilsInAgain_23 : decode cX4_boilsInAgain 23 = .ok (.iload_n 2, 1) := by decide +kernel
theorem dX4_boilsInAgain_24 : decode cX4_boilsInAgain 24 = .ok (.ifCond .gt 7, 3) := by decide +kernel
theorem dX4_boilsInAgain_27 : decode cX4_boilsInAgain 27 = .ok (.sipush (-1015), 3) := by decide +kernel
theorem dX4_boilsInAgain_30 : decode cX4_boilsInAgain 30 = .ok (.ireturn, 1) := by decide +kernel
theorem dX4_boilsInAgain_31 : decode cX4_boilsInAgain 31 = .ok (.bipush 100, 2) := by decide +kernel
theorem dX4_boilsInAgain_33 : decode cX4_boilsInAgain 33 = .ok (.aload_n 0, 1) := by decide +kernel
theorem dX4_boilsInAgain_34 : decode cX4_boilsInAgain 34 = .ok (.getfield 10, 3) := by decide +kernel
theorem dX4_boilsInAgain_37 : decode cX4_boilsInAgain 37 = .ok (.getfield 89, 3) := by decide +kernel
theorem dX4_boilsInAgain_40 : decode cX4_boilsInAgain 40 = .ok (.iload_n 1, 1) := by decide +kernel
theorem dX4_boilsInAgain_41 : decode cX4_boilsInAgain 41 = .ok (.iaload, 1) := by decide +kernel
theorem dX4_boilsInAgain_42 : decode cX4_boilsInAgain 42 = .ok (.isub, 1) := by decide +kernel
theorem dX4_boilsInAgain_43 : decode cX4_boilsInAgain 43 = .ok (.istore_n 3, 1) := by decide +kernel
theorem dX4_boilsInAgain_44 : decode cX4_boilsInAgain 44 = .ok (.iload_n 3, 1) := by decide +kernel
theorem dX4_boilsInAgain_45 : decode cX4_boilsInAgain 45 = .ok (.iload_n 2, 1) := by decide +kernel
theorem dX4_boilsInAgain_46 : decode cX4_boilsInAgain 46 = .ok (.iadd, 1) := by decide +kernel
theorem dX4_boilsInAgain_47 : decode cX4_boilsInAgain 47 = .ok (.iconst 1, 1) := by decide +kernel
theorem dX4_boilsInAgain_48 : decode cX4_boilsInAgain 48 = .ok (.isub, 1) := by decide +kernel
theorem dX4_boilsInAgain_49 : decode cX4_boilsInAgain 49 = .ok (.iload_n 2, 1) := by decide +kernel
theorem dX4_boilsInAgain_50 : decode cX4_boilsInAgain 50 = .ok (.idiv, 1) := by decide +kernel
theorem dX4_boilsInAgain_51 : decode cX4_boilsInAgain 51 = .ok (.ireturn, 1) := by decide +kernel
theorem dX4_dryIn_0 : decode cX4_dryIn 0 = .ok (.aload_n 0, 1) := by decide +kernel
theorem dX4_dryIn_1 : decode cX4_dryIn 1 = .ok (.iload_n 1, 1) := by decide +kernel
theorem dX4_dryIn_2 : decode cX4_dryIn 2 = .ok (.invokevirtual 171, 3) := by decide +kernel
theorem dX4_dryIn_5 : decode cX4_dryIn 5 = .ok (.istore_n 2, 1) := by decide +kernel
theorem dX4_dryIn_6 : decode cX4_dryIn 6 = .ok (.iload_n 2, 1) := by decide +kernel
theorem dX4_dryIn_7 : decode cX4_dryIn 7 = .ok (.ifCond .lt 11, 3) := by decide +kernel
theorem dX4_dryIn_10 : decode cX4_dryIn 10 = .ok (.aload_n 0, 1) := by decide +kernel
theorem dX4_dryIn_11 : decode cX4_dryIn 11 = .ok (.iload_n 1, 1) := by decide +kernel
theorem dX4_dryIn_12 : decode cX4_dryIn 12 = .ok (.invokevirtual 77, 3) := by decide +kernel
theorem dX4_dryIn_15 : decode cX4_dryIn 15 = .ok (.ifCond .ne 5, 3) := by decide +kernel
theorem dX4_dryIn_18 : decode cX4_dryIn 18 = .ok (.iload_n 2, 1) := by decide +kernel
theorem dX4_dryIn_19 : decode cX4_dryIn 19 = .ok (.ireturn, 1) := by decide +kernel
theorem dX4_dryIn_20 : decode cX4_dryIn 20 = .ok (.iload_n 2, 1) := by decide +kernel
theorem dX4_dryIn_21 : decode cX4_dryIn 21 = .ok (.iconst 1, 1) := by decide +kernel
theorem dX4_dryIn_22 : decode cX4_dryIn 22 = .ok (.aload_n 0, 1) := by decide +kernel
theorem dX4_dryIn_23 : decode cX4_dryIn 23 = .ok (.getfield 10, 3) := by decide +kernel
theorem dX4_dryIn_26 : decode cX4_dryIn 26 = .ok (.getfield 86, 3) := by decide +kernel
theorem dX4_dryIn_29 : decode cX4_dryIn 29 = .ok (.iload_n 1, 1) := by decide +kernel
theorem dX4_dryIn_30 : decode cX4_dryIn 30 = .ok (.iaload, 1) := by decide +kernel
theorem dX4_dryIn_31 : decode cX4_dryIn 31 = .ok (.invokestatic 174, 3) := by decide +kernel
theorem dX4_dryIn_34 : decode cX4_dryIn 34 = .ok (.iadd, 1) := by decide +kernel
theorem dX4_dryIn_35 : decode cX4_dryIn 35 = .ok (.ireturn, 1) := by decide +kernel
theorem dX4_bestPitch_0 : decode cX4_bestPitch 0 = .ok (.aload_n 0, 1) := by decide +kernel
theorem dX4_bestPitch_1 : decode cX4_bestPitch 1 = .ok (.getfield 10, 3) := by decide +kernel
theorem dX4_bestPitch_4 : decode cX4_bestPitch 4 = .ok (.invokevirtual 157, 3) := by decide +kernel
theorem dX4_bestPitch_7 : decode cX4_bestPitch 7 = .ok (.istore_n 1, 1) := by decide +kernel
theorem dX4_bestPitch_8 : decode cX4_bestPitch 8 = .ok (.iconst (-1), 1) := by decide +kernel
theorem dX4_bestPitch_9 : decode cX4_bestPitch 9 = .ok (.istore_n 2, 1) := by decide +kernel
theorem dX4_bestPitch_10 : decode cX4_bestPitch 10 = .ok (.iconst 0, 1) := by decide +kernel
theorem dX4_bestPitch_11 : decode cX4_bestPitch 11 = .ok (.istore_n 3, 1) := by decide +kernel
theorem dX4_bestPitch_12 : decode cX4_bestPitch 12 = .ok (.iconst 1, 1) := by decide +kernel
theorem dX4_bestPitch_13 : decode cX4_bestPitch 13 = .ok (.istore 4, 2) := by decide +kernel
theorem dX4_bestPitch_15 : decode cX4_bestPitch 15 = .ok (.iload 4, 2) := by decide +kernel
theorem dX4_bestPitch_17 : decode cX4_bestPitch 17 = .ok (.bipush 12, 2) := by decide +kernel
theorem dX4_bestPitch_19 : decode cX4_bestPitch 19 = .ok (.if_icmp .gt 43, 3) := by decide +kernel
theorem dX4_bestPitch_22 : decode cX4_bestPitch 22 = .ok (.iload 4, 2) := by decide +kernel
theorem dX4_bestPitch_24 : decode cX4_bestPitch 24 = .ok (.iload_n 1, 1) := by decide +kernel
theorem dX4_bestPitch_25 : decode cX4_bestPitch 25 = .ok (.invokestatic 177, 3) := by decide +kernel
theorem dX4_bestPitch_28 : decode cX4_bestPitch 28 = .ok (.istore 5, 2) := by decide +kernel
theorem dX4_bestPitch_30 : decode cX4_bestPitch 30 = .ok (.iload_n 1, 1) := by decide +kernel
theorem dX4_bestPitch_31 : decode cX4_bestPitch 31 = .ok (.iload 4, 2) := by decide +kernel
theorem dX4_bestPitch_33 : decode cX4_bestPitch 33 = .ok (.invokestatic 150, 3) := by decide +kernel
theorem dX4_bestPitch_36 : decode cX4_bestPitch 36 = .ok (.ifCond .ne 20, 3) := by decide +kernel
theorem dX4_bestPitch_39 : decode cX4_bestPitch 39 = .ok (.iload_n 2, 1) := by decide +kernel
theorem dX4_bestPitch_40 : decode cX4_bestPitch 40 = .ok (.iconst (-1), 1) := by decide +kernel
theorem dX4_bestPitch_41 : decode cX4_bestPitch 41 = .ok (.if_icmp .eq 9, 3) := by decide +kernel
theorem dX4_bestPitch_44 : decode cX4_bestPitch 44 = .ok (.iload 5, 2) := by decide +kernel
theorem dX4_bestPitch_46 : decode cX4_bestPitch 46 = .ok (.iload_n 3, 1) := by decide +kernel
theorem dX4_bestPitch_47 : decode cX4_bestPitch 47 = .ok (.if_icmp .le 9, 3) := by decide +kernel
theorem dX4_bestPitch_50 : decode cX4_bestPitch 50 = .ok (.iload 4, 2) := by decide +kernel
theorem dX4_bestPitch_52 : decode cX4_bestPitch 52 = .ok (.istore_n 2, 1) := by decide +kernel
theorem dX4_bestPitch_53 : decode cX4_bestPitch 53 = .ok (.iload 5, 2) := by decide +kernel
theorem dX4_bestPitch_55 : decode cX4_bestPitch 55 = .ok (.istore_n 3, 1) := by decide +kernel
theorem dX4_bestPitch_56 : decode cX4_bestPitch 56 = .ok (.iinc 4 1, 3) := by decide +kernel
theorem dX4_bestPitch_59 : decode cX4_bestPitch 59 = .ok (.goto (-44), 3) := by decide +kernel
theorem dX4_bestPitch_62 : decode cX4_bestPitch 62 = .ok (.iload_n 2, 1) := by decide +kernel
theorem dX4_bestPitch_63 : decode cX4_bestPitch 63 = .ok (.ireturn, 1) := by decide +kernel
theorem dX4_memberOf_0 : decode cX4_memberOf 0 = .ok (.iload_n 1, 1) := by decide +kernel
theorem dX4_memberOf_1 : decode cX4_memberOf 1 = .ok (.invokestatic 180, 3) := by decide +kernel
theorem dX4_memberOf_4 : decode cX4_memberOf 4 = .ok (.ifCond .ne 7, 3) := by decide +kernel
theorem dX4_memberOf_7 : decode cX4_memberOf 7 = .ok (.sipush (-1011), 3) := by decide +kernel
theorem dX4_memberOf_10 : decode cX4_memberOf 10 = .ok (.ireturn, 1) := by decide +kernel
theorem dX4_memberOf_11 : decode cX4_memberOf 11 = .ok (.iload_n 2, 1) := by decide +kernel
theorem dX4_memberOf_12 : decode cX4_memberOf 12 = .ok (.tableswitch 97 0 5 #[40, 50, 59, 68, 77, 87], 40) := by decide +kernel
theorem dX4_memberOf_52 : decode cX4_memberOf 52 = .ok (.aload_n 0, 1) := by decide +kernel
theorem dX4_memberOf_53 : decode cX4_memberOf 53 = .ok (.getfield 10, 3) := by decide +kernel
theorem dX4_memberOf_56 : decode cX4_memberOf 56 = .ok (.getfield 183, 3) := by decide +kernel
theorem dX4_memberOf_59 : decode cX4_memberOf 59 = .ok (.iload_n 1, 1) := by decide +kernel
theorem dX4_memberOf_60 : decode cX4_memberOf 60 = .ok (.iaload, 1) := by decide +kernel
theorem dX4_memberOf_61 : decode cX4_memberOf 61 = .ok (.ireturn, 1) := by decide +kernel
theorem dX4_memberOf_62 : decode cX4_memberOf 62 = .ok (.aload_n 0, 1) := by decide +kernel
theorem dX4_memberOf_63 : decode cX4_memberOf 63 = .ok (.getfield 10, 3) := by decide +kernel
theorem dX4_memberOf_66 : decode cX4_memberOf 66 = .ok (.iload_n 1, 1) := by decide +kernel
theorem dX4_memberOf_67 : decode cX4_memberOf 67 = .ok (.invokevirtual 186, 3) := by decide +kernel
theorem dX4_memberOf_70 : decode cX4_memberOf 70 = .ok (.ireturn, 1) := by decide +kernel
theorem dX4_memberOf_71 : decode cX4_memberOf 71 = .ok (.aload_n 0, 1) := by decide +kernel
theorem dX4_memberOf_72 : decode cX4_memberOf 72 = .ok (.getfield 10, 3) := by decide +kernel
theorem dX4_memberOf_75 : decode cX4_memberOf 75 = .ok (.iload_n 1, 1) := by decide +kernel
theorem dX4_memberOf_76 : decode cX4_memberOf 76 = .ok (.invokevirtual 189, 3) := by decide +kernel
theorem dX4_memberOf_79 : decode cX4_memberOf 79 = .ok (.ireturn, 1) := by decide +kernel
theorem dX4_memberOf_80 : decode cX4_memberOf 80 = .ok (.aload_n 0, 1) := by decide +kernel
theorem dX4_memberOf_81 : decode cX4_memberOf 81 = .ok (.getfield 10, 3) := by decide +kernel
theorem dX4_memberOf_84 : decode cX4_memberOf 84 = .ok (.iload_n 1, 1) := by decide +kernel
theorem dX4_memberOf_85 : decode cX4_memberOf 85 = .ok (.invokevirtual 192, 3) := by decide +kernel
theorem dX4_memberOf_88 : decode cX4_memberOf 88 = .ok (.ireturn, 1) := by decide +kernel
theorem dX4_memberOf_89 : decode cX4_memberOf 89 = .ok (.aload_n 0, 1) := by decide +kernel
theorem dX4_memberOf_90 : decode cX4_memberOf 90 = .ok (.getfield 10, 3) := by decide +kernel
theorem dX4_memberOf_93 : decode cX4_memberOf 93 = .ok (.getfield 195, 3) := by decide +kernel
theorem dX4_memberOf_96 : decode cX4_memberOf 96 = .ok (.iload_n 1, 1) := by decide +kernel
theorem dX4_memberOf_97 : decode cX4_memberOf 97 = .ok (.iaload, 1) := by decide +kernel
theorem dX4_memberOf_98 : decode cX4_memberOf 98 = .ok (.ireturn, 1) := by decide +kernel
theorem dX4_memberOf_99 : decode cX4_memberOf 99 = .ok (.aload_n 0, 1) := by decide +kernel
theorem dX4_memberOf_100 : decode cX4_memberOf 100 = .ok (.getfield 10, 3) := by decide +kernel
theorem dX4_memberOf_103 : decode cX4_memberOf 103 = .ok (.getfield 198, 3) := by decide +kernel
theorem dX4_memberOf_106 : decode cX4_memberOf 106 = .ok (.iload_n 1, 1) := by decide +kernel
theorem dX4_memberOf_107 : decode cX4_memberOf 107 = .ok (.iaload, 1) := by decide +kernel
theorem dX4_memberOf_108 : decode cX4_memberOf 108 = .ok (.ireturn, 1) := by decide +kernel
theorem dX4_memberOf_109 : decode cX4_memberOf 109 = .ok (.sipush (-1012), 3) := by decide +kernel
theorem dX4_memberOf_112 : decode cX4_memberOf 112 = .ok (.ireturn, 1) := by decide +kernel
theorem dX4_ranked_0 : decode cX4_ranked 0 = .ok (.iconst 0, 1) := by decide +kernel
theorem dX4_ranked_1 : decode cX4_ranked 1 = .ok (.istore_n 2, 1) := by decide +kernel
theorem dX4_ranked_2 : decode cX4_ranked 2 = .ok (.iload_n 2, 1) := by decide +kernel
theorem dX4_ranked_3 : decode cX4_ranked 3 = .ok (.iconst 4, 1) := by decide +kernel
theorem dX4_ranked_4 : decode cX4_ranked 4 = .ok (.if_icmp .ge 20, 3) := by decide +kernel
theorem dX4_ranked_7 : decode cX4_ranked 7 = .ok (.aload_n 0, 1) := by decide +kernel
theorem dX4_ranked_8 : decode cX4_ranked 8 = .ok (.iload_n 2, 1) := by decide +kernel
theorem dX4_ranked_9 : decode cX4_ranked 9 = .ok (.invokevirtual 201, 3) := by decide +kernel
theorem dX4_ranked_12 : decode cX4_ranked 12 = .ok (.iload_n 1, 1) := by decide +kernel
theorem dX4_ranked_13 : decode cX4_ranked 13 = .ok (.if_icmp .ne 5, 3) := by decide +kernel
theorem dX4_ranked_16 : decode cX4_ranked 16 = .ok (.iload_n 2, 1) := by decide +kernel
theorem dX4_ranked_17 : decode cX4_ranked 17 = .ok (.ireturn, 1) := by decide +kernel
theorem dX4_ranked_18 : decode cX4_ranked 18 = .ok (.iinc 2 1, 3) := by decide +kernel
theorem dX4_ranked_21 : decode cX4_ranked 21 = .ok (.goto (-19), 3) := by decide +kernel
theorem dX4_ranked_24 : decode cX4_ranked 24 = .ok (.sipush (-1011), 3) := by decide +kernel
theorem dX4_ranked_27 : decode cX4_ranked 27 = .ok (.ireturn, 1) := by decide +kernel
theorem dX4_hottest_0 : decode cX4_hottest 0 = .ok (.iconst 0, 1) := by decide +kernel
theorem dX4_hottest_1 : decode cX4_hottest 1 = .ok (.istore_n 2, 1) := by decide +kernel
theorem dX4_hottest_2 : decode cX4_hottest 2 = .ok (.iload_n 2, 1) := by decide +kernel
theorem dX4_hottest_3 : decode cX4_hottest 3 = .ok (.aload_n 0, 1) := by decide +kernel
theorem dX4_hottest_4 : decode cX4_hottest 4 = .ok (.getfield 10, 3) := by decide +kernel
theorem dX4_hottest_7 : decode cX4_hottest 7 = .ok (.getfield 146, 3) := by decide +kernel
theorem dX4_hottest_10 : decode cX4_hottest 10 = .ok (.if_icmp .ge 20, 3) := by decide +kernel
theorem dX4_hottest_13 : decode cX4_hottest 13 = .ok (.aload_n 0, 1) := by decide +kernel
theorem dX4_hottest_14 : decode cX4_hottest 14 = .ok (.iload_n 2, 1) := by decide +kernel
theorem dX4_hottest_15 : decode cX4_hottest 15 = .ok (.invokevirtual 204, 3) := by decide +kernel
theorem dX4_hottest_18 : decode cX4_hottest 18 = .ok (.iload_n 1, 1) := by decide +kernel
theorem dX4_hottest_19 : decode cX4_hottest 19 = .ok (.if_icmp .ne 5, 3) := by decide +kernel
theorem dX4_hottest_22 : decode cX4_hottest 22 = .ok (.iload_n 2, 1) := by decide +kernel
theorem dX4_hottest_23 : decode cX4_hottest 23 = .ok (.ireturn, 1) := by decide +kernel
theorem dX4_hottest_24 : decode cX4_hottest 24 = .ok (.iinc 2 1, 3) := by decide +kernel
theorem dX4_hottest_27 : decode cX4_hottest 27 = .ok (.goto (-25), 3) := by decide +kernel
theorem dX4_hottest_30 : decode cX4_hottest 30 = .ok (.sipush (-1011), 3) := by decide +kernel
theorem dX4_hottest_33 : decode cX4_hottest 33 = .ok (.ireturn, 1) := by decide +kernel
theorem dX4_append_0 : decode cX4_append 0 = .ok (.iload_n 1, 1) := by decide +kernel
theorem dX4_append_1 : decode cX4_append 1 = .ok (.bipush 32, 2) := by decide +kernel
theorem dX4_append_3 : decode cX4_append 3 = .ok (.if_icmp .lt 9, 3) := by decide +kernel
theorem dX4_append_6 : decode cX4_append 6 = .ok (.iload_n 1, 1) := by decide +kernel
theorem dX4_append_7 : decode cX4_append 7 = .ok (.bipush 126, 2) := by decide +kernel
theorem dX4_append_9 : decode cX4_append 9 = .ok (.if_icmp .le 7, 3) := by decide +kernel
theorem dX4_append_12 : decode cX4_append 12 = .ok (.sipush (-1012), 3) := by decide +kernel
theorem dX4_append_15 : decode cX4_append 15 = .ok (.ireturn, 1) := by decide +kernel
theorem dX4_append_16 : decode cX4_append 16 = .ok (.aload_n 0, 1) := by decide +kernel
theorem dX4_append_17 : decode cX4_append 17 = .ok (.getfield 36, 3) := by decide +kernel
theorem dX4_append_20 : decode cX4_append 20 = .ok (.iload_n 1, 1) := by decide +kernel
theorem dX4_append_21 : decode cX4_append 21 = .ok (.i2c, 1) := by decide +kernel
theorem dX4_append_22 : decode cX4_append 22 = .ok (.invokevirtual 207, 3) := by decide +kernel
theorem dX4_append_25 : decode cX4_append 25 = .ok (.ifCond .eq 13, 3) := by decide +kernel
theorem dX4_append_28 : decode cX4_append 28 = .ok (.aload_n 0, 1) := by decide +kernel
theorem dX4_append_29 : decode cX4_append 29 = .ok (.getfield 36, 3) := by decide +kernel
theorem dX4_append_32 : decode cX4_append 32 = .ok (.getfield 211, 3) := by decide +kernel
theorem dX4_append_35 : decode cX4_append 35 = .ok (.goto 6, 3) := by decide +kernel
theorem dX4_append_38 : decode cX4_append 38 = .ok (.sipush (-1013), 3) := by decide +kernel
theorem dX4_append_41 : decode cX4_append 41 = .ok (.ireturn, 1) := by decide +kernel
theorem dX4_run_0 : decode cX4_run 0 = .ok (.aload_n 0, 1) := by decide +kernel
theorem dX4_run_1 : decode cX4_run 1 = .ok (.getfield 36, 3) := by decide +kernel
theorem dX4_run_4 : decode cX4_run 4 = .ok (.invokevirtual 214, 3) := by decide +kernel
theorem dX4_run_7 : decode cX4_run 7 = .ok (.istore_n 1, 1) := by decide +kernel
theorem dX4_run_8 : decode cX4_run 8 = .ok (.aload_n 0, 1) := by decide +kernel
theorem dX4_run_9 : decode cX4_run 9 = .ok (.getfield 36, 3) := by decide +kernel
theorem dX4_run_12 : decode cX4_run 12 = .ok (.invokevirtual 217, 3) := by decide +kernel
theorem dX4_run_15 : decode cX4_run 15 = .ok (.iload_n 1, 1) := by decide +kernel
theorem dX4_run_16 : decode cX4_run 16 = .ok (.iconst (-1), 1) := by decide +kernel
theorem dX4_run_17 : decode cX4_run 17 = .ok (.if_icmp .eq 9, 3) := by decide +kernel
theorem dX4_run_20 : decode cX4_run 20 = .ok (.sipush (-2000), 3) := by decide +kernel
theorem dX4_run_23 : decode cX4_run 23 = .ok (.iload_n 1, 1) := by decide +kernel
theorem dX4_run_24 : decode cX4_run 24 = .ok (.isub, 1) := by decide +kernel
theorem dX4_run_25 : decode cX4_run 25 = .ok (.ireturn, 1) := by decide +kernel
theorem dX4_run_26 : decode cX4_run 26 = .ok (.aload_n 0, 1) := by decide +kernel
theorem dX4_run_27 : decode cX4_run 27 = .ok (.getfield 22, 3) := by decide +kernel
theorem dX4_run_30 : decode cX4_run 30 = .ok (.aload_n 0, 1) := by decide +kernel
theorem dX4_run_31 : decode cX4_run 31 = .ok (.getfield 10, 3) := by decide +kernel
theorem dX4_run_34 : decode cX4_run 34 = .ok (.invokevirtual 47, 3) := by decide +kernel
theorem dX4_run_37 : decode cX4_run 37 = .ok (.iconst 0, 1) := by decide +kernel
theorem dX4_run_38 : decode cX4_run 38 = .ok (.istore_n 2, 1) := by decide +kernel
theorem dX4_run_39 : decode cX4_run 39 = .ok (.iload_n 2, 1) := by decide +kernel
theorem dX4_run_40 : decode cX4_run 40 = .ok (.aload_n 0, 1) := by decide +kernel
theorem dX4_run_41 : decode cX4_run 41 = .ok (.getfield 36, 3) := by decide +kernel
theorem dX4_run_44 : decode cX4_run 44 = .ok (.getfield 220, 3) := by decide +kernel
theorem dX4_run_47 : decode cX4_run 47 = .ok (.if_icmp .ge 37, 3) := by decide +kernel
theorem dX4_run_50 : decode cX4_run 50 = .ok (.aload_n 0, 1) := by decide +kernel
theorem dX4_run_51 : decode cX4_run 51 = .ok (.iload_n 2, 1) := by decide +kernel
theorem dX4_run_52 : decode cX4_run 52 = .ok (.invokevirtual 223, 3) := by decide +kernel
theorem dX4_run_55 : decode cX4_run 55 = .ok (.istore_n 3, 1) := by decide +kernel
theorem dX4_run_56 : decode cX4_run 56 = .ok (.iload_n 3, 1) := by decide +kernel
theorem dX4_run_57 : decode cX4_run 57 = .ok (.ifCond .ge 21, 3) := by decide +kernel
theorem dX4_run_60 : decode cX4_run 60 = .ok (.aload_n 0, 1) := by decide +kernel
theorem dX4_run_61 : decode cX4_run 61 = .ok (.getfield 22, 3) := by decide +kernel
theorem dX4_run_64 : decode cX4_run 64 = .ok (.aload_n 0, 1) := by decide +kernel
theorem dX4_run_65 : decode cX4_run 65 = .ok (.getfield 10, 3) := by decide +kernel
theorem dX4_run_68 : decode cX4_run 68 = .ok (.invokevirtual 226, 3) := by decide +kernel
theorem dX4_run_71 : decode cX4_run 71 = .ok (.aload_n 0, 1) := by decide +kernel
theorem dX4_run_72 : decode cX4_run 72 = .ok (.iload_n 2, 1) := by decide +kernel
theorem dX4_run_73 : decode cX4_run 73 = .ok (.iload_n 3, 1) := by decide +kernel
theorem dX4_run_74 : decode cX4_run 74 = .ok (.invokevirtual 229, 3) := by decide +kernel
theorem dX4_run_77 : decode cX4_run 77 = .ok (.ireturn, 1) := by decide +kernel
theorem dX4_run_78 : decode cX4_run 78 = .ok (.iinc 2 1, 3) := by decide +kernel
theorem dX4_run_81 : decode cX4_run 81 = .ok (.goto (-42), 3) := by decide +kernel
theorem dX4_run_84 : decode cX4_run 84 = .ok (.aload_n 0, 1) := by decide +kernel
theorem dX4_run_85 : decode cX4_run 85 = .ok (.aload_n 0, 1) := by decide +kernel
theorem dX4_run_86 : decode cX4_run 86 = .ok (.getfield 36, 3) := by decide +kernel
theorem dX4_run_89 : decode cX4_run 89 = .ok (.getfield 220, 3) := by decide +kernel
theorem dX4_run_92 : decode cX4_run 92 = .ok (.invokevirtual 55, 3) := by decide +kernel
theorem dX4_run_95 : decode cX4_run 95 = .ok (.ireturn, 1) := by decide +kernel
theorem dX4_tell_0 : decode cX4_tell 0 = .ok (.aload_n 0, 1) := by decide +kernel
theorem dX4_tell_1 : decode cX4_tell 1 = .ok (.iload_n 1, 1) := by decide +kernel
theorem dX4_tell_2 : decode cX4_tell 2 = .ok (.invokevirtual 77, 3) := by decide +kernel
theorem dX4_tell_5 : decode cX4_tell 5 = .ok (.ifCond .ne 7, 3) := by decide +kernel
theorem dX4_tell_8 : decode cX4_tell 8 = .ok (.sipush (-1011), 3) := by decide +kernel
theorem dX4_tell_11 : decode cX4_tell 11 = .ok (.ireturn, 1) := by decide +kernel
theorem dX4_tell_12 : decode cX4_tell 12 = .ok (.aload_n 0, 1) := by decide +kernel
theorem dX4_tell_13 : decode cX4_tell 13 = .ok (.getfield 43, 3) := by decide +kernel
theorem dX4_tell_16 : decode cX4_tell 16 = .ok (.iconst 0, 1) := by decide +kernel
theorem dX4_tell_17 : decode cX4_tell 17 = .ok (.invokevirtual 232, 3) := by decide +kernel
theorem dX4_tell_20 : decode cX4_tell 20 = .ok (.aload_n 0, 1) := by decide +kernel
theorem dX4_tell_21 : decode cX4_tell 21 = .ok (.getfield 43, 3) := by decide +kernel
theorem dX4_tell_24 : decode cX4_tell 24 = .ok (.iload_n 1, 1) := by decide +kernel
theorem dX4_tell_25 : decode cX4_tell 25 = .ok (.invokevirtual 236, 3) := by decide +kernel
theorem dX4_tell_28 : decode cX4_tell 28 = .ok (.bipush 58, 2) := by decide +kernel
theorem dX4_tell_30 : decode cX4_tell 30 = .ok (.invokevirtual 240, 3) := by decide +kernel
theorem dX4_tell_33 : decode cX4_tell 33 = .ok (.aload_n 0, 1) := by decide +kernel
theorem dX4_tell_34 : decode cX4_tell 34 = .ok (.getfield 10, 3) := by decide +kernel
theorem dX4_tell_37 : decode cX4_tell 37 = .ok (.getfield 80, 3) := by decide +kernel
theorem dX4_tell_40 : decode cX4_tell 40 = .ok (.iload_n 1, 1) := by decide +kernel
theorem dX4_tell_41 : decode cX4_tell 41 = .ok (.iaload, 1) := by decide +kernel
theorem dX4_tell_42 : decode cX4_tell 42 = .ok (.invokevirtual 236, 3) := by decide +kernel
theorem dX4_tell_45 : decode cX4_tell 45 = .ok (.pop, 1) := by decide +kernel
theorem dX4_tell_46 : decode cX4_tell 46 = .ok (.aload_n 0, 1) := by decide +kernel
theorem dX4_tell_47 : decode cX4_tell 47 = .ok (.getfield 43, 3) := by decide +kernel
theorem dX4_tell_50 : decode cX4_tell 50 = .ok (.bipush 112, 2) := by decide +kernel
theorem dX4_tell_52 : decode cX4_tell 52 = .ok (.invokevirtual 240, 3) := by decide +kernel
theorem dX4_tell_55 : decode cX4_tell 55 = .ok (.aload_n 0, 1) := by decide +kernel
theorem dX4_tell_56 : decode cX4_tell 56 = .ok (.getfield 10, 3) := by decide +kernel
theorem dX4_tell_59 : decode cX4_tell 59 = .ok (.getfield 83, 3) := by decide +kernel
theorem dX4_tell_62 : decode cX4_tell 62 = .ok (.iload_n 1, 1) := by decide +kernel
theorem dX4_tell_63 : decode cX4_tell 63 = .ok (.iaload, 1) := by decide +kernel
theorem dX4_tell_64 : decode cX4_tell 64 = .ok (.invokevirtual 236, 3) := by decide +kernel
theorem dX4_tell_67 : decode cX4_tell 67 = .ok (.pop, 1) := by decide +kernel
theorem dX4_tell_68 : decode cX4_tell 68 = .ok (.aload_n 0, 1) := by decide +kernel
theorem dX4_tell_69 : decode cX4_tell 69 = .ok (.getfield 43, 3) := by decide +kernel
theorem dX4_tell_72 : decode cX4_tell 72 = .ok (.bipush 119, 2) := by decide +kernel
theorem dX4_tell_74 : decode cX4_tell 74 = .ok (.invokevirtual 240, 3) := by decide +kernel
theorem dX4_tell_77 : decode cX4_tell 77 = .ok (.aload_n 0, 1) := by decide +kernel
theorem dX4_tell_78 : decode cX4_tell 78 = .ok (.getfield 10, 3) := by decide +kernel
theorem dX4_tell_81 : decode cX4_tell 81 = .ok (.getfield 86, 3) := by decide +kernel
theorem dX4_tell_84 : decode cX4_tell 84 = .ok (.iload_n 1, 1) := by decide +kernel
theorem dX4_tell_85 : decode cX4_tell 85 = .ok (.iaload, 1) := by decide +kernel
theorem dX4_tell_86 : decode cX4_tell 86 = .ok (.invokevirtual 236, 3) := by decide +kernel
theorem dX4_tell_89 : decode cX4_tell 89 = .ok (.pop, 1) := by decide +kernel
theorem dX4_tell_90 : decode cX4_tell 90 = .ok (.aload_n 0, 1) := by decide +kernel
theorem dX4_tell_91 : decode cX4_tell 91 = .ok (.getfield 43, 3) := by decide +kernel
theorem dX4_tell_94 : decode cX4_tell 94 = .ok (.bipush 116, 2) := by decide +kernel
theorem dX4_tell_96 : decode cX4_tell 96 = .ok (.invokevirtual 240, 3) := by decide +kernel
theorem dX4_tell_99 : decode cX4_tell 99 = .ok (.aload_n 0, 1) := by decide +kernel
theorem dX4_tell_100 : decode cX4_tell 100 = .ok (.getfield 10, 3) := by decide +kernel
theorem dX4_tell_103 : decode cX4_tell 103 = .ok (.getfield 89, 3) := by decide +kernel
theorem dX4_tell_106 : decode cX4_tell 106 = .ok (.iload_n 1, 1) := by decide +kernel
theorem dX4_tell_107 : decode cX4_tell 107 = .ok (.iaload, 1) := by decide +kernel
theorem dX4_tell_108 : decode cX4_tell 108 = .ok (.invokevirtual 236, 3) := by decide +kernel
theorem dX4_tell_111 : decode cX4_tell 111 = .ok (.pop, 1) := by decide +kernel
theorem dX4_tell_112 : decode cX4_tell 112 = .ok (.aload_n 0, 1) := by decide +kernel
theorem dX4_tell_113 : decode cX4_tell 113 = .ok (.iload_n 1, 1) := by decide +kernel
theorem dX4_tell_114 : decode cX4_tell 114 = .ok (.invokevirtual 243, 3) := by decide +kernel
theorem dX4_tell_117 : decode cX4_tell 117 = .ok (.aload_n 0, 1) := by decide +kernel
theorem dX4_tell_118 : decode cX4_tell 118 = .ok (.getfield 43, 3) := by decide +kernel
theorem dX4_tell_121 : decode cX4_tell 121 = .ok (.invokevirtual 246, 3) := by decide +kernel
theorem dX4_tell_124 : decode cX4_tell 124 = .ok (.ireturn, 1) := by decide +kernel
theorem dX4_tellStoves_0 : decode cX4_tellStoves 0 = .ok (.aload_n 0, 1) := by decide +kernel
theorem dX4_tellStoves_1 : decode cX4_tellStoves 1 = .ok (.getfield 43, 3) := by decide +kernel
theorem dX4_tellStoves_4 : decode cX4_tellStoves 4 = .ok (.iconst 0, 1) := by decide +kernel
theorem dX4_tellStoves_5 : decode cX4_tellStoves 5 = .ok (.invokevirtual 232, 3) := by decide +kernel
theorem dX4_tellStoves_8 : decode cX4_tellStoves 8 = .ok (.iconst 0, 1) := by decide +kernel
theorem dX4_tellStoves_9 : decode cX4_tellStoves 9 = .ok (.istore_n 1, 1) := by decide +kernel
theorem dX4_tellStoves_10 : decode cX4_tellStoves 10 = .ok (.iload_n 1, 1) := by decide +kernel
theorem dX4_tellStoves_11 : decode cX4_tellStoves 11 = .ok (.bipush 6, 2) := by decide +kernel
theorem dX4_tellStoves_13 : decode cX4_tellStoves 13 = .ok (.if_icmp .ge 59, 3) := by decide +kernel
theorem dX4_tellStoves_16 : decode cX4_tellStoves 16 = .ok (.aload_n 0, 1) := by decide +kernel
theorem dX4_tellStoves_17 : decode cX4_tellStoves 17 = .ok (.getfield 43, 3) := by decide +kernel
theorem dX4_tellStoves_20 : decode cX4_tellStoves 20 = .ok (.aload_n 0, 1) := by decide +kernel
theorem dX4_tellStoves_21 : decode cX4_tellStoves 21 = .ok (.getfield 10, 3) := by decide +kernel
theorem dX4_tellStoves_24 : decode cX4_tellStoves 24 = .ok (.getfield 133, 3) := by decide +kernel
theorem dX4_tellStoves_27 : decode cX4_tellStoves 27 = .ok (.iload_n 1, 1) := by decide +kernel
theorem dX4_tellStoves_28 : decode cX4_tellStoves 28 = .ok (.iaload, 1) := by decide +kernel
theorem dX4_tellStoves_29 : decode cX4_tellStoves 29 = .ok (.invokevirtual 236, 3) := by decide +kernel
theorem dX4_tellStoves_32 : decode cX4_tellStoves 32 = .ok (.pop, 1) := by decide +kernel
theorem dX4_tellStoves_33 : decode cX4_tellStoves 33 = .ok (.aload_n 0, 1) := by decide +kernel
theorem dX4_tellStoves_34 : decode cX4_tellStoves 34 = .ok (.getfield 10, 3) := by decide +kernel
theorem dX4_tellStoves_37 : decode cX4_tellStoves 37 = .ok (.iload_n 1, 1) := by decide +kernel
theorem dX4_tellStoves_38 : decode cX4_tellStoves 38 = .ok (.invokevirtual 136, 3) := by decide +kernel
theorem dX4_tellStoves_41 : decode cX4_tellStoves 41 = .ok (.istore_n 2, 1) := by decide +kernel
theorem dX4_tellStoves_42 : decode cX4_tellStoves 42 = .ok (.iload_n 2, 1) := by decide +kernel
theorem dX4_tellStoves_43 : decode cX4_tellStoves 43 = .ok (.iconst (-1), 1) := by decide +kernel
theorem dX4_tellStoves_44 : decode cX4_tellStoves 44 = .ok (.if_icmp .eq 22, 3) := by decide +kernel
theorem dX4_tellStoves_47 : decode cX4_tellStoves 47 = .ok (.aload_n 0, 1) := by decide +kernel
theorem dX4_tellStoves_48 : decode cX4_tellStoves 48 = .ok (.getfield 43, 3) := by decide +kernel
theorem dX4_tellStoves_51 : decode cX4_tellStoves 51 = .ok (.bipush 40, 2) := by decide +kernel
theorem dX4_tellStoves_53 : decode cX4_tellStoves 53 = .ok (.invokevirtual 240, 3) := by decide +kernel
theorem dX4_tellStoves_56 : decode cX4_tellStoves 56 = .ok (.iload_n 2, 1) := by decide +kernel
theorem dX4_tellStoves_57 : decode cX4_tellStoves 57 = .ok (.invokevirtual 236, 3) := by decide +kernel
theorem dX4_tellStoves_60 : decode cX4_tellStoves 60 = .ok (.bipush 41, 2) := by decide +kernel
theorem dX4_tellStoves_62 : decode cX4_tellStoves 62 = .ok (.invokevirtual 240, 3) := by decide +kernel
theorem dX4_tellStoves_65 : decode cX4_tellStoves 65 = .ok (.pop, 1) := by decide +kernel
theorem dX4_tellStoves_66 : decode cX4_tellStoves 66 = .ok (.iinc 1 1, 3) := by decide +kernel
theorem dX4_tellStoves_69 : decode cX4_tellStoves 69 = .ok (.goto (-59), 3) := by decide +kernel
theorem dX4_tellStoves_72 : decode cX4_tellStoves 72 = .ok (.aload_n 0, 1) := by decide +kernel
theorem dX4_tellStoves_73 : decode cX4_tellStoves 73 = .ok (.getfield 43, 3) := by decide +kernel
theorem dX4_tellStoves_76 : decode cX4_tellStoves 76 = .ok (.invokevirtual 246, 3) := by decide +kernel
theorem dX4_tellStoves_79 : decode cX4_tellStoves 79 = .ok (.ireturn, 1) := by decide +kernel
theorem dX4_character_0 : decode cX4_character 0 = .ok (.iload_n 1, 1) := by decide +kernel
theorem dX4_character_1 : decode cX4_character 1 = .ok (.ifCond .lt 25, 3) := by decide +kernel
theorem dX4_character_4 : decode cX4_character 4 = .ok (.iload_n 1, 1) := by decide +kernel
theorem dX4_character_5 : decode cX4_character 5 = .ok (.aload_n 0, 1) := by decide +kernel
theorem dX4_character_6 : decode cX4_character 6 = .ok (.getfield 43, 3) := by decide +kernel
theorem dX4_character_9 : decode cX4_character 9 = .ok (.invokevirtual 246, 3) := by decide +kernel
theorem dX4_character_12 : decode cX4_character 12 = .ok (.if_icmp .ge 14, 3) := by decide +kernel
theorem dX4_character_15 : decode cX4_character 15 = .ok (.aload_n 0, 1) := by decide +kernel
theorem dX4_character_16 : decode cX4_character 16 = .ok (.getfield 43, 3) := by decide +kernel
theorem dX4_character_19 : decode cX4_character 19 = .ok (.iload_n 1, 1) := by decide +kernel
theorem dX4_character_20 : decode cX4_character 20 = .ok (.invokevirtual 248, 3) := by decide +kernel
theorem dX4_character_23 : decode cX4_character 23 = .ok (.goto 6, 3) := by decide +kernel
theorem dX4_character_26 : decode cX4_character 26 = .ok (.sipush (-1011), 3) := by decide +kernel
theorem dX4_character_29 : decode cX4_character 29 = .ok (.ireturn, 1) := by decide +kernel
theorem dX4_reason_0 : decode cX4_reason 0 = .ok (.iload_n 1, 1) := by decide +kernel
theorem dX4_reason_1 : decode cX4_reason 1 = .ok (.ifCond .lt 8, 3) := by decide +kernel
theorem dX4_reason_4 : decode cX4_reason 4 = .ok (.iload_n 1, 1) := by decide +kernel
theorem dX4_reason_5 : decode cX4_reason 5 = .ok (.iconst 3, 1) := by decide +kernel
theorem dX4_reason_6 : decode cX4_reason 6 = .ok (.if_icmp .lt 7, 3) := by decide +kernel
theorem dX4_reason_9 : decode cX4_reason 9 = .ok (.sipush (-1012), 3) := by decide +kernel
theorem dX4_reason_12 : decode cX4_reason 12 = .ok (.ireturn, 1) := by decide +kernel
theorem dX4_reason_13 : decode cX4_reason 13 = .ok (.iload_n 1, 1) := by decide +kernel
theorem dX4_reason_14 : decode cX4_reason 14 = .ok (.aload_n 0, 1) := by decide +kernel
theorem dX4_reason_15 : decode cX4_reason 15 = .ok (.getfield 29, 3) := by decide +kernel
theorem dX4_reason_18 : decode cX4_reason 18 = .ok (.getfield 252, 3) := by decide +kernel
theorem dX4_reason_21 : decode cX4_reason 21 = .ok (.if_icmp .lt 7, 3) := by decide +kernel
theorem dX4_reason_24 : decode cX4_reason 24 = .ok (.sipush (-1015), 3) := by decide +kernel
theorem dX4_reason_27 : decode cX4_reason 27 = .ok (.ireturn, 1) := by decide +kernel
theorem dX4_reason_28 : decode cX4_reason 28 = .ok (.iload_n 2, 1) := by decide +kernel
theorem dX4_reason_29 : decode cX4_reason 29 = .ok (.ifCond .eq 15, 3) := by decide +kernel
theorem dX4_reason_32 : decode cX4_reason 32 = .ok (.aload_n 0, 1) := by decide +kernel
theorem dX4_reason_33 : decode cX4_reason 33 = .ok (.getfield 29, 3) := by decide +kernel
theorem dX4_reason_36 : decode cX4_reason 36 = .ok (.getfield 253, 3) := by decide +kernel
theorem dX4_reason_39 : decode cX4_reason 39 = .ok (.iload_n 1, 1) := by decide +kernel
theorem dX4_reason_40 : decode cX4_reason 40 = .ok (.iaload, 1) := by decide +kernel
theorem dX4_reason_41 : decode cX4_reason 41 = .ok (.goto 12, 3) := by decide +kernel
theorem dX4_reason_44 : decode cX4_reason 44 = .ok (.aload_n 0, 1) := by decide +kernel
theorem dX4_reason_45 : decode cX4_reason 45 = .ok (.getfield 29, 3) := by decide +kernel
theorem dX4_reason_48 : decode cX4_reason 48 = .ok (.getfield 256, 3) := by decide +kernel
theorem dX4_reason_51 : decode cX4_reason 51 = .ok (.iload_n 1, 1) := by decide +kernel
theorem dX4_reason_52 : decode cX4_reason 52 = .ok (.iaload, 1) := by decide +kernel
theorem dX4_reason_53 : decode cX4_reason 53 = .ok (.ireturn, 1) := by decide +kernel
theorem dX4_account_0 : decode cX4_account 0 = .ok (.iload_n 1, 1) := by decide +kernel
theorem dX4_account_1 : decode cX4_account 1 = .ok (.tableswitch 177 0 12 #[67, 75, 83, 91, 99, 107, 115, 123, 131, 139, 150, 161, 169], 67) := by decide +kernel
theorem dX4_account_68 : decode cX4_account 68 = .ok (.aload_n 0, 1) := by decide +kernel
theorem dX4_account_69 : decode cX4_account 69 = .ok (.getfield 10, 3) := by decide +kernel
theorem dX4_account_72 : decode cX4_account 72 = .ok (.getfield 146, 3) := by decide +kernel
theorem dX4_account_75 : decode cX4_account 75 = .ok (.ireturn, 1) := by decide +kernel
theorem dX4_account_76 : decode cX4_account 76 = .ok (.aload_n 0, 1) := by decide +kernel
theorem dX4_account_77 : decode cX4_account 77 = .ok (.getfield 10, 3) := by decide +kernel
theorem dX4_account_80 : decode cX4_account 80 = .ok (.invokevirtual 259, 3) := by decide +kernel
theorem dX4_account_83 : decode cX4_account 83 = .ok (.ireturn, 1) := by decide +kernel
theorem dX4_account_84 : decode cX4_account 84 = .ok (.aload_n 0, 1) := by decide +kernel
theorem dX4_account_85 : decode cX4_account 85 = .ok (.getfield 10, 3) := by decide +kernel
theorem dX4_account_88 : decode cX4_account 88 = .ok (.invokevirtual 262, 3) := by decide +kernel
theorem dX4_account_91 : decode cX4_account 91 = .ok (.ireturn, 1) := by decide +kernel
theorem dX4_account_92 : decode cX4_account 92 = .ok (.aload_n 0, 1) := by decide +kernel
theorem dX4_account_93 : decode cX4_account 93 = .ok (.getfield 10, 3) := by decide +kernel
theorem dX4_account_96 : decode cX4_account 96 = .ok (.invokevirtual 265, 3) := by decide +kernel
theorem dX4_account_99 : decode cX4_account 99 = .ok (.ireturn, 1) := by decide +kernel
theorem dX4_account_100 : decode cX4_account 100 = .ok (.aload_n 0, 1) := by decide +kernel
theorem dX4_account_101 : decode cX4_account 101 = .ok (.getfield 10, 3) := by decide +kernel
theorem dX4_account_104 : decode cX4_account 104 = .ok (.invokevirtual 268, 3) := by decide +kernel
theorem dX4_account_107 : decode cX4_account 107 = .ok (.ireturn, 1) := by decide +kernel
theorem dX4_account_108 : decode cX4_account 108 = .ok (.aload_n 0, 1) := by decide +kernel
theorem dX4_account_109 : decode cX4_account 109 = .ok (.getfield 10, 3) := by decide +kernel
theorem dX4_account_112 : decode cX4_account 112 = .ok (.getfield 271, 3) := by decide +kernel
theorem dX4_account_115 : decode cX4_account 115 = .ok (.ireturn, 1) := by decide +kernel
theorem dX4_account_116 : decode cX4_account 116 = .ok (.aload_n 0, 1) := by decide +kernel
theorem dX4_account_117 : decode cX4_account 117 = .ok (.getfield 10, 3) := by decide +kernel
theorem dX4_account_120 : decode cX4_account 120 = .ok (.invokevirtual 274, 3) := by decide +kernel
theorem dX4_account_123 : decode cX4_account 123 = .ok (.ireturn, 1) := by decide +kernel
theorem dX4_account_124 : decode cX4_account 124 = .ok (.aload_n 0, 1) := by decide +kernel
theorem dX4_account_125 : decode cX4_account 125 = .ok (.getfield 10, 3) := by decide +kernel
theorem dX4_account_128 : decode cX4_account 128 = .ok (.getfield 277, 3) := by decide +kernel
theorem dX4_account_131 : decode cX4_account 131 = .ok (.ireturn, 1) := by decide +kernel
theorem dX4_account_132 : decode cX4_account 132 = .ok (.aload_n 0, 1) := by decide +kernel
theorem dX4_account_133 : decode cX4_account 133 = .ok (.getfield 10, 3) := by decide +kernel
theorem dX4_account_136 : decode cX4_account 136 = .ok (.getfield 280, 3) := by decide +kernel
theorem dX4_account_139 : decode cX4_account 139 = .ok (.ireturn, 1) := by decide +kernel
theorem dX4_account_140 : decode cX4_account 140 = .ok (.aload_n 0, 1) := by decide +kernel
theorem dX4_account_141 : decode cX4_account 141 = .ok (.getfield 10, 3) := by decide +kernel
theorem dX4_account_144 : decode cX4_account 144 = .ok (.getfield 195, 3) := by decide +kernel
theorem dX4_account_147 : decode cX4_account 147 = .ok (.invokestatic 283, 3) := by decide +kernel
theorem dX4_account_150 : decode cX4_account 150 = .ok (.ireturn, 1) := by decide +kernel
theorem dX4_account_151 : decode cX4_account 151 = .ok (.aload_n 0, 1) := by decide +kernel
theorem dX4_account_152 : decode cX4_account 152 = .ok (.getfield 10, 3) := by decide +kernel
theorem dX4_account_155 : decode cX4_account 155 = .ok (.getfield 183, 3) := by decide +kernel
theorem dX4_account_158 : decode cX4_account 158 = .ok (.invokestatic 283, 3) := by decide +kernel
theorem dX4_account_161 : decode cX4_account 161 = .ok (.ireturn, 1) := by decide +kernel
theorem dX4_account_162 : decode cX4_account 162 = .ok (.aload_n 0, 1) := by decide +kernel
theorem dX4_account_163 : decode cX4_account 163 = .ok (.getfield 36, 3) := by decide +kernel
theorem dX4_account_166 : decode cX4_account 166 = .ok (.getfield 211, 3) := by decide +kernel
theorem dX4_account_169 : decode cX4_account 169 = .ok (.ireturn, 1) := by decide +kernel
theorem dX4_account_170 : decode cX4_account 170 = .ok (.aload_n 0, 1) := by decide +kernel
theorem dX4_account_171 : decode cX4_account 171 = .ok (.getfield 22, 3) := by decide +kernel
theorem dX4_account_174 : decode cX4_account 174 = .ok (.getfield 287, 3) := by decide +kernel
theorem dX4_account_177 : decode cX4_account 177 = .ok (.ireturn, 1) := by decide +kernel
theorem dX4_account_178 : decode cX4_account 178 = .ok (.sipush (-1012), 3) := by decide +kernel
theorem dX4_account_181 : decode cX4_account 181 = .ok (.ireturn, 1) := by decide +kernel
theorem dX4_isBalanced_0 : decode cX4_isBalanced 0 = .ok (.aload_n 0, 1) := by decide +kernel
theorem dX4_isBalanced_1 : decode cX4_isBalanced 1 = .ok (.getfield 10, 3) := by decide +kernel
theorem dX4_isBalanced_4 : decode cX4_isBalanced 4 = .ok (.getfield 277, 3) := by decide +kernel
theorem dX4_isBalanced_7 : decode cX4_isBalanced 7 = .ok (.aload_n 0, 1) := by decide +kernel
theorem dX4_isBalanced_8 : decode cX4_isBalanced 8 = .ok (.getfield 10, 3) := by decide +kernel
theorem dX4_isBalanced_11 : decode cX4_isBalanced 11 = .ok (.invokevirtual 274, 3) := by decide +kernel
theorem dX4_isBalanced_14 : decode cX4_isBalanced 14 = .ok (.aload_n 0, 1) := by decide +kernel
theorem dX4_isBalanced_15 : decode cX4_isBalanced 15 = .ok (.getfield 10, 3) := by decide +kernel
theorem dX4_isBalanced_18 : decode cX4_isBalanced 18 = .ok (.getfield 280, 3) := by decide +kernel
theorem dX4_isBalanced_21 : decode cX4_isBalanced 21 = .ok (.iadd, 1) := by decide +kernel
theorem dX4_isBalanced_22 : decode cX4_isBalanced 22 = .ok (.if_icmp .ne 7, 3) := by decide +kernel
theorem dX4_isBalanced_25 : decode cX4_isBalanced 25 = .ok (.iconst 1, 1) := by decide +kernel
theorem dX4_isBalanced_26 : decode cX4_isBalanced 26 = .ok (.goto 4, 3) := by decide +kernel
theorem dX4_isBalanced_29 : decode cX4_isBalanced 29 = .ok (.iconst 0, 1) := by decide +kernel
theorem dX4_isBalanced_30 : decode cX4_isBalanced 30 = .ok (.istore_n 1, 1) := by decide +kernel
theorem dX4_isBalanced_31 : decode cX4_isBalanced 31 = .ok (.aload_n 0, 1) := by decide +kernel
theorem dX4_isBalanced_32 : decode cX4_isBalanced 32 = .ok (.invokevirtual 288, 3) := by decide +kernel
theorem dX4_isBalanced_35 : decode cX4_isBalanced 35 = .ok (.aload_n 0, 1) := by decide +kernel
theorem dX4_isBalanced_36 : decode cX4_isBalanced 36 = .ok (.invokevirtual 291, 3) := by decide +kernel
theorem dX4_isBalanced_39 : decode cX4_isBalanced 39 = .ok (.if_icmp .ne 7, 3) := by decide +kernel
theorem dX4_isBalanced_42 : decode cX4_isBalanced 42 = .ok (.iconst 1, 1) := by decide +kernel
theorem dX4_isBalanced_43 : decode cX4_isBalanced 43 = .ok (.goto 4, 3) := by decide +kernel
theorem dX4_isBalanced_46 : decode cX4_isBalanced 46 = .ok (.iconst 0, 1) := by decide +kernel
theorem dX4_isBalanced_47 : decode cX4_isBalanced 47 = .ok (.istore_n 2, 1) := by decide +kernel
theorem dX4_isBalanced_48 : decode cX4_isBalanced 48 = .ok (.iload_n 1, 1) := by decide +kernel
theorem dX4_isBalanced_49 : decode cX4_isBalanced 49 = .ok (.ifCond .eq 28, 3) := by decide +kernel
theorem dX4_isBalanced_52 : decode cX4_isBalanced 52 = .ok (.iload_n 2, 1) := by decide +kernel
theorem dX4_isBalanced_53 : decode cX4_isBalanced 53 = .ok (.ifCond .eq 24, 3) := by decide +kernel
theorem dX4_isBalanced_56 : decode cX4_isBalanced 56 = .ok (.aload_n 0, 1) := by decide +kernel
theorem dX4_isBalanced_57 : decode cX4_isBalanced 57 = .ok (.invokevirtual 294, 3) := by decide +kernel
theorem dX4_isBalanced_60 : decode cX4_isBalanced 60 = .ok (.ifCond .eq 17, 3) := by decide +kernel
theorem dX4_isBalanced_63 : decode cX4_isBalanced 63 = .ok (.aload_n 0, 1) := by decide +kernel
theorem dX4_isBalanced_64 : decode cX4_isBalanced 64 = .ok (.getfield 10, 3) := by decide +kernel
theorem dX4_isBalanced_67 : decode cX4_isBalanced 67 = .ok (.invokevirtual 298, 3) := by decide +kernel
theorem dX4_isBalanced_70 : decode cX4_isBalanced 70 = .ok (.ifCond .ne 7, 3) := by decide +kernel
theorem dX4_isBalanced_73 : decode cX4_isBalanced 73 = .ok (.iconst 1, 1) := by decide +kernel
theorem dX4_isBalanced_74 : decode cX4_isBalanced 74 = .ok (.goto 4, 3) := by decide +kernel
theorem dX4_isBalanced_77 : decode cX4_isBalanced 77 = .ok (.iconst 0, 1) := by decide +kernel
theorem dX4_isBalanced_78 : decode cX4_isBalanced 78 = .ok (.ireturn, 1) := by decide +kernel
theorem dX4_meanWater_0 : decode cX4_meanWater 0 = .ok (.aload_n 0, 1) := by decide +kernel
theorem dX4_meanWater_1 : decode cX4_meanWater 1 = .ok (.getfield 10, 3) := by decide +kernel
theorem dX4_meanWater_4 : decode cX4_meanWater 4 = .ok (.getfield 146, 3) := by decide +kernel
theorem dX4_meanWater_7 : decode cX4_meanWater 7 = .ok (.ifCond .ne 7, 3) := by decide +kernel
theorem dX4_meanWater_10 : decode cX4_meanWater 10 = .ok (.dconst 0, 1) := by decide +kernel
theorem dX4_meanWater_11 : decode cX4_meanWater 11 = .ok (.goto 20, 3) := by decide +kernel
theorem dX4_meanWater_14 : decode cX4_meanWater 14 = .ok (.aload_n 0, 1) := by decide +kernel
theorem dX4_meanWater_15 : decode cX4_meanWater 15 = .ok (.getfield 10, 3) := by decide +kernel
theorem dX4_meanWater_18 : decode cX4_meanWater 18 = .ok (.invokevirtual 274, 3) := by decide +kernel
theorem dX4_meanWater_21 : decode cX4_meanWater 21 = .ok (.i2d, 1) := by decide +kernel
theorem dX4_meanWater_22 : decode cX4_meanWater 22 = .ok (.aload_n 0, 1) := by decide +kernel
theorem dX4_meanWater_23 : decode cX4_meanWater 23 = .ok (.getfield 10, 3) := by decide +kernel
theorem dX4_meanWater_26 : decode cX4_meanWater 26 = .ok (.getfield 146, 3) := by decide +kernel
theorem dX4_meanWater_29 : decode cX4_meanWater 29 = .ok (.i2d, 1) := by decide +kernel
theorem dX4_meanWater_30 : decode cX4_meanWater 30 = .ok (.ddiv, 1) := by decide +kernel
theorem dX4_meanWater_31 : decode cX4_meanWater 31 = .ok (.dreturn, 1) := by decide +kernel
theorem dX4_whistleShare_0 : decode cX4_whistleShare 0 = .ok (.aload_n 0, 1) := by decide +kernel
theorem dX4_whistleShare_1 : decode cX4_whistleShare 1 = .ok (.getfield 10, 3) := by decide +kernel
theorem dX4_whistleShare_4 : decode cX4_whistleShare 4 = .ok (.invokevirtual 259, 3) := by decide +kernel
theorem dX4_whistleShare_7 : decode cX4_whistleShare 7 = .ok (.istore_n 1, 1) := by decide +kernel
theorem dX4_whistleShare_8 : decode cX4_whistleShare 8 = .ok (.iload_n 1, 1) := by decide +kernel
theorem dX4_whistleShare_9 : decode cX4_whistleShare 9 = .ok (.ifCond .ne 7, 3) := by decide +kernel
theorem dX4_whistleShare_12 : decode cX4_whistleShare 12 = .ok (.fconst 0, 1) := by decide +kernel
theorem dX4_whistleShare_13 : decode cX4_whistleShare 13 = .ok (.goto 17, 3) := by decide +kernel
theorem dX4_whistleShare_16 : decode cX4_whistleShare 16 = .ok (.aload_n 0, 1) := by decide +kernel
theorem dX4_whistleShare_17 : decode cX4_whistleShare 17 = .ok (.getfield 10, 3) := by decide +kernel
theorem dX4_whistleShare_20 : decode cX4_whistleShare 20 = .ok (.invokevirtual 142, 3) := by decide +kernel
theorem dX4_whistleShare_23 : decode cX4_whistleShare 23 = .ok (.invokestatic 110, 3) := by decide +kernel
theorem dX4_whistleShare_26 : decode cX4_whistleShare 26 = .ok (.i2f, 1) := by decide +kernel
theorem dX4_whistleShare_27 : decode cX4_whistleShare 27 = .ok (.iload_n 1, 1) := by decide +kernel
theorem dX4_whistleShare_28 : decode cX4_whistleShare 28 = .ok (.i2f, 1) := by decide +kernel
theorem dX4_whistleShare_29 : decode cX4_whistleShare 29 = .ok (.fdiv, 1) := by decide +kernel
theorem dX4_whistleShare_30 : decode cX4_whistleShare 30 = .ok (.freturn, 1) := by decide +kernel
theorem dX4_undo_0 : decode cX4_undo 0 = .ok (.aload_n 0, 1) := by decide +kernel
theorem dX4_undo_1 : decode cX4_undo 1 = .ok (.getfield 22, 3) := by decide +kernel
theorem dX4_undo_4 : decode cX4_undo 4 = .ok (.getfield 287, 3) := by decide +kernel
theorem dX4_undo_7 : decode cX4_undo 7 = .ok (.ifCond .ne 7, 3) := by decide +kernel
theorem dX4_undo_10 : decode cX4_undo 10 = .ok (.sipush (-1015), 3) := by decide +kernel
theorem dX4_undo_13 : decode cX4_undo 13 = .ok (.ireturn, 1) := by decide +kernel
theorem dX4_undo_14 : decode cX4_undo 14 = .ok (.aload_n 0, 1) := by decide +kernel
theorem dX4_undo_15 : decode cX4_undo 15 = .ok (.getfield 22, 3) := by decide +kernel
theorem dX4_undo_18 : decode cX4_undo 18 = .ok (.aload_n 0, 1) := by decide +kernel
theorem dX4_undo_19 : decode cX4_undo 19 = .ok (.getfield 10, 3) := by decide +kernel
theorem dX4_undo_22 : decode cX4_undo 22 = .ok (.invokevirtual 301, 3) := by decide +kernel
theorem dX4_undo_25 : decode cX4_undo 25 = .ok (.aload_n 0, 1) := by decide +kernel
theorem dX4_undo_26 : decode cX4_undo 26 = .ok (.getfield 22, 3) := by decide +kernel
theorem dX4_undo_29 : decode cX4_undo 29 = .ok (.getfield 287, 3) := by decide +kernel
theorem dX4_undo_32 : decode cX4_undo 32 = .ok (.ireturn, 1) := by decide +kernel
theorem dX4_save_0 : decode cX4_save 0 = .ok (.aload_n 0, 1) := by decide +kernel
theorem dX4_save_1 : decode cX4_save 1 = .ok (.getfield 16, 3) := by decide +kernel
theorem dX4_save_4 : decode cX4_save 4 = .ok (.aload_n 0, 1) := by decide +kernel
theorem dX4_save_5 : decode cX4_save 5 = .ok (.getfield 10, 3) := by decide +kernel
theorem dX4_save_8 : decode cX4_save 8 = .ok (.invokevirtual 304, 3) := by decide +kernel
theorem dX4_save_11 : decode cX4_save 11 = .ok (.aload_n 0, 1) := by decide +kernel
theorem dX4_save_12 : decode cX4_save 12 = .ok (.iconst 1, 1) := by decide +kernel
theorem dX4_save_13 : decode cX4_save 13 = .ok (.putfield 307, 3) := by decide +kernel
theorem dX4_save_16 : decode cX4_save 16 = .ok (.aload_n 0, 1) := by decide +kernel
theorem dX4_save_17 : decode cX4_save 17 = .ok (.getfield 10, 3) := by decide +kernel
theorem dX4_save_20 : decode cX4_save 20 = .ok (.getfield 146, 3) := by decide +kernel
theorem dX4_save_23 : decode cX4_save 23 = .ok (.ireturn, 1) := by decide +kernel
theorem dX4_restore_0 : decode cX4_restore 0 = .ok (.aload_n 0, 1) := by decide +kernel
theorem dX4_restore_1 : decode cX4_restore 1 = .ok (.getfield 307, 3) := by decide +kernel
theorem dX4_restore_4 : decode cX4_restore 4 = .ok (.ifCond .ne 7, 3) := by decide +kernel
theorem dX4_restore_7 : decode cX4_restore 7 = .ok (.sipush (-1015), 3) := by decide +kernel
theorem dX4_restore_10 : decode cX4_restore 10 = .ok (.ireturn, 1) := by decide +kernel
theorem dX4_restore_11 : decode cX4_restore 11 = .ok (.aload_n 0, 1) := by decide +kernel
theorem dX4_restore_12 : decode cX4_restore 12 = .ok (.getfield 10, 3) := by decide +kernel
theorem dX4_restore_15 : decode cX4_restore 15 = .ok (.aload_n 0, 1) := by decide +kernel
theorem dX4_restore_16 : decode cX4_restore 16 = .ok (.getfield 16, 3) := by decide +kernel
theorem dX4_restore_19 : decode cX4_restore 19 = .ok (.invokevirtual 304, 3) := by decide +kernel
theorem dX4_restore_22 : decode cX4_restore 22 = .ok (.aload_n 0, 1) := by decide +kernel
theorem dX4_restore_23 : decode cX4_restore 23 = .ok (.getfield 22, 3) := by decide +kernel
theorem dX4_restore_26 : decode cX4_restore 26 = .ok (.iconst 0, 1) := by decide +kernel
theorem dX4_restore_27 : decode cX4_restore 27 = .ok (.putfield 287, 3) := by decide +kernel
theorem dX4_restore_30 : decode cX4_restore 30 = .ok (.aload_n 0, 1) := by decide +kernel
theorem dX4_restore_31 : decode cX4_restore 31 = .ok (.getfield 10, 3) := by decide +kernel
theorem dX4_restore_34 : decode cX4_restore 34 = .ok (.getfield 146, 3) := by decide +kernel
theorem dX4_restore_37 : decode cX4_restore 37 = .ok (.ireturn, 1) := by decide +kernel
theorem dX4_isMember_0 : decode cX4_isMember 0 = .ok (.iload_n 0, 1) := by decide +kernel
theorem dX4_isMember_1 : decode cX4_isMember 1 = .ok (.ifCond .lt 12, 3) := by decide +kernel
theorem dX4_isMember_4 : decode cX4_isMember 4 = .ok (.iload_n 0, 1) := by decide +kernel
theorem dX4_isMember_5 : decode cX4_isMember 5 = .ok (.iconst 4, 1) := by decide +kernel
theorem dX4_isMember_6 : decode cX4_isMember 6 = .ok (.if_icmp .ge 7, 3) := by decide +kernel
theorem dX4_isMember_9 : decode cX4_isMember 9 = .ok (.iconst 1, 1) := by decide +kernel
theorem dX4_isMember_10 : decode cX4_isMember 10 = .ok (.goto 4, 3) := by decide +kernel
theorem dX4_isMember_13 : decode cX4_isMember 13 = .ok (.iconst 0, 1) := by decide +kernel
theorem dX4_isMember_14 : decode cX4_isMember 14 = .ok (.ireturn, 1) := by decide +kernel
theorem dX4_isPitch_0 : decode cX4_isPitch 0 = .ok (.iload_n 0, 1) := by decide +kernel
theorem dX4_isPitch_1 : decode cX4_isPitch 1 = .ok (.iconst 1, 1) := by decide +kernel
theorem dX4_isPitch_2 : decode cX4_isPitch 2 = .ok (.if_icmp .lt 13, 3) := by decide +kernel
theorem dX4_isPitch_5 : decode cX4_isPitch 5 = .ok (.iload_n 0, 1) := by decide +kernel
theorem dX4_isPitch_6 : decode cX4_isPitch 6 = .ok (.bipush 12, 2) := by decide +kernel
theorem dX4_isPitch_8 : decode cX4_isPitch 8 = .ok (.if_icmp .gt 7, 3) := by decide +kernel
theorem dX4_isPitch_11 : decode cX4_isPitch 11 = .ok (.iconst 1, 1) := by decide +kernel
theorem dX4_isPitch_12 : decode cX4_isPitch 12 = .ok (.goto 4, 3) := by decide +kernel
theorem dX4_isPitch_15 : decode cX4_isPitch 15 = .ok (.iconst 0, 1) := by decide +kernel
theorem dX4_isPitch_16 : decode cX4_isPitch 16 = .ok (.ireturn, 1) := by decide +kernel
theorem dX4_isStove_0 : decode cX4_isStove 0 = .ok (.iload_n 0, 1) := by decide +kernel
theorem dX4_isStove_1 : decode cX4_isStove 1 = .ok (.ifCond .lt 13, 3) := by decide +kernel
theorem dX4_isStove_4 : decode cX4_isStove 4 = .ok (.iload_n 0, 1) := by decide +kernel
theorem dX4_isStove_5 : decode cX4_isStove 5 = .ok (.bipush 6, 2) := by decide +kernel
theorem dX4_isStove_7 : decode cX4_isStove 7 = .ok (.if_icmp .ge 7, 3) := by decide +kernel
theorem dX4_isStove_10 : decode cX4_isStove 10 = .ok (.iconst 1, 1) := by decide +kernel
theorem dX4_isStove_11 : decode cX4_isStove 11 = .ok (.goto 4, 3) := by decide +kernel
theorem dX4_isStove_14 : decode cX4_isStove 14 = .ok (.iconst 0, 1) := by decide +kernel
theorem dX4_isStove_15 : decode cX4_isStove 15 = .ok (.ireturn, 1) := by decide +kernel
theorem dX4_isKettle_0 : decode cX4_isKettle 0 = .ok (.iload_n 1, 1) := by decide +kernel
theorem dX4_isKettle_1 : decode cX4_isKettle 1 = .ok (.ifCond .lt 18, 3) := by decide +kernel
theorem dX4_isKettle_4 : decode cX4_isKettle 4 = .ok (.iload_n 1, 1) := by decide +kernel
theorem dX4_isKettle_5 : decode cX4_isKettle 5 = .ok (.aload_n 0, 1) := by decide +kernel
theorem dX4_isKettle_6 : decode cX4_isKettle 6 = .ok (.getfield 10, 3) := by decide +kernel
theorem dX4_isKettle_9 : decode cX4_isKettle 9 = .ok (.getfield 146, 3) := by decide +kernel
theorem dX4_isKettle_12 : decode cX4_isKettle 12 = .ok (.if_icmp .ge 7, 3) := by decide +kernel
theorem dX4_isKettle_15 : decode cX4_isKettle 15 = .ok (.iconst 1, 1) := by decide +kernel
theorem dX4_isKettle_16 : decode cX4_isKettle 16 = .ok (.goto 4, 3) := by decide +kernel
theorem dX4_isKettle_19 : decode cX4_isKettle 19 = .ok (.iconst 0, 1) := by decide +kernel
theorem dX4_isKettle_20 : decode cX4_isKettle 20 = .ok (.ireturn, 1) := by decide +kernel
theorem dX4_isIn_0 : decode cX4_isIn 0 = .ok (.iload_n 0, 1) := by decide +kernel
theorem dX4_isIn_1 : decode cX4_isIn 1 = .ok (.iload_n 1, 1) := by decide +kernel
theorem dX4_isIn_2 : decode cX4_isIn 2 = .ok (.ishr, 1) := by decide +kernel
theorem dX4_isIn_3 : decode cX4_isIn 3 = .ok (.iconst 1, 1) := by decide +kernel
theorem dX4_isIn_4 : decode cX4_isIn 4 = .ok (.iand, 1) := by decide +kernel
theorem dX4_isIn_5 : decode cX4_isIn 5 = .ok (.iconst 1, 1) := by decide +kernel
theorem dX4_isIn_6 : decode cX4_isIn 6 = .ok (.if_icmp .ne 7, 3) := by decide +kernel
theorem dX4_isIn_9 : decode cX4_isIn 9 = .ok (.iconst 1, 1) := by decide +kernel
theorem dX4_isIn_10 : decode cX4_isIn 10 = .ok (.goto 4, 3) := by decide +kernel
theorem dX4_isIn_13 : decode cX4_isIn 13 = .ok (.iconst 0, 1) := by decide +kernel
theorem dX4_isIn_14 : decode cX4_isIn 14 = .ok (.ireturn, 1) := by decide +kernel
theorem dX4_orNothing_0 : decode cX4_orNothing 0 = .ok (.iload_n 0, 1) := by decide +kernel
theorem dX4_orNothing_1 : decode cX4_orNothing 1 = .ok (.iconst (-1), 1) := by decide +kernel
theorem dX4_orNothing_2 : decode cX4_orNothing 2 = .ok (.if_icmp .ne 9, 3) := by decide +kernel
theorem dX4_orNothing_5 : decode cX4_orNothing 5 = .ok (.sipush (-1015), 3) := by decide +kernel
theorem dX4_orNothing_8 : decode cX4_orNothing 8 = .ok (.goto 4, 3) := by decide +kernel
theorem dX4_orNothing_11 : decode cX4_orNothing 11 = .ok (.iload_n 0, 1) := by decide +kernel
theorem dX4_orNothing_12 : decode cX4_orNothing 12 = .ok (.ireturn, 1) := by decide +kernel
theorem dX4_sumOf_0 : decode cX4_sumOf 0 = .ok (.iconst 0, 1) := by decide +kernel
theorem dX4_sumOf_1 : decode cX4_sumOf 1 = .ok (.istore_n 1, 1) := by decide +kernel
theorem dX4_sumOf_2 : decode cX4_sumOf 2 = .ok (.aload_n 0, 1) := by decide +kernel
theorem dX4_sumOf_3 : decode cX4_sumOf 3 = .ok (.astore_n 2, 1) := by decide +kernel
theorem dX4_sumOf_4 : decode cX4_sumOf 4 = .ok (.aload_n 2, 1) := by decide +kernel
theorem dX4_sumOf_5 : decode cX4_sumOf 5 = .ok (.arraylength, 1) := by decide +kernel
theorem dX4_sumOf_6 : decode cX4_sumOf 6 = .ok (.istore_n 3, 1) := by decide +kernel
theorem dX4_sumOf_7 : decode cX4_sumOf 7 = .ok (.iconst 0, 1) := by decide +kernel
theorem dX4_sumOf_8 : decode cX4_sumOf 8 = .ok (.istore 4, 2) := by decide +kernel
theorem dX4_sumOf_10 : decode cX4_sumOf 10 = .ok (.iload 4, 2) := by decide +kernel
theorem dX4_sumOf_12 : decode cX4_sumOf 12 = .ok (.iload_n 3, 1) := by decide +kernel
theorem dX4_sumOf_13 : decode cX4_sumOf 13 = .ok (.if_icmp .ge 20, 3) := by decide +kernel
theorem dX4_sumOf_16 : decode cX4_sumOf 16 = .ok (.aload_n 2, 1) := by decide +kernel
theorem dX4_sumOf_17 : decode cX4_sumOf 17 = .ok (.iload 4, 2) := by decide +kernel
theorem dX4_sumOf_19 : decode cX4_sumOf 19 = .ok (.iaload, 1) := by decide +kernel
theorem dX4_sumOf_20 : decode cX4_sumOf 20 = .ok (.istore 5, 2) := by decide +kernel
theorem dX4_sumOf_22 : decode cX4_sumOf 22 = .ok (.iload_n 1, 1) := by decide +kernel
theorem dX4_sumOf_23 : decode cX4_sumOf 23 = .ok (.iload 5, 2) := by decide +kernel
theorem dX4_sumOf_25 : decode cX4_sumOf 25 = .ok (.iadd, 1) := by decide +kernel
theorem dX4_sumOf_26 : decode cX4_sumOf 26 = .ok (.istore_n 1, 1) := by decide +kernel
theorem dX4_sumOf_27 : decode cX4_sumOf 27 = .ok (.iinc 4 1, 3) := by decide +kernel
theorem dX4_sumOf_30 : decode cX4_sumOf 30 = .ok (.goto (-20), 3) := by decide +kernel
theorem dX4_sumOf_33 : decode cX4_sumOf 33 = .ok (.iload_n 1, 1) := by decide +kernel
theorem dX4_sumOf_34 : decode cX4_sumOf 34 = .ok (.ireturn, 1) := by decide +kernel
theorem dX4_soundOf_0 : decode cX4_soundOf 0 = .ok (.iload_n 0, 1) := by decide +kernel
theorem dX4_soundOf_1 : decode cX4_soundOf 1 = .ok (.iload_n 1, 1) := by decide +kernel
theorem dX4_soundOf_2 : decode cX4_soundOf 2 = .ok (.isub, 1) := by decide +kernel
theorem dX4_soundOf_3 : decode cX4_soundOf 3 = .ok (.invokestatic 311, 3) := by decide +kernel
theorem dX4_soundOf_6 : decode cX4_soundOf 6 = .ok (.istore_n 2, 1) := by decide +kernel
theorem dX4_soundOf_7 : decode cX4_soundOf 7 = .ok (.iload_n 2, 1) := by decide +kernel
theorem dX4_soundOf_8 : decode cX4_soundOf 8 = .ok (.ifCond .lt 19, 3) := by decide +kernel
theorem dX4_soundOf_11 : decode cX4_soundOf 11 = .ok (.iload_n 2, 1) := by decide +kernel
theorem dX4_soundOf_12 : decode cX4_soundOf 12 = .ok (.getstatic 160, 3) := by decide +kernel
theorem dX4_soundOf_15 : decode cX4_soundOf 15 = .ok (.arraylength, 1) := by decide +kernel
theorem dX4_soundOf_16 : decode cX4_soundOf 16 = .ok (.if_icmp .ge 11, 3) := by decide +kernel
theorem dX4_soundOf_19 : decode cX4_soundOf 19 = .ok (.getstatic 160, 3) := by decide +kernel
theorem dX4_soundOf_22 : decode cX4_soundOf 22 = .ok (.iload_n 2, 1) := by decide +kernel
theorem dX4_soundOf_23 : decode cX4_soundOf 23 = .ok (.iaload, 1) := by decide +kernel
theorem dX4_soundOf_24 : decode cX4_soundOf 24 = .ok (.goto 4, 3) := by decide +kernel
theorem dX4_soundOf_27 : decode cX4_soundOf 27 = .ok (.iconst 0, 1) := by decide +kernel
theorem dX4_soundOf_28 : decode cX4_soundOf 28 = .ok (.ireturn, 1) := by decide +kernel
theorem dX4_fitOf_0 : decode cX4_fitOf 0 = .ok (.iconst 0, 1) := by decide +kernel
theorem dX4_fitOf_1 : decode cX4_fitOf 1 = .ok (.istore_n 2, 1) := by decide +kernel
theorem dX4_fitOf_2 : decode cX4_fitOf 2 = .ok (.iconst 1, 1) := by decide +kernel
theorem dX4_fitOf_3 : decode cX4_fitOf 3 = .ok (.istore_n 3, 1) := by decide +kernel
theorem dX4_fitOf_4 : decode cX4_fitOf 4 = .ok (.iload_n 3, 1) := by decide +kernel
theorem dX4_fitOf_5 : decode cX4_fitOf 5 = .ok (.bipush 12, 2) := by decide +kernel
theorem dX4_fitOf_7 : decode cX4_fitOf 7 = .ok (.if_icmp .gt 25, 3) := by decide +kernel
theorem dX4_fitOf_10 : decode cX4_fitOf 10 = .ok (.iload_n 1, 1) := by decide +kernel
theorem dX4_fitOf_11 : decode cX4_fitOf 11 = .ok (.iload_n 3, 1) := by decide +kernel
theorem dX4_fitOf_12 : decode cX4_fitOf 12 = .ok (.invokestatic 150, 3) := by decide +kernel
theorem dX4_fitOf_15 : decode cX4_fitOf 15 = .ok (.ifCond .eq 11, 3) := by decide +kernel
theorem dX4_fitOf_18 : decode cX4_fitOf 18 = .ok (.iload_n 2, 1) := by decide +kernel
theorem dX4_fitOf_19 : decode cX4_fitOf 19 = .ok (.iload_n 0, 1) := by decide +kernel
theorem dX4_fitOf_20 : decode cX4_fitOf 20 = .ok (.iload_n 3, 1) := by decide +kernel
theorem dX4_fitOf_21 : decode cX4_fitOf 21 = .ok (.invokestatic 154, 3) := by decide +kernel
theorem dX4_fitOf_24 : decode cX4_fitOf 24 = .ok (.iadd, 1) := by decide +kernel
theorem dX4_fitOf_25 : decode cX4_fitOf 25 = .ok (.istore_n 2, 1) := by decide +kernel
theorem dX4_fitOf_26 : decode cX4_fitOf 26 = .ok (.iinc 3 1, 3) := by decide +kernel
theorem dX4_fitOf_29 : decode cX4_fitOf 29 = .ok (.goto (-25), 3) := by decide +kernel
theorem dX4_fitOf_32 : decode cX4_fitOf 32 = .ok (.iload_n 2, 1) := by decide +kernel
theorem dX4_fitOf_33 : decode cX4_fitOf 33 = .ok (.ireturn, 1) := by decide +kernel
theorem dX4_isBoilingSame_0 : decode cX4_isBoilingSame 0 = .ok (.iconst 0, 1) := by decide +kernel
theorem dX4_isBoilingSame_1 : decode cX4_isBoilingSame 1 = .ok (.istore_n 1, 1) := by decide +kernel
theorem dX4_isBoilingSame_2 : decode cX4_isBoilingSame 2 = .ok (.iload_n 1, 1) := by decide +kernel
theorem dX4_isBoilingSame_3 : decode cX4_isBoilingSame 3 = .ok (.aload_n 0, 1) := by decide +kernel
theorem dX4_isBoilingSame_4 : decode cX4_isBoilingSame 4 = .ok (.getfield 10, 3) := by decide +kernel
theorem dX4_isBoilingSame_7 : decode cX4_isBoilingSame 7 = .ok (.getfield 146, 3) := by decide +kernel
theorem dX4_isBoilingSame_10 : decode cX4_isBoilingSame 10 = .ok (.if_icmp .ge 24, 3) := by decide +kernel
theorem dX4_isBoilingSame_13 : decode cX4_isBoilingSame 13 = .ok (.aload_n 0, 1) := by decide +kernel
theorem dX4_isBoilingSame_14 : decode cX4_isBoilingSame 14 = .ok (.iload_n 1, 1) := by decide +kernel
theorem dX4_isBoilingSame_15 : decode cX4_isBoilingSame 15 = .ok (.invokevirtual 171, 3) := by decide +kernel
theorem dX4_isBoilingSame_18 : decode cX4_isBoilingSame 18 = .ok (.aload_n 0, 1) := by decide +kernel
theorem dX4_isBoilingSame_19 : decode cX4_isBoilingSame 19 = .ok (.iload_n 1, 1) := by decide +kernel
theorem dX4_isBoilingSame_20 : decode cX4_isBoilingSame 20 = .ok (.invokevirtual 314, 3) := by decide +kernel
theorem dX4_isBoilingSame_23 : decode cX4_isBoilingSame 23 = .ok (.if_icmp .eq 5, 3) := by decide +kernel
theorem dX4_isBoilingSame_26 : decode cX4_isBoilingSame 26 = .ok (.iconst 0, 1) := by decide +kernel
theorem dX4_isBoilingSame_27 : decode cX4_isBoilingSame 27 = .ok (.ireturn, 1) := by decide +kernel
theorem dX4_isBoilingSame_28 : decode cX4_isBoilingSame 28 = .ok (.iinc 1 1, 3) := by decide +kernel
theorem dX4_isBoilingSame_31 : decode cX4_isBoilingSame 31 = .ok (.goto (-29), 3) := by decide +kernel
theorem dX4_isBoilingSame_34 : decode cX4_isBoilingSame 34 = .ok (.iconst 1, 1) := by decide +kernel
theorem dX4_isBoilingSame_35 : decode cX4_isBoilingSame 35 = .ok (.ireturn, 1) := by decide +kernel
theorem dX4_countAheadOfMember_0 : decode cX4_countAheadOfMember 0 = .ok (.iconst 0, 1) := by decide +kernel
theorem dX4_countAheadOfMember_1 : decode cX4_countAheadOfMember 1 = .ok (.istore_n 2, 1) := by decide +kernel
theorem dX4_countAheadOfMember_2 : decode cX4_countAheadOfMember 2 = .ok (.iconst 0, 1) := by decide +kernel
theorem dX4_countAheadOfMember_3 : decode cX4_countAheadOfMember 3 = .ok (.istore_n 3, 1) := by decide +kernel
theorem dX4_countAheadOfMember_4 : decode cX4_countAheadOfMember 4 = .ok (.iload_n 3, 1) := by decide +kernel
theorem dX4_countAheadOfMember_5 : decode cX4_countAheadOfMember 5 = .ok (.iconst 4, 1) := by decide +kernel
theorem dX4_countAheadOfMember_6 : decode cX4_countAheadOfMember 6 = .ok (.if_icmp .ge 21, 3) := by decide +kernel
theorem dX4_countAheadOfMember_9 : decode cX4_countAheadOfMember 9 = .ok (.aload_n 0, 1) := by decide +kernel
theorem dX4_countAheadOfMember_10 : decode cX4_countAheadOfMember 10 = .ok (.iload_n 3, 1) := by decide +kernel
theorem dX4_countAheadOfMember_11 : decode cX4_countAheadOfMember 11 = .ok (.iload_n 1, 1) := by decide +kernel
theorem dX4_countAheadOfMember_12 : decode cX4_countAheadOfMember 12 = .ok (.invokevirtual 317, 3) := by decide +kernel
theorem dX4_countAheadOfMember_15 : decode cX4_countAheadOfMember 15 = .ok (.ifCond .eq 6, 3) := by decide +kernel
theorem dX4_countAheadOfMember_18 : decode cX4_countAheadOfMember 18 = .ok (.iinc 2 1, 3) := by decide +kernel
theorem dX4_countAheadOfMember_21 : decode cX4_countAheadOfMember 21 = .ok (.iinc 3 1, 3) := by decide +kernel
theorem dX4_countAheadOfMember_24 : decode cX4_countAheadOfMember 24 = .ok (.goto (-20), 3) := by decide +kernel
theorem dX4_countAheadOfMember_27 : decode cX4_countAheadOfMember 27 = .ok (.iload_n 2, 1) := by decide +kernel
theorem dX4_countAheadOfMember_28 : decode cX4_countAheadOfMember 28 = .ok (.ireturn, 1) := by decide +kernel
theorem dX4_isMemberAhead_0 : decode cX4_isMemberAhead 0 = .ok (.aload_n 0, 1) := by decide +kernel
theorem dX4_isMemberAhead_1 : decode cX4_isMemberAhead 1 = .ok (.getfield 10, 3) := by decide +kernel
theorem dX4_isMemberAhead_4 : decode cX4_isMemberAhead 4 = .ok (.getfield 183, 3) := by decide +kernel
theorem dX4_isMemberAhead_7 : decode cX4_isMemberAhead 7 = .ok (.iload_n 1, 1) := by decide +kernel
theorem dX4_isMemberAhead_8 : decode cX4_isMemberAhead 8 = .ok (.iaload, 1) := by decide +kernel
theorem dX4_isMemberAhead_9 : decode cX4_isMemberAhead 9 = .ok (.aload_n 0, 1) := by decide +kernel
theorem dX4_isMemberAhead_10 : decode cX4_isMemberAhead 10 = .ok (.getfield 10, 3) := by decide +kernel
theorem dX4_isMemberAhead_13 : decode cX4_isMemberAhead 13 = .ok (.getfield 183, 3) := by decide +kernel
theorem dX4_isMemberAhead_16 : decode cX4_isMemberAhead 16 = .ok (.iload_n 2, 1) := by decide +kernel
theorem dX4_isMemberAhead_17 : decode cX4_isMemberAhead 17 = .ok (.iaload, 1) := by decide +kernel
theorem dX4_isMemberAhead_18 : decode cX4_isMemberAhead 18 = .ok (.invokestatic 320, 3) := by decide +kernel
theorem dX4_isMemberAhead_21 : decode cX4_isMemberAhead 21 = .ok (.istore_n 3, 1) := by decide +kernel
theorem dX4_isMemberAhead_22 : decode cX4_isMemberAhead 22 = .ok (.iload_n 3, 1) := by decide +kernel
theorem dX4_isMemberAhead_23 : decode cX4_isMemberAhead 23 = .ok (.ifCond .eq 13, 3) := by decide +kernel
theorem dX4_isMemberAhead_26 : decode cX4_isMemberAhead 26 = .ok (.iload_n 3, 1) := by decide +kernel
theorem dX4_isMemberAhead_27 : decode cX4_isMemberAhead 27 = .ok (.ifCond .le 7, 3) := by decide +kernel
theorem dX4_isMemberAhead_30 : decode cX4_isMemberAhead 30 = .ok (.iconst 1, 1) := by decide +kernel
theorem dX4_isMemberAhead_31 : decode cX4_isMemberAhead 31 = .ok (.goto 4, 3) := by decide +kernel
theorem dX4_isMemberAhead_34 : decode cX4_isMemberAhead 34 = .ok (.iconst 0, 1) := by decide +kernel
theorem dX4_isMemberAhead_35 : decode cX4_isMemberAhead 35 = .ok (.ireturn, 1) := by decide +kernel
theorem dX4_isMemberAhead_36 : decode cX4_isMemberAhead 36 = .ok (.aload_n 0, 1) := by decide +kernel
theorem dX4_isMemberAhead_37 : decode cX4_isMemberAhead 37 = .ok (.getfield 10, 3) := by decide +kernel
theorem dX4_isMemberAhead_40 : decode cX4_isMemberAhead 40 = .ok (.iload_n 1, 1) := by decide +kernel
theorem dX4_isMemberAhead_41 : decode cX4_isMemberAhead 41 = .ok (.invokevirtual 186, 3) := by decide +kernel
theorem dX4_isMemberAhead_44 : decode cX4_isMemberAhead 44 = .ok (.aload_n 0, 1) := by decide +kernel
theorem dX4_isMemberAhead_45 : decode cX4_isMemberAhead 45 = .ok (.getfield 10, 3) := by decide +kernel
theorem dX4_isMemberAhead_48 : decode cX4_isMemberAhead 48 = .ok (.iload_n 2, 1) := by decide +kernel
theorem dX4_isMemberAhead_49 : decode cX4_isMemberAhead 49 = .ok (.invokevirtual 186, 3) := by decide +kernel
theorem dX4_isMemberAhead_52 : decode cX4_isMemberAhead 52 = .ok (.invokestatic 320, 3) := by decide +kernel
theorem dX4_isMemberAhead_55 : decode cX4_isMemberAhead 55 = .ok (.istore 4, 2) := by decide +kernel
theorem dX4_isMemberAhead_57 : decode cX4_isMemberAhead 57 = .ok (.iload 4, 2) := by decide +kernel
theorem dX4_isMemberAhead_59 : decode cX4_isMemberAhead 59 = .ok (.ifCond .eq 16, 3) := by decide +kernel
theorem dX4_isMemberAhead_62 : decode cX4_isMemberAhead 62 = .ok (.iload 4, 2) := by decide +kernel
theorem dX4_isMemberAhead_64 : decode cX4_isMemberAhead 64 = .ok (.ifCond .le 7, 3) := by decide +kernel
theorem dX4_isMemberAhead_67 : decode cX4_isMemberAhead 67 = .ok (.iconst 1, 1) := by decide +kernel
theorem dX4_isMemberAhead_68 : decode cX4_isMemberAhead 68 = .ok (.goto 17, 3) := by decide +kernel
theorem dX4_isMemberAhead_71 : decode cX4_isMemberAhead 71 = .ok (.iconst 0, 1) := by decide +kernel
theorem dX4_isMemberAhead_72 : decode cX4_isMemberAhead 72 = .ok (.goto 13, 3) := by decide +kernel
theorem dX4_isMemberAhead_75 : decode cX4_isMemberAhead 75 = .ok (.iload_n 1, 1) := by decide +kernel
theorem dX4_isMemberAhead_76 : decode cX4_isMemberAhead 76 = .ok (.iload_n 2, 1) := by decide +kernel
theorem dX4_isMemberAhead_77 : decode cX4_isMemberAhead 77 = .ok (.if_icmp .ge 7, 3) := by decide +kernel
theorem dX4_isMemberAhead_80 : decode cX4_isMemberAhead 80 = .ok (.iconst 1, 1) := by decide +kernel
theorem dX4_isMemberAhead_81 : decode cX4_isMemberAhead 81 = .ok (.goto 4, 3) := by decide +kernel
theorem dX4_isMemberAhead_84 : decode cX4_isMemberAhead 84 = .ok (.iconst 0, 1) := by decide +kernel
theorem dX4_isMemberAhead_85 : decode cX4_isMemberAhead 85 = .ok (.ireturn, 1) := by decide +kernel
theorem dX4_countAheadOfKettle_0 : decode cX4_countAheadOfKettle 0 = .ok (.iconst 0, 1) := by decide +kernel
theorem dX4_countAheadOfKettle_1 : decode cX4_countAheadOfKettle 1 = .ok (.istore_n 2, 1) := by decide +kernel
theorem dX4_countAheadOfKettle_2 : decode cX4_countAheadOfKettle 2 = .ok (.iconst 0, 1) := by decide +kernel
theorem dX4_countAheadOfKettle_3 : decode cX4_countAheadOfKettle 3 = .ok (.istore_n 3, 1) := by decide +kernel
theorem dX4_countAheadOfKettle_4 : decode cX4_countAheadOfKettle 4 = .ok (.iload_n 3, 1) := by decide +kernel
theorem dX4_countAheadOfKettle_5 : decode cX4_countAheadOfKettle 5 = .ok (.aload_n 0, 1) := by decide +kernel
theorem dX4_countAheadOfKettle_6 : decode cX4_countAheadOfKettle 6 = .ok (.getfield 10, 3) := by decide +kernel
theorem dX4_countAheadOfKettle_9 : decode cX4_countAheadOfKettle 9 = .ok (.getfield 146, 3) := by decide +kernel
theorem dX4_countAheadOfKettle_12 : decode cX4_countAheadOfKettle 12 = .ok (.if_icmp .ge 21, 3) := by decide +kernel
theorem dX4_countAheadOfKettle_15 : decode cX4_countAheadOfKettle 15 = .ok (.aload_n 0, 1) := by decide +kernel
theorem dX4_countAheadOfKettle_16 : decode cX4_countAheadOfKettle 16 = .ok (.iload_n 3, 1) := by decide +kernel
theorem dX4_countAheadOfKettle_17 : decode cX4_countAheadOfKettle 17 = .ok (.iload_n 1, 1) := by decide +kernel
theorem dX4_countAheadOfKettle_18 : decode cX4_countAheadOfKettle 18 = .ok (.invokevirtual 323, 3) := by decide +kernel
theorem dX4_countAheadOfKettle_21 : decode cX4_countAheadOfKettle 21 = .ok (.ifCond .eq 6, 3) := by decide +kernel
theorem dX4_countAheadOfKettle_24 : decode cX4_countAheadOfKettle 24 = .ok (.iinc 2 1, 3) := by decide +kernel
theorem dX4_countAheadOfKettle_27 : decode cX4_countAheadOfKettle 27 = .ok (.iinc 3 1, 3) := by decide +kernel
theorem dX4_countAheadOfKettle_30 : decode cX4_countAheadOfKettle 30 = .ok (.goto (-26), 3) := by decide +kernel
theorem dX4_countAheadOfKettle_33 : decode cX4_countAheadOfKettle 33 = .ok (.iload_n 2, 1) := by decide +kernel
theorem dX4_countAheadOfKettle_34 : decode cX4_countAheadOfKettle 34 = .ok (.ireturn, 1) := by decide +kernel
theorem dX4_isKettleAhead_0 : decode cX4_isKettleAhead 0 = .ok (.aload_n 0, 1) := by decide +kernel
theorem dX4_isKettleAhead_1 : decode cX4_isKettleAhead 1 = .ok (.getfield 10, 3) := by decide +kernel
theorem dX4_isKettleAhead_4 : decode cX4_isKettleAhead 4 = .ok (.getfield 89, 3) := by decide +kernel
theorem dX4_isKettleAhead_7 : decode cX4_isKettleAhead 7 = .ok (.iload_n 1, 1) := by decide +kernel
theorem dX4_isKettleAhead_8 : decode cX4_isKettleAhead 8 = .ok (.iaload, 1) := by decide +kernel
theorem dX4_isKettleAhead_9 : decode cX4_isKettleAhead 9 = .ok (.aload_n 0, 1) := by decide +kernel
theorem dX4_isKettleAhead_10 : decode cX4_isKettleAhead 10 = .ok (.getfield 10, 3) := by decide +kernel
theorem dX4_isKettleAhead_13 : decode cX4_isKettleAhead 13 = .ok (.getfield 89, 3) := by decide +kernel
theorem dX4_isKettleAhead_16 : decode cX4_isKettleAhead 16 = .ok (.iload_n 2, 1) := by decide +kernel
theorem dX4_isKettleAhead_17 : decode cX4_isKettleAhead 17 = .ok (.iaload, 1) := by decide +kernel
theorem dX4_isKettleAhead_18 : decode cX4_isKettleAhead 18 = .ok (.invokestatic 320, 3) := by decide +kernel
theorem dX4_isKettleAhead_21 : decode cX4_isKettleAhead 21 = .ok (.istore_n 3, 1) := by decide +kernel
theorem dX4_isKettleAhead_22 : decode cX4_isKettleAhead 22 = .ok (.iload_n 3, 1) := by decide +kernel
theorem dX4_isKettleAhead_23 : decode cX4_isKettleAhead 23 = .ok (.ifCond .eq 13, 3) := by decide +kernel
theorem dX4_isKettleAhead_26 : decode cX4_isKettleAhead 26 = .ok (.iload_n 3, 1) := by decide +kernel
theorem dX4_isKettleAhead_27 : decode cX4_isKettleAhead 27 = .ok (.ifCond .le 7, 3) := by decide +kernel
theorem dX4_isKettleAhead_30 : decode cX4_isKettleAhead 30 = .ok (.iconst 1, 1) := by decide +kernel
theorem dX4_isKettleAhead_31 : decode cX4_isKettleAhead 31 = .ok (.goto 4, 3) := by decide +kernel
theorem dX4_isKettleAhead_34 : decode cX4_isKettleAhead 34 = .ok (.iconst 0, 1) := by decide +kernel
theorem dX4_isKettleAhead_35 : decode cX4_isKettleAhead 35 = .ok (.ireturn, 1) := by decide +kernel
theorem dX4_isKettleAhead_36 : decode cX4_isKettleAhead 36 = .ok (.aload_n 0, 1) := by decide +kernel
theorem dX4_isKettleAhead_37 : decode cX4_isKettleAhead 37 = .ok (.getfield 10, 3) := by decide +kernel
theorem dX4_isKettleAhead_40 : decode cX4_isKettleAhead 40 = .ok (.getfield 86, 3) := by decide +kernel
theorem dX4_isKettleAhead_43 : decode cX4_isKettleAhead 43 = .ok (.iload_n 1, 1) := by decide +kernel
theorem dX4_isKettleAhead_44 : decode cX4_isKettleAhead 44 = .ok (.iaload, 1) := by decide +kernel
theorem dX4_isKettleAhead_45 : decode cX4_isKettleAhead 45 = .ok (.aload_n 0, 1) := by decide +kernel
theorem dX4_isKettleAhead_46 : decode cX4_isKettleAhead 46 = .ok (.getfield 10, 3) := by decide +kernel
theorem dX4_isKettleAhead_49 : decode cX4_isKettleAhead 49 = .ok (.getfield 86, 3) := by decide +kernel
theorem dX4_isKettleAhead_52 : decode cX4_isKettleAhead 52 = .ok (.iload_n 2, 1) := by decide +kernel
theorem dX4_isKettleAhead_53 : decode cX4_isKettleAhead 53 = .ok (.iaload, 1) := by decide +kernel
theorem dX4_isKettleAhead_54 : decode cX4_isKettleAhead 54 = .ok (.invokestatic 320, 3) := by decide +kernel
theorem dX4_isKettleAhead_57 : decode cX4_isKettleAhead 57 = .ok (.istore 4, 2) := by decide +kernel
theorem dX4_isKettleAhead_59 : decode cX4_isKettleAhead 59 = .ok (.iload 4, 2) := by decide +kernel
theorem dX4_isKettleAhead_61 : decode cX4_isKettleAhead 61 = .ok (.ifCond .eq 16, 3) := by decide +kernel
theorem dX4_isKettleAhead_64 : decode cX4_isKettleAhead 64 = .ok (.iload 4, 2) := by decide +kernel
theorem dX4_isKettleAhead_66 : decode cX4_isKettleAhead 66 = .ok (.ifCond .ge 7, 3) := by decide +kernel
theorem dX4_isKettleAhead_69 : decode cX4_isKettleAhead 69 = .ok (.iconst 1, 1) := by decide +kernel
theorem dX4_isKettleAhead_70 : decode cX4_isKettleAhead 70 = .ok (.goto 17, 3) := by decide +kernel
theorem dX4_isKettleAhead_73 : decode cX4_isKettleAhead 73 = .ok (.iconst 0, 1) := by decide +kernel
theorem dX4_isKettleAhead_74 : decode cX4_isKettleAhead 74 = .ok (.goto 13, 3) := by decide +kernel
theorem dX4_isKettleAhead_77 : decode cX4_isKettleAhead 77 = .ok (.iload_n 1, 1) := by decide +kernel
theorem dX4_isKettleAhead_78 : decode cX4_isKettleAhead 78 = .ok (.iload_n 2, 1) := by decide +kernel
theorem dX4_isKettleAhead_79 : decode cX4_isKettleAhead 79 = .ok (.if_icmp .ge 7, 3) := by decide +kernel
theorem dX4_isKettleAhead_82 : decode cX4_isKettleAhead 82 = .ok (.iconst 1, 1) := by decide +kernel
theorem dX4_isKettleAhead_83 : decode cX4_isKettleAhead 83 = .ok (.goto 4, 3) := by decide +kernel
theorem dX4_isKettleAhead_86 : decode cX4_isKettleAhead 86 = .ok (.iconst 0, 1) := by decide +kernel
theorem dX4_isKettleAhead_87 : decode cX4_isKettleAhead 87 = .ok (.ireturn, 1) := by decide +kernel
theorem dX4_settle_0 : decode cX4_settle 0 = .ok (.iload_n 1, 1) := by decide +kernel
theorem dX4_settle_1 : decode cX4_settle 1 = .ok (.ifCond .lt 10, 3) := by decide +kernel
theorem dX4_settle_4 : decode cX4_settle 4 = .ok (.aload_n 0, 1) := by decide +kernel
theorem dX4_settle_5 : decode cX4_settle 5 = .ok (.getfield 22, 3) := by decide +kernel
theorem dX4_settle_8 : decode cX4_settle 8 = .ok (.invokevirtual 326, 3) := by decide +kernel
theorem dX4_settle_11 : decode cX4_settle 11 = .ok (.iload_n 1, 1) := by decide +kernel
theorem dX4_settle_12 : decode cX4_settle 12 = .ok (.ireturn, 1) := by decide +kernel
theorem dX4_takePitch_0 : decode cX4_takePitch 0 = .ok (.iload_n 1, 1) := by decide +kernel
theorem dX4_takePitch_1 : decode cX4_takePitch 1 = .ok (.invokestatic 180, 3) := by decide +kernel
theorem dX4_takePitch_4 : decode cX4_takePitch 4 = .ok (.ifCond .ne 7, 3) := by decide +kernel
theorem dX4_takePitch_7 : decode cX4_takePitch 7 = .ok (.sipush (-1011), 3) := by decide +kernel
theorem dX4_takePitch_10 : decode cX4_takePitch 10 = .ok (.ireturn, 1) := by decide +kernel
theorem dX4_takePitch_11 : decode cX4_takePitch 11 = .ok (.iload_n 2, 1) := by decide +kernel
theorem dX4_takePitch_12 : decode cX4_takePitch 12 = .ok (.invokestatic 59, 3) := by decide +kernel
theorem dX4_takePitch_15 : decode cX4_takePitch 15 = .ok (.ifCond .ne 7, 3) := by decide +kernel
theorem dX4_takePitch_18 : decode cX4_takePitch 18 = .ok (.sipush (-1012), 3) := by decide +kernel
theorem dX4_takePitch_21 : decode cX4_takePitch 21 = .ok (.ireturn, 1) := by decide +kernel
theorem dX4_takePitch_22 : decode cX4_takePitch 22 = .ok (.aload_n 0, 1) := by decide +kernel
theorem dX4_takePitch_23 : decode cX4_takePitch 23 = .ok (.getfield 10, 3) := by decide +kernel
theorem dX4_takePitch_26 : decode cX4_takePitch 26 = .ok (.getfield 63, 3) := by decide +kernel
theorem dX4_takePitch_29 : decode cX4_takePitch 29 = .ok (.iload_n 2, 1) := by decide +kernel
theorem dX4_takePitch_30 : decode cX4_takePitch 30 = .ok (.iaload, 1) := by decide +kernel
theorem dX4_takePitch_31 : decode cX4_takePitch 31 = .ok (.iconst (-1), 1) := by decide +kernel
theorem dX4_takePitch_32 : decode cX4_takePitch 32 = .ok (.if_icmp .eq 18, 3) := by decide +kernel
theorem dX4_takePitch_35 : decode cX4_takePitch 35 = .ok (.aload_n 0, 1) := by decide +kernel
theorem dX4_takePitch_36 : decode cX4_takePitch 36 = .ok (.iconst 2, 1) := by decide +kernel
theorem dX4_takePitch_37 : decode cX4_takePitch 37 = .ok (.aload_n 0, 1) := by decide +kernel
theorem dX4_takePitch_38 : decode cX4_takePitch 38 = .ok (.getfield 10, 3) := by decide +kernel
theorem dX4_takePitch_41 : decode cX4_takePitch 41 = .ok (.getfield 63, 3) := by decide +kernel
theorem dX4_takePitch_44 : decode cX4_takePitch 44 = .ok (.iload_n 2, 1) := by decide +kernel
theorem dX4_takePitch_45 : decode cX4_takePitch 45 = .ok (.iaload, 1) := by decide +kernel
theorem dX4_takePitch_46 : decode cX4_takePitch 46 = .ok (.invokevirtual 329, 3) := by decide +kernel
theorem dX4_takePitch_49 : decode cX4_takePitch 49 = .ok (.ireturn, 1) := by decide +kernel
theorem dX4_takePitch_50 : decode cX4_takePitch 50 = .ok (.aload_n 0, 1) := by decide +kernel
theorem dX4_takePitch_51 : decode cX4_takePitch 51 = .ok (.getfield 10, 3) := by decide +kernel
theorem dX4_takePitch_54 : decode cX4_takePitch 54 = .ok (.iload_n 1, 1) := by decide +kernel
theorem dX4_takePitch_55 : decode cX4_takePitch 55 = .ok (.invokevirtual 186, 3) := by decide +kernel
theorem dX4_takePitch_58 : decode cX4_takePitch 58 = .ok (.istore_n 3, 1) := by decide +kernel
theorem dX4_takePitch_59 : decode cX4_takePitch 59 = .ok (.iload_n 3, 1) := by decide +kernel
theorem dX4_takePitch_60 : decode cX4_takePitch 60 = .ok (.iconst 4, 1) := by decide +kernel
theorem dX4_takePitch_61 : decode cX4_takePitch 61 = .ok (.if_icmp .lt 10, 3) := by decide +kernel
theorem dX4_takePitch_64 : decode cX4_takePitch 64 = .ok (.aload_n 0, 1) := by decide +kernel
theorem dX4_takePitch_65 : decode cX4_takePitch 65 = .ok (.iconst 1, 1) := by decide +kernel
theorem dX4_takePitch_66 : decode cX4_takePitch 66 = .ok (.iload_n 3, 1) := by decide +kernel
theorem dX4_takePitch_67 : decode cX4_takePitch 67 = .ok (.invokevirtual 329, 3) := by decide +kernel
theorem dX4_takePitch_70 : decode cX4_takePitch 70 = .ok (.ireturn, 1) := by decide +kernel
theorem dX4_takePitch_71 : decode cX4_takePitch 71 = .ok (.aload_n 0, 1) := by decide +kernel
theorem dX4_takePitch_72 : decode cX4_takePitch 72 = .ok (.getfield 10, 3) := by decide +kernel
theorem dX4_takePitch_75 : decode cX4_takePitch 75 = .ok (.getfield 63, 3) := by decide +kernel
theorem dX4_takePitch_78 : decode cX4_takePitch 78 = .ok (.iload_n 2, 1) := by decide +kernel
theorem dX4_takePitch_79 : decode cX4_takePitch 79 = .ok (.iload_n 1, 1) := by decide +kernel
theorem dX4_takePitch_80 : decode cX4_takePitch 80 = .ok (.iastore, 1) := by decide +kernel
theorem dX4_takePitch_81 : decode cX4_takePitch 81 = .ok (.iload_n 3, 1) := by decide +kernel
theorem dX4_takePitch_82 : decode cX4_takePitch 82 = .ok (.iconst 1, 1) := by decide +kernel
theorem dX4_takePitch_83 : decode cX4_takePitch 83 = .ok (.iadd, 1) := by decide +kernel
theorem dX4_takePitch_84 : decode cX4_takePitch 84 = .ok (.ireturn, 1) := by decide +kernel
theorem dX4_bringKettle_0 : decode cX4_bringKettle 0 = .ok (.iload_n 1, 1) := by decide +kernel
theorem dX4_bringKettle_1 : decode cX4_bringKettle 1 = .ok (.invokestatic 180, 3) := by decide +kernel
theorem dX4_bringKettle_4 : decode cX4_bringKettle 4 = .ok (.ifCond .ne 7, 3) := by decide +kernel
theorem dX4_bringKettle_7 : decode cX4_bringKettle 7 = .ok (.sipush (-1011), 3) := by decide +kernel
theorem dX4_bringKettle_10 : decode cX4_bringKettle 10 = .ok (.ireturn, 1) := by decide +kernel
theorem dX4_bringKettle_11 : decode cX4_bringKettle 11 = .ok (.iload_n 2, 1) := by decide +kernel
theorem dX4_bringKettle_12 : decode cX4_bringKettle 12 = .ok (.invokestatic 59, 3) := by decide +kernel
theorem dX4_bringKettle_15 : decode cX4_bringKettle 15 = .ok (.ifCond .eq 13, 3) := by decide +kernel
theorem dX4_bringKettle_18 : decode cX4_bringKettle 18 = .ok (.iload_n 3, 1) := by decide +kernel
theorem dX4_bringKettle_19 : decode cX4_bringKettle 19 = .ok (.ifCond .lt 9, 3) := by decide +kernel
theorem dX4_bringKettle_22 : decode cX4_bringKettle 22 = .ok (.iload_n 3, 1) := by decide +kernel
theorem dX4_bringKettle_23 : decode cX4_bringKettle 23 = .ok (.bipush 20, 2) := by decide +kernel
theorem dX4_bringKettle_25 : decode cX4_bringKettle 25 = .ok (.if_icmp .le 7, 3) := by decide +kernel
theorem dX4_bringKettle_28 : decode cX4_bringKettle 28 = .ok (.sipush (-1012), 3) := by decide +kernel
theorem dX4_bringKettle_31 : decode cX4_bringKettle 31 = .ok (.ireturn, 1) := by decide +kernel
theorem dX4_bringKettle_32 : decode cX4_bringKettle 32 = .ok (.aload_n 0, 1) := by decide +kernel
theorem dX4_bringKettle_33 : decode cX4_bringKettle 33 = .ok (.getfield 10, 3) := by decide +kernel
theorem dX4_bringKettle_36 : decode cX4_bringKettle 36 = .ok (.getfield 63, 3) := by decide +kernel
theorem dX4_bringKettle_39 : decode cX4_bringKettle 39 = .ok (.iload_n 2, 1) := by decide +kernel
theorem dX4_bringKettle_40 : decode cX4_bringKettle 40 = .ok (.iaload, 1) := by decide +kernel
theorem dX4_bringKettle_41 : decode cX4_bringKettle 41 = .ok (.iload_n 1, 1) := by decide +kernel
theorem dX4_bringKettle_42 : decode cX4_bringKettle 42 = .ok (.if_icmp .eq 18, 3) := by decide +kernel
theorem dX4_bringKettle_45 : decode cX4_bringKettle 45 = .ok (.aload_n 0, 1) := by decide +kernel
theorem dX4_bringKettle_46 : decode cX4_bringKettle 46 = .ok (.iconst 3, 1) := by decide +kernel
theorem dX4_bringKettle_47 : decode cX4_bringKettle 47 = .ok (.aload_n 0, 1) := by decide +kernel
theorem dX4_bringKettle_48 : decode cX4_bringKettle 48 = .ok (.getfield 10, 3) := by decide +kernel
theorem dX4_bringKettle_51 : decode cX4_bringKettle 51 = .ok (.getfield 63, 3) := by decide +kernel
theorem dX4_bringKettle_54 : decode cX4_bringKettle 54 = .ok (.iload_n 2, 1) := by decide +kernel
theorem dX4_bringKettle_55 : decode cX4_bringKettle 55 = .ok (.iaload, 1) := by decide +kernel
theorem dX4_bringKettle_56 : decode cX4_bringKettle 56 = .ok (.invokevirtual 329, 3) := by decide +kernel
theorem dX4_bringKettle_59 : decode cX4_bringKettle 59 = .ok (.ireturn, 1) := by decide +kernel
theorem dX4_bringKettle_60 : decode cX4_bringKettle 60 = .ok (.aload_n 0, 1) := by decide +kernel
theorem dX4_bringKettle_61 : decode cX4_bringKettle 61 = .ok (.getfield 10, 3) := by decide +kernel
theorem dX4_bringKettle_64 : decode cX4_bringKettle 64 = .ok (.getfield 146, 3) := by decide +kernel
theorem dX4_bringKettle_67 : decode cX4_bringKettle 67 = .ok (.bipush 10, 2) := by decide +kernel
theorem dX4_bringKettle_69 : decode cX4_bringKettle 69 = .ok (.if_icmp .lt 16, 3) := by decide +kernel
theorem dX4_bringKettle_72 : decode cX4_bringKettle 72 = .ok (.aload_n 0, 1) := by decide +kernel
theorem dX4_bringKettle_73 : decode cX4_bringKettle 73 = .ok (.iconst 1, 1) := by decide +kernel
theorem dX4_bringKettle_74 : decode cX4_bringKettle 74 = .ok (.aload_n 0, 1) := by decide +kernel
theorem dX4_bringKettle_75 : decode cX4_bringKettle 75 = .ok (.getfield 10, 3) := by decide +kernel
theorem dX4_bringKettle_78 : decode cX4_bringKettle 78 = .ok (.getfield 146, 3) := by decide +kernel
theorem dX4_bringKettle_81 : decode cX4_bringKettle 81 = .ok (.invokevirtual 329, 3) := by decide +kernel
theorem dX4_bringKettle_84 : decode cX4_bringKettle 84 = .ok (.ireturn, 1) := by decide +kernel
theorem dX4_bringKettle_85 : decode cX4_bringKettle 85 = .ok (.aload_n 0, 1) := by decide +kernel
theorem dX4_bringKettle_86 : decode cX4_bringKettle 86 = .ok (.getfield 10, 3) := by decide +kernel
theorem dX4_bringKettle_89 : decode cX4_bringKettle 89 = .ok (.iload_n 1, 1) := by decide +kernel
theorem dX4_bringKettle_90 : decode cX4_bringKettle 90 = .ok (.iload_n 2, 1) := by decide +kernel
theorem dX4_bringKettle_91 : decode cX4_bringKettle 91 = .ok (.iload_n 3, 1) := by decide +kernel
theorem dX4_bringKettle_92 : decode cX4_bringKettle 92 = .ok (.invokevirtual 332, 3) := by decide +kernel
theorem dX4_bringKettle_95 : decode cX4_bringKettle 95 = .ok (.ireturn, 1) := by decide +kernel
theorem dX4_pourWater_0 : decode cX4_pourWater 0 = .ok (.aload_n 0, 1) := by decide +kernel
theorem dX4_pourWater_1 : decode cX4_pourWater 1 = .ok (.iload_n 1, 1) := by decide +kernel
theorem dX4_pourWater_2 : decode cX4_pourWater 2 = .ok (.invokevirtual 77, 3) := by decide +kernel
theorem dX4_pourWater_5 : decode cX4_pourWater 5 = .ok (.ifCond .ne 7, 3) := by decide +kernel
theorem dX4_pourWater_8 : decode cX4_pourWater 8 = .ok (.sipush (-1011), 3) := by decide +kernel
theorem dX4_pourWater_11 : decode cX4_pourWater 11 = .ok (.ireturn, 1) := by decide +kernel
theorem dX4_pourWater_12 : decode cX4_pourWater 12 = .ok (.iload_n 2, 1) := by decide +kernel
theorem dX4_pourWater_13 : decode cX4_pourWater 13 = .ok (.iconst 1, 1) := by decide +kernel
theorem dX4_pourWater_14 : decode cX4_pourWater 14 = .ok (.if_icmp .lt 9, 3) := by decide +kernel
theorem dX4_pourWater_17 : decode cX4_pourWater 17 = .ok (.iload_n 2, 1) := by decide +kernel
theorem dX4_pourWater_18 : decode cX4_pourWater 18 = .ok (.bipush 20, 2) := by decide +kernel
theorem dX4_pourWater_20 : decode cX4_pourWater 20 = .ok (.if_icmp .le 7, 3) := by decide +kernel
theorem dX4_pourWater_23 : decode cX4_pourWater 23 = .ok (.sipush (-1012), 3) := by decide +kernel
theorem dX4_pourWater_26 : decode cX4_pourWater 26 = .ok (.ireturn, 1) := by decide +kernel
theorem dX4_pourWater_27 : decode cX4_pourWater 27 = .ok (.aload_n 0, 1) := by decide +kernel
theorem dX4_pourWater_28 : decode cX4_pourWater 28 = .ok (.getfield 10, 3) := by decide +kernel
theorem dX4_pourWater_31 : decode cX4_pourWater 31 = .ok (.getfield 86, 3) := by decide +kernel
theorem dX4_pourWater_34 : decode cX4_pourWater 34 = .ok (.iload_n 1, 1) := by decide +kernel
theorem dX4_pourWater_35 : decode cX4_pourWater 35 = .ok (.iaload, 1) := by decide +kernel
theorem dX4_pourWater_36 : decode cX4_pourWater 36 = .ok (.iload_n 2, 1) := by decide +kernel
theorem dX4_pourWater_37 : decode cX4_pourWater 37 = .ok (.iadd, 1) := by decide +kernel
theorem dX4_pourWater_38 : decode cX4_pourWater 38 = .ok (.istore_n 3, 1) := by decide +kernel
theorem dX4_pourWater_39 : decode cX4_pourWater 39 = .ok (.iload_n 3, 1) := by decide +kernel
theorem dX4_pourWater_40 : decode cX4_pourWater 40 = .ok (.bipush 20, 2) := by decide +kernel
theorem dX4_pourWater_42 : decode cX4_pourWater 42 = .ok (.if_icmp .le 11, 3) := by decide +kernel
theorem dX4_pourWater_45 : decode cX4_pourWater 45 = .ok (.aload_n 0, 1) := by decide +kernel
theorem dX4_pourWater_46 : decode cX4_pourWater 46 = .ok (.bipush 11, 2) := by decide +kernel
theorem dX4_pourWater_48 : decode cX4_pourWater 48 = .ok (.iload_n 3, 1) := by decide +kernel
theorem dX4_pourWater_49 : decode cX4_pourWater 49 = .ok (.invokevirtual 329, 3) := by decide +kernel
theorem dX4_pourWater_52 : decode cX4_pourWater 52 = .ok (.ireturn, 1) := by decide +kernel
theorem dX4_pourWater_53 : decode cX4_pourWater 53 = .ok (.aload_n 0, 1) := by decide +kernel
theorem dX4_pourWater_54 : decode cX4_pourWater 54 = .ok (.getfield 10, 3) := by decide +kernel
theorem dX4_pourWater_57 : decode cX4_pourWater 57 = .ok (.getfield 86, 3) := by decide +kernel
theorem dX4_pourWater_60 : decode cX4_pourWater 60 = .ok (.iload_n 1, 1) := by decide +kernel
theorem dX4_pourWater_61 : decode cX4_pourWater 61 = .ok (.iload_n 3, 1) := by decide +kernel
theorem dX4_pourWater_62 : decode cX4_pourWater 62 = .ok (.iastore, 1) := by decide +kernel
theorem dX4_pourWater_63 : decode cX4_pourWater 63 = .ok (.aload_n 0, 1) := by decide +kernel
theorem dX4_pourWater_64 : decode cX4_pourWater 64 = .ok (.getfield 10, 3) := by decide +kernel
theorem dX4_pourWater_67 : decode cX4_pourWater 67 = .ok (.dup, 1) := by decide +kernel
theorem dX4_pourWater_68 : decode cX4_pourWater 68 = .ok (.getfield 277, 3) := by decide +kernel
theorem dX4_pourWater_71 : decode cX4_pourWater 71 = .ok (.iload_n 2, 1) := by decide +kernel
theorem dX4_pourWater_72 : decode cX4_pourWater 72 = .ok (.iadd, 1) := by decide +kernel
theorem dX4_pourWater_73 : decode cX4_pourWater 73 = .ok (.putfield 277, 3) := by decide +kernel
theorem dX4_pourWater_76 : decode cX4_pourWater 76 = .ok (.iload_n 3, 1) := by decide +kernel
theorem dX4_pourWater_77 : decode cX4_pourWater 77 = .ok (.ireturn, 1) := by decide +kernel
theorem dX4_putOnStove_0 : decode cX4_putOnStove 0 = .ok (.aload_n 0, 1) := by decide +kernel
theorem dX4_putOnStove_1 : decode cX4_putOnStove 1 = .ok (.iload_n 1, 1) := by decide +kernel
theorem dX4_putOnStove_2 : decode cX4_putOnStove 2 = .ok (.invokevirtual 77, 3) := by decide +kernel
theorem dX4_putOnStove_5 : decode cX4_putOnStove 5 = .ok (.ifCond .eq 10, 3) := by decide +kernel
theorem dX4_putOnStove_8 : decode cX4_putOnStove 8 = .ok (.iload_n 2, 1) := by decide +kernel
theorem dX4_putOnStove_9 : decode cX4_putOnStove 9 = .ok (.invokestatic 130, 3) := by decide +kernel
theorem dX4_putOnStove_12 : decode cX4_putOnStove 12 = .ok (.ifCond .ne 7, 3) := by decide +kernel
theorem dX4_putOnStove_15 : decode cX4_putOnStove 15 = .ok (.sipush (-1011), 3) := by decide +kernel
theorem dX4_putOnStove_18 : decode cX4_putOnStove 18 = .ok (.ireturn, 1) := by decide +kernel
theorem dX4_putOnStove_19 : decode cX4_putOnStove 19 = .ok (.aload_n 0, 1) := by decide +kernel
theorem dX4_putOnStove_20 : decode cX4_putOnStove 20 = .ok (.getfield 10, 3) := by decide +kernel
theorem dX4_putOnStove_23 : decode cX4_putOnStove 23 = .ok (.getfield 95, 3) := by decide +kernel
theorem dX4_putOnStove_26 : decode cX4_putOnStove 26 = .ok (.iload_n 1, 1) := by decide +kernel
theorem dX4_putOnStove_27 : decode cX4_putOnStove 27 = .ok (.iaload, 1) := by decide +kernel
theorem dX4_putOnStove_28 : decode cX4_putOnStove 28 = .ok (.iconst (-1), 1) := by decide +kernel
theorem dX4_putOnStove_29 : decode cX4_putOnStove 29 = .ok (.if_icmp .eq 19, 3) := by decide +kernel
theorem dX4_putOnStove_32 : decode cX4_putOnStove 32 = .ok (.aload_n 0, 1) := by decide +kernel
theorem dX4_putOnStove_33 : decode cX4_putOnStove 33 = .ok (.iload_n 1, 1) := by decide +kernel
theorem dX4_putOnStove_34 : decode cX4_putOnStove 34 = .ok (.iconst 5, 1) := by decide +kernel
theorem dX4_putOnStove_35 : decode cX4_putOnStove 35 = .ok (.aload_n 0, 1) := by decide +kernel
theorem dX4_putOnStove_36 : decode cX4_putOnStove 36 = .ok (.getfield 10, 3) := by decide +kernel
theorem dX4_putOnStove_39 : decode cX4_putOnStove 39 = .ok (.getfield 95, 3) := by decide +kernel
theorem dX4_putOnStove_42 : decode cX4_putOnStove 42 = .ok (.iload_n 1, 1) := by decide +kernel
theorem dX4_putOnStove_43 : decode cX4_putOnStove 43 = .ok (.iaload, 1) := by decide +kernel
theorem dX4_putOnStove_44 : decode cX4_putOnStove 44 = .ok (.invokevirtual 335, 3) := by decide +kernel
theorem dX4_putOnStove_47 : decode cX4_putOnStove 47 = .ok (.ireturn, 1) := by decide +kernel
theorem dX4_putOnStove_48 : decode cX4_putOnStove 48 = .ok (.aload_n 0, 1) := by decide +kernel
theorem dX4_putOnStove_49 : decode cX4_putOnStove 49 = .ok (.getfield 10, 3) := by decide +kernel
theorem dX4_putOnStove_52 : decode cX4_putOnStove 52 = .ok (.iload_n 2, 1) := by decide +kernel
theorem dX4_putOnStove_53 : decode cX4_putOnStove 53 = .ok (.invokevirtual 136, 3) := by decide +kernel
theorem dX4_putOnStove_56 : decode cX4_putOnStove 56 = .ok (.istore_n 3, 1) := by decide +kernel
theorem dX4_putOnStove_57 : decode cX4_putOnStove 57 = .ok (.iload_n 3, 1) := by decide +kernel
theorem dX4_putOnStove_58 : decode cX4_putOnStove 58 = .ok (.iconst (-1), 1) := by decide +kernel
theorem dX4_putOnStove_59 : decode cX4_putOnStove 59 = .ok (.if_icmp .eq 12, 3) := by decide +kernel
theorem dX4_putOnStove_62 : decode cX4_putOnStove 62 = .ok (.aload_n 0, 1) := by decide +kernel
theorem dX4_putOnStove_63 : decode cX4_putOnStove 63 = .ok (.iload_n 1, 1) := by decide +kernel
theorem dX4_putOnStove_64 : decode cX4_putOnStove 64 = .ok (.bipush 6, 2) := by decide +kernel
theorem dX4_putOnStove_66 : decode cX4_putOnStove 66 = .ok (.iload_n 3, 1) := by decide +kernel
theorem dX4_putOnStove_67 : decode cX4_putOnStove 67 = .ok (.invokevirtual 335, 3) := by decide +kernel
theorem dX4_putOnStove_70 : decode cX4_putOnStove 70 = .ok (.ireturn, 1) := by decide +kernel
theorem dX4_putOnStove_71 : decode cX4_putOnStove 71 = .ok (.aload_n 0, 1) := by decide +kernel
theorem dX4_putOnStove_72 : decode cX4_putOnStove 72 = .ok (.getfield 10, 3) := by decide +kernel
theorem dX4_putOnStove_75 : decode cX4_putOnStove 75 = .ok (.aload_n 0, 1) := by decide +kernel
theorem dX4_putOnStove_76 : decode cX4_putOnStove 76 = .ok (.getfield 10, 3) := by decide +kernel
theorem dX4_putOnStove_79 : decode cX4_putOnStove 79 = .ok (.getfield 83, 3) := by decide +kernel
theorem dX4_putOnStove_82 : decode cX4_putOnStove 82 = .ok (.iload_n 1, 1) := by decide +kernel
theorem dX4_putOnStove_83 : decode cX4_putOnStove 83 = .ok (.iaload, 1) := by decide +kernel
theorem dX4_putOnStove_84 : decode cX4_putOnStove 84 = .ok (.invokevirtual 338, 3) := by decide +kernel
theorem dX4_putOnStove_87 : decode cX4_putOnStove 87 = .ok (.istore 4, 2) := by decide +kernel
theorem dX4_putOnStove_89 : decode cX4_putOnStove 89 = .ok (.iload 4, 2) := by decide +kernel
theorem dX4_putOnStove_91 : decode cX4_putOnStove 91 = .ok (.iconst (-1), 1) := by decide +kernel
theorem dX4_putOnStove_92 : decode cX4_putOnStove 92 = .ok (.if_icmp .eq 13, 3) := by decide +kernel
theorem dX4_putOnStove_95 : decode cX4_putOnStove 95 = .ok (.aload_n 0, 1) := by decide +kernel
theorem dX4_putOnStove_96 : decode cX4_putOnStove 96 = .ok (.iload_n 1, 1) := by decide +kernel
theorem dX4_putOnStove_97 : decode cX4_putOnStove 97 = .ok (.bipush 7, 2) := by decide +kernel
theorem dX4_putOnStove_99 : decode cX4_putOnStove 99 = .ok (.iload 4, 2) := by decide +kernel
theorem dX4_putOnStove_101 : decode cX4_putOnStove 101 = .ok (.invokevirtual 335, 3) := by decide +kernel
theorem dX4_putOnStove_104 : decode cX4_putOnStove 104 = .ok (.ireturn, 1) := by decide +kernel
theorem dX4_putOnStove_105 : decode cX4_putOnStove 105 = .ok (.aload_n 0, 1) := by decide +kernel
theorem dX4_putOnStove_106 : decode cX4_putOnStove 106 = .ok (.getfield 10, 3) := by decide +kernel
theorem dX4_putOnStove_109 : decode cX4_putOnStove 109 = .ok (.getfield 104, 3) := by decide +kernel
theorem dX4_putOnStove_112 : decode cX4_putOnStove 112 = .ok (.iload_n 1, 1) := by decide +kernel
theorem dX4_putOnStove_113 : decode cX4_putOnStove 113 = .ok (.iaload, 1) := by decide +kernel
theorem dX4_putOnStove_114 : decode cX4_putOnStove 114 = .ok (.ifCond .le 20, 3) := by decide +kernel
theorem dX4_putOnStove_117 : decode cX4_putOnStove 117 = .ok (.aload_n 0, 1) := by decide +kernel
theorem dX4_putOnStove_118 : decode cX4_putOnStove 118 = .ok (.iload_n 1, 1) := by decide +kernel
theorem dX4_putOnStove_119 : decode cX4_putOnStove 119 = .ok (.bipush 8, 2) := by decide +kernel
theorem dX4_putOnStove_121 : decode cX4_putOnStove 121 = .ok (.aload_n 0, 1) := by decide +kernel
theorem dX4_putOnStove_122 : decode cX4_putOnStove 122 = .ok (.getfield 10, 3) := by decide +kernel
theorem dX4_putOnStove_125 : decode cX4_putOnStove 125 = .ok (.getfield 104, 3) := by decide +kernel
theorem dX4_putOnStove_128 : decode cX4_putOnStove 128 = .ok (.iload_n 1, 1) := by decide +kernel
theorem dX4_putOnStove_129 : decode cX4_putOnStove 129 = .ok (.iaload, 1) := by decide +kernel
theorem dX4_putOnStove_130 : decode cX4_putOnStove 130 = .ok (.invokevirtual 335, 3) := by decide +kernel
theorem dX4_putOnStove_133 : decode cX4_putOnStove 133 = .ok (.ireturn, 1) := by decide +kernel
theorem dX4_putOnStove_134 : decode cX4_putOnStove 134 = .ok (.aload_n 0, 1) := by decide +kernel
theorem dX4_putOnStove_135 : decode cX4_putOnStove 135 = .ok (.getfield 10, 3) := by decide +kernel
theorem dX4_putOnStove_138 : decode cX4_putOnStove 138 = .ok (.getfield 95, 3) := by decide +kernel
theorem dX4_putOnStove_141 : decode cX4_putOnStove 141 = .ok (.iload_n 1, 1) := by decide +kernel
theorem dX4_putOnStove_142 : decode cX4_putOnStove 142 = .ok (.iload_n 2, 1) := by decide +kernel
theorem dX4_putOnStove_143 : decode cX4_putOnStove 143 = .ok (.iastore, 1) := by decide +kernel
theorem dX4_putOnStove_144 : decode cX4_putOnStove 144 = .ok (.aload_n 0, 1) := by decide +kernel
theorem dX4_putOnStove_145 : decode cX4_putOnStove 145 = .ok (.getfield 10, 3) := by decide +kernel
theorem dX4_putOnStove_148 : decode cX4_putOnStove 148 = .ok (.invokevirtual 259, 3) := by decide +kernel
theorem dX4_putOnStove_151 : decode cX4_putOnStove 151 = .ok (.ireturn, 1) := by decide +kernel
theorem dX4_takeOffStove_0 : decode cX4_takeOffStove 0 = .ok (.aload_n 0, 1) := by decide +kernel
theorem dX4_takeOffStove_1 : decode cX4_takeOffStove 1 = .ok (.iload_n 1, 1) := by decide +kernel
theorem dX4_takeOffStove_2 : decode cX4_takeOffStove 2 = .ok (.invokevirtual 77, 3) := by decide +kernel
theorem dX4_takeOffStove_5 : decode cX4_takeOffStove 5 = .ok (.ifCond .ne 7, 3) := by decide +kernel
theorem dX4_takeOffStove_8 : decode cX4_takeOffStove 8 = .ok (.sipush (-1011), 3) := by decide +kernel
theorem dX4_takeOffStove_11 : decode cX4_takeOffStove 11 = .ok (.ireturn, 1) := by decide +kernel
theorem dX4_takeOffStove_12 : decode cX4_takeOffStove 12 = .ok (.aload_n 0, 1) := by decide +kernel
theorem dX4_takeOffStove_13 : decode cX4_takeOffStove 13 = .ok (.getfield 10, 3) := by decide +kernel
theorem dX4_takeOffStove_16 : decode cX4_takeOffStove 16 = .ok (.getfield 95, 3) := by decide +kernel
theorem dX4_takeOffStove_19 : decode cX4_takeOffStove 19 = .ok (.iload_n 1, 1) := by decide +kernel
theorem dX4_takeOffStove_20 : decode cX4_takeOffStove 20 = .ok (.iaload, 1) := by decide +kernel
theorem dX4_takeOffStove_21 : decode cX4_takeOffStove 21 = .ok (.istore_n 2, 1) := by decide +kernel
theorem dX4_takeOffStove_22 : decode cX4_takeOffStove 22 = .ok (.iload_n 2, 1) := by decide +kernel
theorem dX4_takeOffStove_23 : decode cX4_takeOffStove 23 = .ok (.iconst (-1), 1) := by decide +kernel
theorem dX4_takeOffStove_24 : decode cX4_takeOffStove 24 = .ok (.if_icmp .ne 17, 3) := by decide +kernel
theorem dX4_takeOffStove_27 : decode cX4_takeOffStove 27 = .ok (.aload_n 0, 1) := by decide +kernel
theorem dX4_takeOffStove_28 : decode cX4_takeOffStove 28 = .ok (.bipush 10, 2) := by decide +kernel
theorem dX4_takeOffStove_30 : decode cX4_takeOffStove 30 = .ok (.aload_n 0, 1) := by decide +kernel
theorem dX4_takeOffStove_31 : decode cX4_takeOffStove 31 = .ok (.getfield 10, 3) := by decide +kernel
theorem dX4_takeOffStove_34 : decode cX4_takeOffStove 34 = .ok (.invokevirtual 259, 3) := by decide +kernel
theorem dX4_takeOffStove_37 : decode cX4_takeOffStove 37 = .ok (.invokevirtual 329, 3) := by decide +kernel
theorem dX4_takeOffStove_40 : decode cX4_takeOffStove 40 = .ok (.ireturn, 1) := by decide +kernel
theorem dX4_takeOffStove_41 : decode cX4_takeOffStove 41 = .ok (.aload_n 0, 1) := by decide +kernel
theorem dX4_takeOffStove_42 : decode cX4_takeOffStove 42 = .ok (.getfield 10, 3) := by decide +kernel
theorem dX4_takeOffStove_45 : decode cX4_takeOffStove 45 = .ok (.getfield 95, 3) := by decide +kernel
theorem dX4_takeOffStove_48 : decode cX4_takeOffStove 48 = .ok (.iload_n 1, 1) := by decide +kernel
theorem dX4_takeOffStove_49 : decode cX4_takeOffStove 49 = .ok (.iconst (-1), 1) := by decide +kernel
theorem dX4_takeOffStove_50 : decode cX4_takeOffStove 50 = .ok (.iastore, 1) := by decide +kernel
theorem dX4_takeOffStove_51 : decode cX4_takeOffStove 51 = .ok (.iload_n 2, 1) := by decide +kernel
theorem dX4_takeOffStove_52 : decode cX4_takeOffStove 52 = .ok (.ireturn, 1) := by decide +kernel
theorem dX4_turnStove_0 : decode cX4_turnStove 0 = .ok (.iload_n 1, 1) := by decide +kernel
theorem dX4_turnStove_1 : decode cX4_turnStove 1 = .ok (.invokestatic 130, 3) := by decide +kernel
theorem dX4_turnStove_4 : decode cX4_turnStove 4 = .ok (.ifCond .ne 7, 3) := by decide +kernel
theorem dX4_turnStove_7 : decode cX4_turnStove 7 = .ok (.sipush (-1011), 3) := by decide +kernel
theorem dX4_turnStove_10 : decode cX4_turnStove 10 = .ok (.ireturn, 1) := by decide +kernel
theorem dX4_turnStove_11 : decode cX4_turnStove 11 = .ok (.iload_n 2, 1) := by decide +kernel
theorem dX4_turnStove_12 : decode cX4_turnStove 12 = .ok (.ifCond .lt 8, 3) := by decide +kernel
theorem dX4_turnStove_15 : decode cX4_turnStove 15 = .ok (.iload_n 2, 1) := by decide +kernel
theorem dX4_turnStove_16 : decode cX4_turnStove 16 = .ok (.iconst 5, 1) := by decide +kernel
theorem dX4_turnStove_17 : decode cX4_turnStove 17 = .ok (.if_icmp .le 7, 3) := by decide +kernel
theorem dX4_turnStove_20 : decode cX4_turnStove 20 = .ok (.sipush (-1012), 3) := by decide +kernel
theorem dX4_turnStove_23 : decode cX4_turnStove 23 = .ok (.ireturn, 1) := by decide +kernel
theorem dX4_turnStove_24 : decode cX4_turnStove 24 = .ok (.aload_n 0, 1) := by decide +kernel
theorem dX4_turnStove_25 : decode cX4_turnStove 25 = .ok (.getfield 10, 3) := by decide +kernel
theorem dX4_turnStove_28 : decode cX4_turnStove 28 = .ok (.getfield 133, 3) := by decide +kernel
theorem dX4_turnStove_31 : decode cX4_turnStove 31 = .ok (.iload_n 1, 1) := by decide +kernel
theorem dX4_turnStove_32 : decode cX4_turnStove 32 = .ok (.iaload, 1) := by decide +kernel
theorem dX4_turnStove_33 : decode cX4_turnStove 33 = .ok (.istore_n 3, 1) := by decide +kernel
theorem dX4_turnStove_34 : decode cX4_turnStove 34 = .ok (.iload_n 3, 1) := by decide +kernel
theorem dX4_turnStove_35 : decode cX4_turnStove 35 = .ok (.iload_n 2, 1) := by decide +kernel
theorem dX4_turnStove_36 : decode cX4_turnStove 36 = .ok (.if_icmp .ne 11, 3) := by decide +kernel
theorem dX4_turnStove_39 : decode cX4_turnStove 39 = .ok (.aload_n 0, 1) := by decide +kernel
theorem dX4_turnStove_40 : decode cX4_turnStove 40 = .ok (.bipush 9, 2) := by decide +kernel
theorem dX4_turnStove_42 : decode cX4_turnStove 42 = .ok (.iload_n 2, 1) := by decide +kernel
theorem dX4_turnStove_43 : decode cX4_turnStove 43 = .ok (.invokevirtual 329, 3) := by decide +kernel
theorem dX4_turnStove_46 : decode cX4_turnStove 46 = .ok (.ireturn, 1) := by decide +kernel
theorem dX4_turnStove_47 : decode cX4_turnStove 47 = .ok (.aload_n 0, 1) := by decide +kernel
theorem dX4_turnStove_48 : decode cX4_turnStove 48 = .ok (.getfield 10, 3) := by decide +kernel
theorem dX4_turnStove_51 : decode cX4_turnStove 51 = .ok (.getfield 133, 3) := by decide +kernel
theorem dX4_turnStove_54 : decode cX4_turnStove 54 = .ok (.iload_n 1, 1) := by decide +kernel
theorem dX4_turnStove_55 : decode cX4_turnStove 55 = .ok (.iload_n 2, 1) := by decide +kernel
theorem dX4_turnStove_56 : decode cX4_turnStove 56 = .ok (.iastore, 1) := by decide +kernel
theorem dX4_turnStove_57 : decode cX4_turnStove 57 = .ok (.iload_n 3, 1) := by decide +kernel
theorem dX4_turnStove_58 : decode cX4_turnStove 58 = .ok (.ireturn, 1) := by decide +kernel
theorem dX4_moveLid_0 : decode cX4_moveLid 0 = .ok (.aload_n 0, 1) := by decide +kernel
theorem dX4_moveLid_1 : decode cX4_moveLid 1 = .ok (.iload_n 1, 1) := by decide +kernel
theorem dX4_moveLid_2 : decode cX4_moveLid 2 = .ok (.invokevirtual 77, 3) := by decide +kernel
theorem dX4_moveLid_5 : decode cX4_moveLid 5 = .ok (.ifCond .ne 7, 3) := by decide +kernel
theorem dX4_moveLid_8 : decode cX4_moveLid 8 = .ok (.sipush (-1011), 3) := by decide +kernel
theorem dX4_moveLid_11 : decode cX4_moveLid 11 = .ok (.ireturn, 1) := by decide +kernel
theorem dX4_moveLid_12 : decode cX4_moveLid 12 = .ok (.iload_n 2, 1) := by decide +kernel
theorem dX4_moveLid_13 : decode cX4_moveLid 13 = .ok (.ifCond .eq 12, 3) := by decide +kernel
theorem dX4_moveLid_16 : decode cX4_moveLid 16 = .ok (.iload_n 2, 1) := by decide +kernel
theorem dX4_moveLid_17 : decode cX4_moveLid 17 = .ok (.iconst 1, 1) := by decide +kernel
theorem dX4_moveLid_18 : decode cX4_moveLid 18 = .ok (.if_icmp .eq 7, 3) := by decide +kernel
theorem dX4_moveLid_21 : decode cX4_moveLid 21 = .ok (.sipush (-1012), 3) := by decide +kernel
theorem dX4_moveLid_24 : decode cX4_moveLid 24 = .ok (.ireturn, 1) := by decide +kernel
theorem dX4_moveLid_25 : decode cX4_moveLid 25 = .ok (.aload_n 0, 1) := by decide +kernel
theorem dX4_moveLid_26 : decode cX4_moveLid 26 = .ok (.getfield 10, 3) := by decide +kernel
theorem dX4_moveLid_29 : decode cX4_moveLid 29 = .ok (.getfield 92, 3) := by decide +kernel
theorem dX4_moveLid_32 : decode cX4_moveLid 32 = .ok (.iload_n 1, 1) := by decide +kernel
theorem dX4_moveLid_33 : decode cX4_moveLid 33 = .ok (.iaload, 1) := by decide +kernel
theorem dX4_moveLid_34 : decode cX4_moveLid 34 = .ok (.iload_n 2, 1) := by decide +kernel
theorem dX4_moveLid_35 : decode cX4_moveLid 35 = .ok (.if_icmp .ne 11, 3) := by decide +kernel
theorem dX4_moveLid_38 : decode cX4_moveLid 38 = .ok (.aload_n 0, 1) := by decide +kernel
theorem dX4_moveLid_39 : decode cX4_moveLid 39 = .ok (.bipush 9, 2) := by decide +kernel
theorem dX4_moveLid_41 : decode cX4_moveLid 41 = .ok (.iload_n 2, 1) := by decide +kernel
theorem dX4_moveLid_42 : decode cX4_moveLid 42 = .ok (.invokevirtual 329, 3) := by decide +kernel
theorem dX4_moveLid_45 : decode cX4_moveLid 45 = .ok (.ireturn, 1) := by decide +kernel
theorem dX4_moveLid_46 : decode cX4_moveLid 46 = .ok (.iload_n 2, 1) := by decide +kernel
theorem dX4_moveLid_47 : decode cX4_moveLid 47 = .ok (.iconst 1, 1) := by decide +kernel
theorem dX4_moveLid_48 : decode cX4_moveLid 48 = .ok (.if_icmp .ne 36, 3) := by decide +kernel
theorem dX4_moveLid_51 : decode cX4_moveLid 51 = .ok (.aload_n 0, 1) := by decide +kernel
theorem dX4_moveLid_52 : decode cX4_moveLid 52 = .ok (.getfield 10, 3) := by decide +kernel
theorem dX4_moveLid_55 : decode cX4_moveLid 55 = .ok (.getfield 341, 3) := by decide +kernel
theorem dX4_moveLid_58 : decode cX4_moveLid 58 = .ok (.iload_n 1, 1) := by decide +kernel
theorem dX4_moveLid_59 : decode cX4_moveLid 59 = .ok (.iaload, 1) := by decide +kernel
theorem dX4_moveLid_60 : decode cX4_moveLid 60 = .ok (.iconst 1, 1) := by decide +kernel
theorem dX4_moveLid_61 : decode cX4_moveLid 61 = .ok (.if_icmp .ne 23, 3) := by decide +kernel
theorem dX4_moveLid_64 : decode cX4_moveLid 64 = .ok (.aload_n 0, 1) := by decide +kernel
theorem dX4_moveLid_65 : decode cX4_moveLid 65 = .ok (.bipush 12, 2) := by decide +kernel
theorem dX4_moveLid_67 : decode cX4_moveLid 67 = .ok (.bipush 6, 2) := by decide +kernel
theorem dX4_moveLid_69 : decode cX4_moveLid 69 = .ok (.aload_n 0, 1) := by decide +kernel
theorem dX4_moveLid_70 : decode cX4_moveLid 70 = .ok (.getfield 10, 3) := by decide +kernel
theorem dX4_moveLid_73 : decode cX4_moveLid 73 = .ok (.getfield 271, 3) := by decide +kernel
theorem dX4_moveLid_76 : decode cX4_moveLid 76 = .ok (.bipush 6, 2) := by decide +kernel
theorem dX4_moveLid_78 : decode cX4_moveLid 78 = .ok (.irem, 1) := by decide +kernel
theorem dX4_moveLid_79 : decode cX4_moveLid 79 = .ok (.isub, 1) := by decide +kernel
theorem dX4_moveLid_80 : decode cX4_moveLid 80 = .ok (.invokevirtual 329, 3) := by decide +kernel
theorem dX4_moveLid_83 : decode cX4_moveLid 83 = .ok (.ireturn, 1) := by decide +kernel
theorem dX4_moveLid_84 : decode cX4_moveLid 84 = .ok (.aload_n 0, 1) := by decide +kernel
theorem dX4_moveLid_85 : decode cX4_moveLid 85 = .ok (.getfield 10, 3) := by decide +kernel
theorem dX4_moveLid_88 : decode cX4_moveLid 88 = .ok (.getfield 92, 3) := by decide +kernel
theorem dX4_moveLid_91 : decode cX4_moveLid 91 = .ok (.iload_n 1, 1) := by decide +kernel
theorem dX4_moveLid_92 : decode cX4_moveLid 92 = .ok (.iload_n 2, 1) := by decide +kernel
theorem dX4_moveLid_93 : decode cX4_moveLid 93 = .ok (.iastore, 1) := by decide +kernel
theorem dX4_moveLid_94 : decode cX4_moveLid 94 = .ok (.aload_n 0, 1) := by decide +kernel
theorem dX4_moveLid_95 : decode cX4_moveLid 95 = .ok (.getfield 10, 3) := by decide +kernel
theorem dX4_moveLid_98 : decode cX4_moveLid 98 = .ok (.invokevirtual 265, 3) := by decide +kernel
theorem dX4_moveLid_101 : decode cX4_moveLid 101 = .ok (.ireturn, 1) := by decide +kernel
theorem dX4_makeAppeal_0 : decode cX4_makeAppeal 0 = .ok (.iload_n 1, 1) := by decide +kernel
theorem dX4_makeAppeal_1 : decode cX4_makeAppeal 1 = .ok (.invokestatic 180, 3) := by decide +kernel
theorem dX4_makeAppeal_4 : decode cX4_makeAppeal 4 = .ok (.ifCond .eq 11, 3) := by decide +kernel
theorem dX4_makeAppeal_7 : decode cX4_makeAppeal 7 = .ok (.aload_n 0, 1) := by decide +kernel
theorem dX4_makeAppeal_8 : decode cX4_makeAppeal 8 = .ok (.iload_n 2, 1) := by decide +kernel
theorem dX4_makeAppeal_9 : decode cX4_makeAppeal 9 = .ok (.invokevirtual 77, 3) := by decide +kernel
theorem dX4_makeAppeal_12 : decode cX4_makeAppeal 12 = .ok (.ifCond .ne 7, 3) := by decide +kernel
theorem dX4_makeAppeal_15 : decode cX4_makeAppeal 15 = .ok (.sipush (-1011), 3) := by decide +kernel
theorem dX4_makeAppeal_18 : decode cX4_makeAppeal 18 = .ok (.ireturn, 1) := by decide +kernel
theorem dX4_makeAppeal_19 : decode cX4_makeAppeal 19 = .ok (.aload_n 0, 1) := by decide +kernel
theorem dX4_makeAppeal_20 : decode cX4_makeAppeal 20 = .ok (.getfield 10, 3) := by decide +kernel
theorem dX4_makeAppeal_23 : decode cX4_makeAppeal 23 = .ok (.getfield 80, 3) := by decide +kernel
theorem dX4_makeAppeal_26 : decode cX4_makeAppeal 26 = .ok (.iload_n 2, 1) := by decide +kernel
theorem dX4_makeAppeal_27 : decode cX4_makeAppeal 27 = .ok (.iaload, 1) := by decide +kernel
theorem dX4_makeAppeal_28 : decode cX4_makeAppeal 28 = .ok (.iload_n 1, 1) := by decide +kernel
theorem dX4_makeAppeal_29 : decode cX4_makeAppeal 29 = .ok (.if_icmp .ne 11, 3) := by decide +kernel
theorem dX4_makeAppeal_32 : decode cX4_makeAppeal 32 = .ok (.aload_n 0, 1) := by decide +kernel
theorem dX4_makeAppeal_33 : decode cX4_makeAppeal 33 = .ok (.bipush 13, 2) := by decide +kernel
theorem dX4_makeAppeal_35 : decode cX4_makeAppeal 35 = .ok (.iload_n 1, 1) := by decide +kernel
theorem dX4_makeAppeal_36 : decode cX4_makeAppeal 36 = .ok (.invokevirtual 329, 3) := by decide +kernel
theorem dX4_makeAppeal_39 : decode cX4_makeAppeal 39 = .ok (.ireturn, 1) := by decide +kernel
theorem dX4_makeAppeal_40 : decode cX4_makeAppeal 40 = .ok (.aload_n 0, 1) := by decide +kernel
theorem dX4_makeAppeal_41 : decode cX4_makeAppeal 41 = .ok (.getfield 10, 3) := by decide +kernel
theorem dX4_makeAppeal_44 : decode cX4_makeAppeal 44 = .ok (.getfield 92, 3) := by decide +kernel
theorem dX4_makeAppeal_47 : decode cX4_makeAppeal 47 = .ok (.iload_n 2, 1) := by decide +kernel
theorem dX4_makeAppeal_48 : decode cX4_makeAppeal 48 = .ok (.iaload, 1) := by decide +kernel
theorem dX4_makeAppeal_49 : decode cX4_makeAppeal 49 = .ok (.ifCond .ne 17, 3) := by decide +kernel
theorem dX4_makeAppeal_52 : decode cX4_makeAppeal 52 = .ok (.aload_n 0, 1) := by decide +kernel
theorem dX4_makeAppeal_53 : decode cX4_makeAppeal 53 = .ok (.bipush 15, 2) := by decide +kernel
theorem dX4_makeAppeal_55 : decode cX4_makeAppeal 55 = .ok (.aload_n 0, 1) := by decide +kernel
theorem dX4_makeAppeal_56 : decode cX4_makeAppeal 56 = .ok (.getfield 10, 3) := by decide +kernel
theorem dX4_makeAppeal_59 : decode cX4_makeAppeal 59 = .ok (.invokevirtual 265, 3) := by decide +kernel
theorem dX4_makeAppeal_62 : decode cX4_makeAppeal 62 = .ok (.invokevirtual 329, 3) := by decide +kernel
theorem dX4_makeAppeal_65 : decode cX4_makeAppeal 65 = .ok (.ireturn, 1) := by decide +kernel
theorem dX4_makeAppeal_66 : decode cX4_makeAppeal 66 = .ok (.aload_n 0, 1) := by decide +kernel
theorem dX4_makeAppeal_67 : decode cX4_makeAppeal 67 = .ok (.getfield 10, 3) := by decide +kernel
theorem dX4_makeAppeal_70 : decode cX4_makeAppeal 70 = .ok (.getfield 107, 3) := by decide +kernel
theorem dX4_makeAppeal_73 : decode cX4_makeAppeal 73 = .ok (.iload_n 2, 1) := by decide +kernel
theorem dX4_makeAppeal_74 : decode cX4_makeAppeal 74 = .ok (.iaload, 1) := by decide +kernel
theorem dX4_makeAppeal_75 : decode cX4_makeAppeal 75 = .ok (.iload_n 1, 1) := by decide +kernel
theorem dX4_makeAppeal_76 : decode cX4_makeAppeal 76 = .ok (.invokestatic 150, 3) := by decide +kernel
theorem dX4_makeAppeal_79 : decode cX4_makeAppeal 79 = .ok (.ifCond .eq 22, 3) := by decide +kernel
theorem dX4_makeAppeal_82 : decode cX4_makeAppeal 82 = .ok (.aload_n 0, 1) := by decide +kernel
theorem dX4_makeAppeal_83 : decode cX4_makeAppeal 83 = .ok (.bipush 14, 2) := by decide +kernel
theorem dX4_makeAppeal_85 : decode cX4_makeAppeal 85 = .ok (.aload_n 0, 1) := by decide +kernel
theorem dX4_makeAppeal_86 : decode cX4_makeAppeal 86 = .ok (.getfield 10, 3) := by decide +kernel
theorem dX4_makeAppeal_89 : decode cX4_makeAppeal 89 = .ok (.getfield 107, 3) := by decide +kernel
theorem dX4_makeAppeal_92 : decode cX4_makeAppeal 92 = .ok (.iload_n 2, 1) := by decide +kernel
theorem dX4_makeAppeal_93 : decode cX4_makeAppeal 93 = .ok (.iaload, 1) := by decide +kernel
theorem dX4_makeAppeal_94 : decode cX4_makeAppeal 94 = .ok (.invokestatic 110, 3) := by decide +kernel
theorem dX4_makeAppeal_97 : decode cX4_makeAppeal 97 = .ok (.invokevirtual 329, 3) := by decide +kernel
theorem dX4_makeAppeal_100 : decode cX4_makeAppeal 100 = .ok (.ireturn, 1) := by decide +kernel
theorem dX4_makeAppeal_101 : decode cX4_makeAppeal 101 = .ok (.aload_n 0, 1) := by decide +kernel
theorem dX4_makeAppeal_102 : decode cX4_makeAppeal 102 = .ok (.getfield 10, 3) := by decide +kernel
theorem dX4_makeAppeal_105 : decode cX4_makeAppeal 105 = .ok (.getfield 198, 3) := by decide +kernel
theorem dX4_makeAppeal_108 : decode cX4_makeAppeal 108 = .ok (.iload_n 1, 1) := by decide +kernel
theorem dX4_makeAppeal_109 : decode cX4_makeAppeal 109 = .ok (.dup2, 1) := by decide +kernel
theorem dX4_makeAppeal_110 : decode cX4_makeAppeal 110 = .ok (.iaload, 1) := by decide +kernel
theorem dX4_makeAppeal_111 : decode cX4_makeAppeal 111 = .ok (.iconst 1, 1) := by decide +kernel
theorem dX4_makeAppeal_112 : decode cX4_makeAppeal 112 = .ok (.iadd, 1) := by decide +kernel
theorem dX4_makeAppeal_113 : decode cX4_makeAppeal 113 = .ok (.iastore, 1) := by decide +kernel
theorem dX4_makeAppeal_114 : decode cX4_makeAppeal 114 = .ok (.aload_n 0, 1) := by decide +kernel
theorem dX4_makeAppeal_115 : decode cX4_makeAppeal 115 = .ok (.getfield 10, 3) := by decide +kernel
theorem dX4_makeAppeal_118 : decode cX4_makeAppeal 118 = .ok (.getfield 107, 3) := by decide +kernel
theorem dX4_makeAppeal_121 : decode cX4_makeAppeal 121 = .ok (.iload_n 2, 1) := by decide +kernel
theorem dX4_makeAppeal_122 : decode cX4_makeAppeal 122 = .ok (.dup2, 1) := by decide +kernel
theorem dX4_makeAppeal_123 : decode cX4_makeAppeal 123 = .ok (.iaload, 1) := by decide +kernel
theorem dX4_makeAppeal_124 : decode cX4_makeAppeal 124 = .ok (.iconst 1, 1) := by decide +kernel
theorem dX4_makeAppeal_125 : decode cX4_makeAppeal 125 = .ok (.iload_n 1, 1) := by decide +kernel
theorem dX4_makeAppeal_126 : decode cX4_makeAppeal 126 = .ok (.ishl, 1) := by decide +kernel
theorem dX4_makeAppeal_127 : decode cX4_makeAppeal 127 = .ok (.ior, 1) := by decide +kernel
theorem dX4_makeAppeal_128 : decode cX4_makeAppeal 128 = .ok (.iastore, 1) := by decide +kernel
theorem dX4_makeAppeal_129 : decode cX4_makeAppeal 129 = .ok (.aload_n 0, 1) := by decide +kernel
theorem dX4_makeAppeal_130 : decode cX4_makeAppeal 130 = .ok (.getfield 10, 3) := by decide +kernel
theorem dX4_makeAppeal_133 : decode cX4_makeAppeal 133 = .ok (.getfield 107, 3) := by decide +kernel
theorem dX4_makeAppeal_136 : decode cX4_makeAppeal 136 = .ok (.iload_n 2, 1) := by decide +kernel
theorem dX4_makeAppeal_137 : decode cX4_makeAppeal 137 = .ok (.iaload, 1) := by decide +kernel
theorem dX4_makeAppeal_138 : decode cX4_makeAppeal 138 = .ok (.invokestatic 110, 3) := by decide +kernel
theorem dX4_makeAppeal_141 : decode cX4_makeAppeal 141 = .ok (.iconst 2, 1) := by decide +kernel
theorem dX4_makeAppeal_142 : decode cX4_makeAppeal 142 = .ok (.if_icmp .ge 5, 3) := by decide +kernel
theorem dX4_makeAppeal_145 : decode cX4_makeAppeal 145 = .ok (.iconst 0, 1) := by decide +kernel
theorem dX4_makeAppeal_146 : decode cX4_makeAppeal 146 = .ok (.ireturn, 1) := by decide +kernel
theorem dX4_makeAppeal_147 : decode cX4_makeAppeal 147 = .ok (.aload_n 0, 1) := by decide +kernel
theorem dX4_makeAppeal_148 : decode cX4_makeAppeal 148 = .ok (.getfield 10, 3) := by decide +kernel
theorem dX4_makeAppeal_151 : decode cX4_makeAppeal 151 = .ok (.iload_n 2, 1) := by decide +kernel
theorem dX4_makeAppeal_152 : decode cX4_makeAppeal 152 = .ok (.invokevirtual 344, 3) := by decide +kernel
theorem dX4_makeAppeal_155 : decode cX4_makeAppeal 155 = .ok (.iconst 1, 1) := by decide +kernel
theorem dX4_makeAppeal_156 : decode cX4_makeAppeal 156 = .ok (.ireturn, 1) := by decide +kernel
theorem dX4_passMinutes_0 : decode cX4_passMinutes 0 = .ok (.iload_n 1, 1) := by decide +kernel
theorem dX4_passMinutes_1 : decode cX4_passMinutes 1 = .ok (.iconst 1, 1) := by decide +kernel
theorem dX4_passMinutes_2 : decode cX4_passMinutes 2 = .ok (.if_icmp .lt 9, 3) := by decide +kernel
theorem dX4_passMinutes_5 : decode cX4_passMinutes 5 = .ok (.iload_n 1, 1) := by decide +kernel
theorem dX4_passMinutes_6 : decode cX4_passMinutes 6 = .ok (.bipush 9, 2) := by decide +kernel
theorem dX4_passMinutes_8 : decode cX4_passMinutes 8 = .ok (.if_icmp .le 7, 3) := by decide +kernel
theorem dX4_passMinutes_11 : decode cX4_passMinutes 11 = .ok (.sipush (-1012), 3) := by decide +kernel
theorem dX4_passMinutes_14 : decode cX4_passMinutes 14 = .ok (.ireturn, 1) := by decide +kernel
theorem dX4_passMinutes_15 : decode cX4_passMinutes 15 = .ok (.iconst 0, 1) := by decide +kernel
theorem dX4_passMinutes_16 : decode cX4_passMinutes 16 = .ok (.istore_n 2, 1) := by decide +kernel
theorem dX4_passMinutes_17 : decode cX4_passMinutes 17 = .ok (.iconst 0, 1) := by decide +kernel
theorem dX4_passMinutes_18 : decode cX4_passMinutes 18 = .ok (.istore_n 3, 1) := by decide +kernel
theorem dX4_passMinutes_19 : decode cX4_passMinutes 19 = .ok (.iload_n 3, 1) := by decide +kernel
theorem dX4_passMinutes_20 : decode cX4_passMinutes 20 = .ok (.iload_n 1, 1) := by decide +kernel
theorem dX4_passMinutes_21 : decode cX4_passMinutes 21 = .ok (.if_icmp .ge 39, 3) := by decide +kernel
theorem dX4_passMinutes_24 : decode cX4_passMinutes 24 = .ok (.iload_n 2, 1) := by decide +kernel
theorem dX4_passMinutes_25 : decode cX4_passMinutes 25 = .ok (.aload_n 0, 1) := by decide +kernel
theorem dX4_passMinutes_26 : decode cX4_passMinutes 26 = .ok (.getfield 10, 3) := by decide +kernel
theorem dX4_passMinutes_29 : decode cX4_passMinutes 29 = .ok (.invokevirtual 347, 3) := by decide +kernel
theorem dX4_passMinutes_32 : decode cX4_passMinutes 32 = .ok (.iadd, 1) := by decide +kernel
theorem dX4_passMinutes_33 : decode cX4_passMinutes 33 = .ok (.istore_n 2, 1) := by decide +kernel
theorem dX4_passMinutes_34 : decode cX4_passMinutes 34 = .ok (.aload_n 0, 1) := by decide +kernel
theorem dX4_passMinutes_35 : decode cX4_passMinutes 35 = .ok (.getfield 10, 3) := by decide +kernel
theorem dX4_passMinutes_38 : decode cX4_passMinutes 38 = .ok (.getfield 271, 3) := by decide +kernel
theorem dX4_passMinutes_41 : decode cX4_passMinutes 41 = .ok (.bipush 6, 2) := by decide +kernel
theorem dX4_passMinutes_43 : decode cX4_passMinutes 43 = .ok (.irem, 1) := by decide +kernel
theorem dX4_passMinutes_44 : decode cX4_passMinutes 44 = .ok (.ifCond .ne 10, 3) := by decide +kernel
theorem dX4_passMinutes_47 : decode cX4_passMinutes 47 = .ok (.aload_n 0, 1) := by decide +kernel
theorem dX4_passMinutes_48 : decode cX4_passMinutes 48 = .ok (.getfield 10, 3) := by decide +kernel
theorem dX4_passMinutes_51 : decode cX4_passMinutes 51 = .ok (.invokevirtual 350, 3) := by decide +kernel
theorem dX4_passMinutes_54 : decode cX4_passMinutes 54 = .ok (.iinc 3 1, 3) := by decide +kernel
theorem dX4_passMinutes_57 : decode cX4_passMinutes 57 = .ok (.goto (-38), 3) := by decide +kernel
theorem dX4_passMinutes_60 : decode cX4_passMinutes 60 = .ok (.iload_n 2, 1) := by decide +kernel
theorem dX4_passMinutes_61 : decode cX4_passMinutes 61 = .ok (.ireturn, 1) := by decide +kernel
theorem dX4_carryOut_0 : decode cX4_carryOut 0 = .ok (.aload_n 0, 1) := by decide +kernel
theorem dX4_carryOut_1 : decode cX4_carryOut 1 = .ok (.getfield 36, 3) := by decide +kernel
theorem dX4_carryOut_4 : decode cX4_carryOut 4 = .ok (.iload_n 1, 1) := by decide +kernel
theorem dX4_carryOut_5 : decode cX4_carryOut 5 = .ok (.iconst 0, 1) := by decide +kernel
theorem dX4_carryOut_6 : decode cX4_carryOut 6 = .ok (.invokevirtual 353, 3) := by decide +kernel
theorem dX4_carryOut_9 : decode cX4_carryOut 9 = .ok (.istore_n 2, 1) := by decide +kernel
theorem dX4_carryOut_10 : decode cX4_carryOut 10 = .ok (.aload_n 0, 1) := by decide +kernel
theorem dX4_carryOut_11 : decode cX4_carryOut 11 = .ok (.getfield 36, 3) := by decide +kernel
theorem dX4_carryOut_14 : decode cX4_carryOut 14 = .ok (.iload_n 1, 1) := by decide +kernel
theorem dX4_carryOut_15 : decode cX4_carryOut 15 = .ok (.iconst 1, 1) := by decide +kernel
theorem dX4_carryOut_16 : decode cX4_carryOut 16 = .ok (.invokevirtual 353, 3) := by decide +kernel
theorem dX4_carryOut_19 : decode cX4_carryOut 19 = .ok (.istore_n 3, 1) := by decide +kernel
theorem dX4_carryOut_20 : decode cX4_carryOut 20 = .ok (.aload_n 0, 1) := by decide +kernel
theorem dX4_carryOut_21 : decode cX4_carryOut 21 = .ok (.getfield 36, 3) := by decide +kernel
theorem dX4_carryOut_24 : decode cX4_carryOut 24 = .ok (.iload_n 1, 1) := by decide +kernel
theorem dX4_carryOut_25 : decode cX4_carryOut 25 = .ok (.invokevirtual 356, 3) := by decide +kernel
theorem dX4_carryOut_28 : decode cX4_carryOut 28 = .ok (.tableswitch 122 0 8 #[52, 59, 75, 82, 88, 95, 102, 109, 116], 52) := by decide +kernel
theorem dX4_carryOut_80 : decode cX4_carryOut 80 = .ok (.aload_n 0, 1) := by decide +kernel
theorem dX4_carryOut_81 : decode cX4_carryOut 81 = .ok (.iload_n 2, 1) := by decide +kernel
theorem dX4_carryOut_82 : decode cX4_carryOut 82 = .ok (.iload_n 3, 1) := by decide +kernel
theorem dX4_carryOut_83 : decode cX4_carryOut 83 = .ok (.invokevirtual 51, 3) := by decide +kernel
theorem dX4_carryOut_86 : decode cX4_carryOut 86 = .ok (.ireturn, 1) := by decide +kernel
theorem dX4_carryOut_87 : decode cX4_carryOut 87 = .ok (.aload_n 0, 1) := by decide +kernel
theorem dX4_carryOut_88 : decode cX4_carryOut 88 = .ok (.iload_n 2, 1) := by decide +kernel
theorem dX4_carryOut_89 : decode cX4_carryOut 89 = .ok (.iload_n 3, 1) := by decide +kernel
theorem dX4_carryOut_90 : decode cX4_carryOut 90 = .ok (.aload_n 0, 1) := by decide +kernel
theorem dX4_carryOut_91 : decode cX4_carryOut 91 = .ok (.getfield 36, 3) := by decide +kernel
theorem dX4_carryOut_94 : decode cX4_carryOut 94 = .ok (.iload_n 1, 1) := by decide +kernel
theorem dX4_carryOut_95 : decode cX4_carryOut 95 = .ok (.iconst 2, 1) := by decide +kernel
theorem dX4_carryOut_96 : decode cX4_carryOut 96 = .ok (.invokevirtual 353, 3) := by decide +kernel
theorem dX4_carryOut_99 : decode cX4_carryOut 99 = .ok (.invokevirtual 70, 3) := by decide +kernel
theorem dX4_carryOut_102 : decode cX4_carryOut 102 = .ok (.ireturn, 1) := by decide +kernel
theorem dX4_carryOut_103 : decode cX4_carryOut 103 = .ok (.aload_n 0, 1) := by decide +kernel
theorem dX4_carryOut_104 : decode cX4_carryOut 104 = .ok (.iload_n 2, 1) := by decide +kernel
theorem dX4_carryOut_105 : decode cX4_carryOut 105 = .ok (.iload_n 3, 1) := by decide +kernel
theorem dX4_carryOut_106 : decode cX4_carryOut 106 = .ok (.invokevirtual 115, 3) := by decide +kernel
theorem dX4_carryOut_109 : decode cX4_carryOut 109 = .ok (.ireturn, 1) := by decide +kernel
theorem dX4_carryOut_110 : decode cX4_carryOut 110 = .ok (.aload_n 0, 1) := by decide +kernel
theorem dX4_carryOut_111 : decode cX4_carryOut 111 = .ok (.iload_n 2, 1) := by decide +kernel
theorem dX4_carryOut_112 : decode cX4_carryOut 112 = .ok (.invokevirtual 118, 3) := by decide +kernel
theorem dX4_carryOut_115 : decode cX4_carryOut 115 = .ok (.ireturn, 1) := by decide +kernel
theorem dX4_carryOut_116 : decode cX4_carryOut 116 = .ok (.aload_n 0, 1) := by decide +kernel
theorem dX4_carryOut_117 : decode cX4_carryOut 117 = .ok (.iload_n 2, 1) := by decide +kernel
theorem dX4_carryOut_118 : decode cX4_carryOut 118 = .ok (.iload_n 3, 1) := by decide +kernel
theorem dX4_carryOut_119 : decode cX4_carryOut 119 = .ok (.invokevirtual 121, 3) := by decide +kernel
theorem dX4_carryOut_122 : decode cX4_carryOut 122 = .ok (.ireturn, 1) := by decide +kernel
theorem dX4_carryOut_123 : decode cX4_carryOut 123 = .ok (.aload_n 0, 1) := by decide +kernel
theorem dX4_carryOut_124 : decode cX4_carryOut 124 = .ok (.iload_n 2, 1) := by decide +kernel
theorem dX4_carryOut_125 : decode cX4_carryOut 125 = .ok (.iload_n 3, 1) := by decide +kernel
theorem dX4_carryOut_126 : decode cX4_carryOut 126 = .ok (.invokevirtual 74, 3) := by decide +kernel
theorem dX4_carryOut_129 : decode cX4_carryOut 129 = .ok (.ireturn, 1) := by decide +kernel
theorem dX4_carryOut_130 : decode cX4_carryOut 130 = .ok (.aload_n 0, 1) := by decide +kernel
theorem dX4_carryOut_131 : decode cX4_carryOut 131 = .ok (.iload_n 2, 1) := by decide +kernel
theorem dX4_carryOut_132 : decode cX4_carryOut 132 = .ok (.iload_n 3, 1) := by decide +kernel
theorem dX4_carryOut_133 : decode cX4_carryOut 133 = .ok (.invokevirtual 124, 3) := by decide +kernel
theorem dX4_carryOut_136 : decode cX4_carryOut 136 = .ok (.ireturn, 1) := by decide +kernel
theorem dX4_carryOut_137 : decode cX4_carryOut 137 = .ok (.aload_n 0, 1) := by decide +kernel
theorem dX4_carryOut_138 : decode cX4_carryOut 138 = .ok (.iload_n 2, 1) := by decide +kernel
theorem dX4_carryOut_139 : decode cX4_carryOut 139 = .ok (.iload_n 3, 1) := by decide +kernel
theorem dX4_carryOut_140 : decode cX4_carryOut 140 = .ok (.invokevirtual 127, 3) := by decide +kernel
theorem dX4_carryOut_143 : decode cX4_carryOut 143 = .ok (.ireturn, 1) := by decide +kernel
theorem dX4_carryOut_144 : decode cX4_carryOut 144 = .ok (.aload_n 0, 1) := by decide +kernel
theorem dX4_carryOut_145 : decode cX4_carryOut 145 = .ok (.iload_n 2, 1) := by decide +kernel
theorem dX4_carryOut_146 : decode cX4_carryOut 146 = .ok (.invokevirtual 139, 3) := by decide +kernel
theorem dX4_carryOut_149 : decode cX4_carryOut 149 = .ok (.ireturn, 1) := by decide +kernel
theorem dX4_carryOut_150 : decode cX4_carryOut 150 = .ok (.sipush (-1011), 3) := by decide +kernel
theorem dX4_carryOut_153 : decode cX4_carryOut 153 = .ok (.ireturn, 1) := by decide +kernel
theorem dX4_refuse_0 : decode cX4_refuse 0 = .ok (.aload_n 0, 1) := by decide +kernel
theorem dX4_refuse_1 : decode cX4_refuse 1 = .ok (.getfield 29, 3) := by decide +kernel
theorem dX4_refuse_4 : decode cX4_refuse 4 = .ok (.iconst 0, 1) := by decide +kernel
theorem dX4_refuse_5 : decode cX4_refuse 5 = .ok (.putfield 252, 3) := by decide +kernel
theorem dX4_refuse_8 : decode cX4_refuse 8 = .ok (.aload_n 0, 1) := by decide +kernel
theorem dX4_refuse_9 : decode cX4_refuse 9 = .ok (.getfield 29, 3) := by decide +kernel
theorem dX4_refuse_12 : decode cX4_refuse 12 = .ok (.iload_n 1, 1) := by decide +kernel
theorem dX4_refuse_13 : decode cX4_refuse 13 = .ok (.iload_n 2, 1) := by decide +kernel
theorem dX4_refuse_14 : decode cX4_refuse 14 = .ok (.invokevirtual 359, 3) := by decide +kernel
theorem dX4_refuse_17 : decode cX4_refuse 17 = .ok (.sipush (-1014), 3) := by decide +kernel
theorem dX4_refuse_20 : decode cX4_refuse 20 = .ok (.ireturn, 1) := by decide +kernel
theorem dX4_refuseStove_0 : decode cX4_refuseStove 0 = .ok (.aload_n 0, 1) := by decide +kernel
theorem dX4_refuseStove_1 : decode cX4_refuseStove 1 = .ok (.iload_n 2, 1) := by decide +kernel
theorem dX4_refuseStove_2 : decode cX4_refuseStove 2 = .ok (.iload_n 3, 1) := by decide +kernel
theorem dX4_refuseStove_3 : decode cX4_refuseStove 3 = .ok (.invokevirtual 329, 3) := by decide +kernel
theorem dX4_refuseStove_6 : decode cX4_refuseStove 6 = .ok (.pop, 1) := by decide +kernel
theorem dX4_refuseStove_7 : decode cX4_refuseStove 7 = .ok (.aload_n 0, 1) := by decide +kernel
theorem dX4_refuseStove_8 : decode cX4_refuseStove 8 = .ok (.getfield 29, 3) := by decide +kernel
theorem dX4_refuseStove_11 : decode cX4_refuseStove 11 = .ok (.iconst 4, 1) := by decide +kernel
theorem dX4_refuseStove_12 : decode cX4_refuseStove 12 = .ok (.iload_n 1, 1) := by decide +kernel
theorem dX4_refuseStove_13 : decode cX4_refuseStove 13 = .ok (.invokevirtual 359, 3) := by decide +kernel
theorem dX4_refuseStove_16 : decode cX4_refuseStove 16 = .ok (.sipush (-1014), 3) := by decide +kernel
theorem dX4_refuseStove_19 : decode cX4_refuseStove 19 = .ok (.ireturn, 1) := by decide +kernel
theorem dX4_refuseOrder_0 : decode cX4_refuseOrder 0 = .ok (.iload_n 2, 1) := by decide +kernel
theorem dX4_refuseOrder_1 : decode cX4_refuseOrder 1 = .ok (.sipush (-1014), 3) := by decide +kernel
theorem dX4_refuseOrder_4 : decode cX4_refuseOrder 4 = .ok (.if_icmp .eq 11, 3) := by decide +kernel
theorem dX4_refuseOrder_7 : decode cX4_refuseOrder 7 = .ok (.aload_n 0, 1) := by decide +kernel
theorem dX4_refuseOrder_8 : decode cX4_refuseOrder 8 = .ok (.getfield 29, 3) := by decide +kernel
theorem dX4_refuseOrder_11 : decode cX4_refuseOrder 11 = .ok (.iconst 0, 1) := by decide +kernel
theorem dX4_refuseOrder_12 : decode cX4_refuseOrder 12 = .ok (.putfield 252, 3) := by decide +kernel
theorem dX4_refuseOrder_15 : decode cX4_refuseOrder 15 = .ok (.aload_n 0, 1) := by decide +kernel
theorem dX4_refuseOrder_16 : decode cX4_refuseOrder 16 = .ok (.getfield 29, 3) := by decide +kernel
theorem dX4_refuseOrder_19 : decode cX4_refuseOrder 19 = .ok (.bipush 16, 2) := by decide +kernel
theorem dX4_refuseOrder_21 : decode cX4_refuseOrder 21 = .ok (.iload_n 1, 1) := by decide +kernel
theorem dX4_refuseOrder_22 : decode cX4_refuseOrder 22 = .ok (.invokevirtual 359, 3) := by decide +kernel
theorem dX4_refuseOrder_25 : decode cX4_refuseOrder 25 = .ok (.sipush (-1014), 3) := by decide +kernel
theorem dX4_refuseOrder_28 : decode cX4_refuseOrder 28 = .ok (.ireturn, 1) := by decide +kernel
theorem dX4_tellSigns_0 : decode cX4_tellSigns 0 = .ok (.aload_n 0, 1) := by decide +kernel
theorem dX4_tellSigns_1 : decode cX4_tellSigns 1 = .ok (.getfield 10, 3) := by decide +kernel
theorem dX4_tellSigns_4 : decode cX4_tellSigns 4 = .ok (.getfield 92, 3) := by decide +kernel
theorem dX4_tellSigns_7 : decode cX4_tellSigns 7 = .ok (.iload_n 1, 1) := by decide +kernel
theorem dX4_tellSigns_8 : decode cX4_tellSigns 8 = .ok (.iaload, 1) := by decide +kernel
theorem dX4_tellSigns_9 : decode cX4_tellSigns 9 = .ok (.ifCond .ne 13, 3) := by decide +kernel
theorem dX4_tellSigns_12 : decode cX4_tellSigns 12 = .ok (.aload_n 0, 1) := by decide +kernel
theorem dX4_tellSigns_13 : decode cX4_tellSigns 13 = .ok (.getfield 43, 3) := by decide +kernel
theorem dX4_tellSigns_16 : decode cX4_tellSigns 16 = .ok (.bipush 95, 2) := by decide +kernel
theorem dX4_tellSigns_18 : decode cX4_tellSigns 18 = .ok (.invokevirtual 240, 3) := by decide +kernel
theorem dX4_tellSigns_21 : decode cX4_tellSigns 21 = .ok (.pop, 1) := by decide +kernel
theorem dX4_tellSigns_22 : decode cX4_tellSigns 22 = .ok (.aload_n 0, 1) := by decide +kernel
theorem dX4_tellSigns_23 : decode cX4_tellSigns 23 = .ok (.getfield 10, 3) := by decide +kernel
theorem dX4_tellSigns_26 : decode cX4_tellSigns 26 = .ok (.getfield 341, 3) := by decide +kernel
theorem dX4_tellSigns_29 : decode cX4_tellSigns 29 = .ok (.iload_n 1, 1) := by decide +kernel
theorem dX4_tellSigns_30 : decode cX4_tellSigns 30 = .ok (.iaload, 1) := by decide +kernel
theorem dX4_tellSigns_31 : decode cX4_tellSigns 31 = .ok (.iconst 1, 1) := by decide +kernel
theorem dX4_tellSigns_32 : decode cX4_tellSigns 32 = .ok (.if_icmp .ne 13, 3) := by decide +kernel
theorem dX4_tellSigns_35 : decode cX4_tellSigns 35 = .ok (.aload_n 0, 1) := by decide +kernel
theorem dX4_tellSigns_36 : decode cX4_tellSigns 36 = .ok (.getfield 43, 3) := by decide +kernel
theorem dX4_tellSigns_39 : decode cX4_tellSigns 39 = .ok (.bipush 35, 2) := by decide +kernel
theorem dX4_tellSigns_41 : decode cX4_tellSigns 41 = .ok (.invokevirtual 240, 3) := by decide +kernel
theorem dX4_tellSigns_44 : decode cX4_tellSigns 44 = .ok (.pop, 1) := by decide +kernel
theorem dX4_tellSigns_45 : decode cX4_tellSigns 45 = .ok (.aload_n 0, 1) := by decide +kernel
theorem dX4_tellSigns_46 : decode cX4_tellSigns 46 = .ok (.getfield 10, 3) := by decide +kernel
theorem dX4_tellSigns_49 : decode cX4_tellSigns 49 = .ok (.getfield 95, 3) := by decide +kernel
theorem dX4_tellSigns_52 : decode cX4_tellSigns 52 = .ok (.iload_n 1, 1) := by decide +kernel
theorem dX4_tellSigns_53 : decode cX4_tellSigns 53 = .ok (.iaload, 1) := by decide +kernel
theorem dX4_tellSigns_54 : decode cX4_tellSigns 54 = .ok (.iconst (-1), 1) := by decide +kernel
theorem dX4_tellSigns_55 : decode cX4_tellSigns 55 = .ok (.if_icmp .eq 25, 3) := by decide +kernel
theorem dX4_tellSigns_58 : decode cX4_tellSigns 58 = .ok (.aload_n 0, 1) := by decide +kernel
theorem dX4_tellSigns_59 : decode cX4_tellSigns 59 = .ok (.getfield 43, 3) := by decide +kernel
theorem dX4_tellSigns_62 : decode cX4_tellSigns 62 = .ok (.bipush 64, 2) := by decide +kernel
theorem dX4_tellSigns_64 : decode cX4_tellSigns 64 = .ok (.invokevirtual 240, 3) := by decide +kernel
theorem dX4_tellSigns_67 : decode cX4_tellSigns 67 = .ok (.aload_n 0, 1) := by decide +kernel
theorem dX4_tellSigns_68 : decode cX4_tellSigns 68 = .ok (.getfield 10, 3) := by decide +kernel
theorem dX4_tellSigns_71 : decode cX4_tellSigns 71 = .ok (.getfield 95, 3) := by decide +kernel
theorem dX4_tellSigns_74 : decode cX4_tellSigns 74 = .ok (.iload_n 1, 1) := by decide +kernel
theorem dX4_tellSigns_75 : decode cX4_tellSigns 75 = .ok (.iaload, 1) := by decide +kernel
theorem dX4_tellSigns_76 : decode cX4_tellSigns 76 = .ok (.invokevirtual 236, 3) := by decide +kernel
theorem dX4_tellSigns_79 : decode cX4_tellSigns 79 = .ok (.pop, 1) := by decide +kernel
theorem dX4_tellSigns_80 : decode cX4_tellSigns 80 = .ok (.aload_n 0, 1) := by decide +kernel
theorem dX4_tellSigns_81 : decode cX4_tellSigns 81 = .ok (.getfield 10, 3) := by decide +kernel
theorem dX4_tellSigns_84 : decode cX4_tellSigns 84 = .ok (.iload_n 1, 1) := by decide +kernel
theorem dX4_tellSigns_85 : decode cX4_tellSigns 85 = .ok (.invokevirtual 101, 3) := by decide +kernel
theorem dX4_tellSigns_88 : decode cX4_tellSigns 88 = .ok (.ifCond .eq 13, 3) := by decide +kernel
theorem dX4_tellSigns_91 : decode cX4_tellSigns 91 = .ok (.aload_n 0, 1) := by decide +kernel
theorem dX4_tellSigns_92 : decode cX4_tellSigns 92 = .ok (.getfield 43, 3) := by decide +kernel
theorem dX4_tellSigns_95 : decode cX4_tellSigns 95 = .ok (.bipush 33, 2) := by decide +kernel
theorem dX4_tellSigns_97 : decode cX4_tellSigns 97 = .ok (.invokevirtual 240, 3) := by decide +kernel
theorem dX4_tellSigns_100 : decode cX4_tellSigns 100 = .ok (.pop, 1) := by decide +kernel
theorem dX4_tellSigns_101 : decode cX4_tellSigns 101 = .ok (.aload_n 0, 1) := by decide +kernel
theorem dX4_tellSigns_102 : decode cX4_tellSigns 102 = .ok (.getfield 10, 3) := by decide +kernel
theorem dX4_tellSigns_105 : decode cX4_tellSigns 105 = .ok (.getfield 104, 3) := by decide +kernel
theorem dX4_tellSigns_108 : decode cX4_tellSigns 108 = .ok (.iload_n 1, 1) := by decide +kernel
theorem dX4_tellSigns_109 : decode cX4_tellSigns 109 = .ok (.iaload, 1) := by decide +kernel
theorem dX4_tellSigns_110 : decode cX4_tellSigns 110 = .ok (.ifCond .le 25, 3) := by decide +kernel
theorem dX4_tellSigns_113 : decode cX4_tellSigns 113 = .ok (.aload_n 0, 1) := by decide +kernel
theorem dX4_tellSigns_114 : decode cX4_tellSigns 114 = .ok (.getfield 43, 3) := by decide +kernel
theorem dX4_tellSigns_117 : decode cX4_tellSigns 117 = .ok (.bipush 120, 2) := by decide +kernel
theorem dX4_tellSigns_119 : decode cX4_tellSigns 119 = .ok (.invokevirtual 240, 3) := by decide +kernel
theorem dX4_tellSigns_122 : decode cX4_tellSigns 122 = .ok (.aload_n 0, 1) := by decide +kernel
theorem dX4_tellSigns_123 : decode cX4_tellSigns 123 = .ok (.getfield 10, 3) := by decide +kernel
theorem dX4_tellSigns_126 : decode cX4_tellSigns 126 = .ok (.getfield 104, 3) := by decide +kernel
theorem dX4_tellSigns_129 : decode cX4_tellSigns 129 = .ok (.iload_n 1, 1) := by decide +kernel
theorem dX4_tellSigns_130 : decode cX4_tellSigns 130 = .ok (.iaload, 1) := by decide +kernel
theorem dX4_tellSigns_131 : decode cX4_tellSigns 131 = .ok (.invokevirtual 236, 3) := by decide +kernel
theorem dX4_tellSigns_134 : decode cX4_tellSigns 134 = .ok (.pop, 1) := by decide +kernel
theorem dX4_tellSigns_135 : decode cX4_tellSigns 135 = .ok (.return_, 1) := by decide +kernel
end
section
theorem dX0_init_0 : decode cX0_init 0 = .ok (.aload_n 0, 1) := by decide +kernel
theorem dX0_init_1 : decode cX0_init 1 = .ok (.invokespecial 3, 3) := by decide +kernel
theorem dX0_init_4 : decode cX0_init 4 = .ok (.aload_n 0, 1) := by decide +kernel
theorem dX0_init_5 : decode cX0_init 5 = .ok (.bipush 9, 2) := by decide +kernel
theorem dX0_init_7 : decode cX0_init 7 = .ok (.anewarray 9, 3) := by decide +kernel
theorem dX0_init_10 : decode cX0_init 10 = .ok (.putfield 11, 3) := by decide +kernel
theorem dX0_init_13 : decode cX0_init 13 = .ok (.iconst 0, 1) := by decide +kernel
theorem dX0_init_14 : decode cX0_init 14 = .ok (.istore_n 1, 1) := by decide +kernel
theorem dX0_init_15 : decode cX0_init 15 = .ok (.iload_n 1, 1) := by decide +kernel
theorem dX0_init_16 : decode cX0_init 16 = .ok (.aload_n 0, 1) := by decide +kernel
theorem dX0_init_17 : decode cX0_init 17 = .ok (.getfield 11, 3) := by decide +kernel
theorem dX0_init_20 : decode cX0_init 20 = .ok (.arraylength, 1) := by decide +kernel
theorem dX0_init_21 : decode cX0_init 21 = .ok (.if_icmp .ge 22, 3) := by decide +kernel
theorem dX0_init_24 : decode cX0_init 24 = .ok (.aload_n 0, 1) := by decide +kernel
theorem dX0_init_25 : decode cX0_init 25 = .ok (.getfield 11, 3) := by decide +kernel
theorem dX0_init_28 : decode cX0_init 28 = .ok (.iload_n 1, 1) := by decide +kernel
theorem dX0_init_29 : decode cX0_init 29 = .ok (.new 9, 3) := by decide +kernel
theorem dX0_init_32 : decode cX0_init 32 = .ok (.dup, 1) := by decide +kernel
theorem dX0_init_33 : decode cX0_init 33 = .ok (.invokespecial 17, 3) := by decide +kernel
theorem dX0_init_36 : decode cX0_init 36 = .ok (.aastore, 1) := by decide +kernel
theorem dX0_init_37 : decode cX0_init 37 = .ok (.iinc 1 1, 3) := by decide +kernel
theorem dX0_init_40 : decode cX0_init 40 = .ok (.goto (-25), 3) := by decide +kernel
theorem dX0_init_43 : decode cX0_init 43 = .ok (.return_, 1) := by decide +kernel
theorem dX0_begin_0 : decode cX0_begin 0 = .ok (.aload_n 0, 1) := by decide +kernel
theorem dX0_begin_1 : decode cX0_begin 1 = .ok (.getfield 11, 3) := by decide +kernel
theorem dX0_begin_4 : decode cX0_begin 4 = .ok (.aload_n 0, 1) := by decide +kernel
theorem dX0_begin_5 : decode cX0_begin 5 = .ok (.getfield 18, 3) := by decide +kernel
theorem dX0_begin_8 : decode cX0_begin 8 = .ok (.aaload, 1) := by decide +kernel
theorem dX0_begin_9 : decode cX0_begin 9 = .ok (.aload_n 1, 1) := by decide +kernel
theorem dX0_begin_10 : decode cX0_begin 10 = .ok (.invokevirtual 22, 3) := by decide +kernel
theorem dX0_begin_13 : decode cX0_begin 13 = .ok (.return_, 1) := by decide +kernel
theorem dX0_keepBegun_0 : decode cX0_keepBegun 0 = .ok (.aload_n 0, 1) := by decide +kernel
theorem dX0_keepBegun_1 : decode cX0_keepBegun 1 = .ok (.aload_n 0, 1) := by decide +kernel
theorem dX0_keepBegun_2 : decode cX0_keepBegun 2 = .ok (.getfield 18, 3) := by decide +kernel
theorem dX0_keepBegun_5 : decode cX0_keepBegun 5 = .ok (.iconst 1, 1) := by decide +kernel
theorem dX0_keepBegun_6 : decode cX0_keepBegun 6 = .ok (.iadd, 1) := by decide +kernel
theorem dX0_keepBegun_7 : decode cX0_keepBegun 7 = .ok (.bipush 9, 2) := by decide +kernel
theorem dX0_keepBegun_9 : decode cX0_keepBegun 9 = .ok (.irem, 1) := by decide +kernel
theorem dX0_keepBegun_10 : decode cX0_keepBegun 10 = .ok (.putfield 18, 3) := by decide +kernel
theorem dX0_keepBegun_13 : decode cX0_keepBegun 13 = .ok (.aload_n 0, 1) := by decide +kernel
theorem dX0_keepBegun_14 : decode cX0_keepBegun 14 = .ok (.bipush 8, 2) := by decide +kernel
theorem dX0_keepBegun_16 : decode cX0_keepBegun 16 = .ok (.aload_n 0, 1) := by decide +kernel
theorem dX0_keepBegun_17 : decode cX0_keepBegun 17 = .ok (.getfield 26, 3) := by decide +kernel
theorem dX0_keepBegun_20 : decode cX0_keepBegun 20 = .ok (.iconst 1, 1) := by decide +kernel
theorem dX0_keepBegun_21 : decode cX0_keepBegun 21 = .ok (.iadd, 1) := by decide +kernel
theorem dX0_keepBegun_22 : decode cX0_keepBegun 22 = .ok (.invokestatic 29, 3) := by decide +kernel
theorem dX0_keepBegun_25 : decode cX0_keepBegun 25 = .ok (.putfield 26, 3) := by decide +kernel
theorem dX0_keepBegun_28 : decode cX0_keepBegun 28 = .ok (.return_, 1) := by decide +kernel
theorem dX0_takeBackBegun_0 : decode cX0_takeBackBegun 0 = .ok (.aload_n 1, 1) := by decide +kernel
theorem dX0_takeBackBegun_1 : decode cX0_takeBackBegun 1 = .ok (.aload_n 0, 1) := by decide +kernel
theorem dX0_takeBackBegun_2 : decode cX0_takeBackBegun 2 = .ok (.getfield 11, 3) := by decide +kernel
theorem dX0_takeBackBegun_5 : decode cX0_takeBackBegun 5 = .ok (.aload_n 0, 1) := by decide +kernel
theorem dX0_takeBackBegun_6 : decode cX0_takeBackBegun 6 = .ok (.getfield 18, 3) := by decide +kernel
theorem dX0_takeBackBegun_9 : decode cX0_takeBackBegun 9 = .ok (.aaload, 1) := by decide +kernel
theorem dX0_takeBackBegun_10 : decode cX0_takeBackBegun 10 = .ok (.invokevirtual 22, 3) := by decide +kernel
theorem dX0_takeBackBegun_13 : decode cX0_takeBackBegun 13 = .ok (.return_, 1) := by decide +kernel
theorem dX0_takeBackLatest_0 : decode cX0_takeBackLatest 0 = .ok (.aload_n 0, 1) := by decide +kernel
theorem dX0_takeBackLatest_1 : decode cX0_takeBackLatest 1 = .ok (.aload_n 0, 1) := by decide +kernel
theorem dX0_takeBackLatest_2 : decode cX0_takeBackLatest 2 = .ok (.getfield 18, 3) := by decide +kernel
theorem dX0_takeBackLatest_5 : decode cX0_takeBackLatest 5 = .ok (.bipush 8, 2) := by decide +kernel
theorem dX0_takeBackLatest_7 : decode cX0_takeBackLatest 7 = .ok (.iadd, 1) := by decide +kernel
theorem dX0_takeBackLatest_8 : decode cX0_takeBackLatest 8 = .ok (.bipush 9, 2) := by decide +kernel
theorem dX0_takeBackLatest_10 : decode cX0_takeBackLatest 10 = .ok (.irem, 1) := by decide +kernel
theorem dX0_takeBackLatest_11 : decode cX0_takeBackLatest 11 = .ok (.putfield 18, 3) := by decide +kernel
theorem dX0_takeBackLatest_14 : decode cX0_takeBackLatest 14 = .ok (.aload_n 0, 1) := by decide +kernel
theorem dX0_takeBackLatest_15 : decode cX0_takeBackLatest 15 = .ok (.iconst 0, 1) := by decide +kernel
theorem dX0_takeBackLatest_16 : decode cX0_takeBackLatest 16 = .ok (.aload_n 0, 1) := by decide +kernel
theorem dX0_takeBackLatest_17 : decode cX0_takeBackLatest 17 = .ok (.getfield 26, 3) := by decide +kernel
theorem dX0_takeBackLatest_20 : decode cX0_takeBackLatest 20 = .ok (.iconst 1, 1) := by decide +kernel
theorem dX0_takeBackLatest_21 : decode cX0_takeBackLatest 21 = .ok (.isub, 1) := by decide +kernel
theorem dX0_takeBackLatest_22 : decode cX0_takeBackLatest 22 = .ok (.invokestatic 35, 3) := by decide +kernel
theorem dX0_takeBackLatest_25 : decode cX0_takeBackLatest 25 = .ok (.putfield 26, 3) := by decide +kernel
theorem dX0_takeBackLatest_28 : decode cX0_takeBackLatest 28 = .ok (.aload_n 1, 1) := by decide +kernel
theorem dX0_takeBackLatest_29 : decode cX0_takeBackLatest 29 = .ok (.aload_n 0, 1) := by decide +kernel
theorem dX0_takeBackLatest_30 : decode cX0_takeBackLatest 30 = .ok (.getfield 11, 3) := by decide +kernel
theorem dX0_takeBackLatest_33 : decode cX0_takeBackLatest 33 = .ok (.aload_n 0, 1) := by decide +kernel
theorem dX0_takeBackLatest_34 : decode cX0_takeBackLatest 34 = .ok (.getfield 18, 3) := by decide +kernel
theorem dX0_takeBackLatest_37 : decode cX0_takeBackLatest 37 = .ok (.aaload, 1) := by decide +kernel
theorem dX0_takeBackLatest_38 : decode cX0_takeBackLatest 38 = .ok (.invokevirtual 22, 3) := by decide +kernel
theorem dX0_takeBackLatest_41 : decode cX0_takeBackLatest 41 = .ok (.return_, 1) := by decide +kernel
theorem dX1_init_0 : decode cX1_init 0 = .ok (.aload_n 0, 1) := by decide +kernel
theorem dX1_init_1 : decode cX1_init 1 = .ok (.invokespecial 3, 3) := by decide +kernel
theorem dX1_init_4 : decode cX1_init 4 = .ok (.aload_n 0, 1) := by decide +kernel
theorem dX1_init_5 : decode cX1_init 5 = .ok (.bipush 60, 2) := by decide +kernel
theorem dX1_init_7 : decode cX1_init 7 = .ok (.newarray .char, 2) := by decide +kernel
theorem dX1_init_9 : decode cX1_init 9 = .ok (.putfield 9, 3) := by decide +kernel
theorem dX1_init_12 : decode cX1_init 12 = .ok (.aload_n 0, 1) := by decide +kernel
theorem dX1_init_13 : decode cX1_init 13 = .ok (.bipush 11, 2) := by decide +kernel
theorem dX1_init_15 : decode cX1_init 15 = .ok (.newarray .int, 2) := by decide +kernel
theorem dX1_init_17 : decode cX1_init 17 = .ok (.putfield 15, 3) := by decide +kernel
theorem dX1_init_20 : decode cX1_init 20 = .ok (.aload_n 0, 1) := by decide +kernel
theorem dX1_init_21 : decode cX1_init 21 = .ok (.bipush 33, 2) := by decide +kernel
theorem dX1_init_23 : decode cX1_init 23 = .ok (.newarray .int, 2) := by decide +kernel
theorem dX1_init_25 : decode cX1_init 25 = .ok (.putfield 19, 3) := by decide +kernel
theorem dX1_init_28 : decode cX1_init 28 = .ok (.return_, 1) := by decide +kernel
theorem dX1_add_0 : decode cX1_add 0 = .ok (.aload_n 0, 1) := by decide +kernel
theorem dX1_add_1 : decode cX1_add 1 = .ok (.getfield 22, 3) := by decide +kernel
theorem dX1_add_4 : decode cX1_add 4 = .ok (.aload_n 0, 1) := by decide +kernel
theorem dX1_add_5 : decode cX1_add 5 = .ok (.getfield 9, 3) := by decide +kernel
theorem dX1_add_8 : decode cX1_add 8 = .ok (.arraylength, 1) := by decide +kernel
theorem dX1_add_9 : decode cX1_add 9 = .ok (.if_icmp .lt 5, 3) := by decide +kernel
theorem dX1_add_12 : decode cX1_add 12 = .ok (.iconst 0, 1) := by decide +kernel
theorem dX1_add_13 : decode cX1_add 13 = .ok (.ireturn, 1) := by decide +kernel
theorem dX1_add_14 : decode cX1_add 14 = .ok (.aload_n 0, 1) := by decide +kernel
theorem dX1_add_15 : decode cX1_add 15 = .ok (.getfield 9, 3) := by decide +kernel
theorem dX1_add_18 : decode cX1_add 18 = .ok (.aload_n 0, 1) := by decide +kernel
theorem dX1_add_19 : decode cX1_add 19 = .ok (.getfield 22, 3) := by decide +kernel
theorem dX1_add_22 : decode cX1_add 22 = .ok (.iload_n 1, 1) := by decide +kernel
theorem dX1_add_23 : decode cX1_add 23 = .ok (.castore, 1) := by decide +kernel
theorem dX1_add_24 : decode cX1_add 24 = .ok (.aload_n 0, 1) := by decide +kernel
theorem dX1_add_25 : decode cX1_add 25 = .ok (.dup, 1) := by decide +kernel
theorem dX1_add_26 : decode cX1_add 26 = .ok (.getfield 22, 3) := by decide +kernel
theorem dX1_add_29 : decode cX1_add 29 = .ok (.iconst 1, 1) := by decide +kernel
theorem dX1_add_30 : decode cX1_add 30 = .ok (.iadd, 1) := by decide +kernel
theorem dX1_add_31 : decode cX1_add 31 = .ok (.putfield 22, 3) := by decide +kernel
theorem dX1_add_34 : decode cX1_add 34 = .ok (.iconst 1, 1) := by decide +kernel
theorem dX1_add_35 : decode cX1_add 35 = .ok (.ireturn, 1) := by decide +kernel
theorem dX1_empty_0 : decode cX1_empty 0 = .ok (.aload_n 0, 1) := by decide +kernel
theorem dX1_empty_1 : decode cX1_empty 1 = .ok (.iconst 0, 1) := by decide +kernel
theorem dX1_empty_2 : decode cX1_empty 2 = .ok (.putfield 22, 3) := by decide +kernel
theorem dX1_empty_5 : decode cX1_empty 5 = .ok (.return_, 1) := by decide +kernel
theorem dX1_kindOf_0 : decode cX1_kindOf 0 = .ok (.iload_n 1, 1) := by decide +kernel
theorem dX1_kindOf_1 : decode cX1_kindOf 1 = .ok (.ifCond .lt 20, 3) := by decide +kernel
theorem dX1_kindOf_4 : decode cX1_kindOf 4 = .ok (.iload_n 1, 1) := by decide +kernel
theorem dX1_kindOf_5 : decode cX1_kindOf 5 = .ok (.aload_n 0, 1) := by decide +kernel
theorem dX1_kindOf_6 : decode cX1_kindOf 6 = .ok (.getfield 26, 3) := by decide +kernel
theorem dX1_kindOf_9 : decode cX1_kindOf 9 = .ok (.if_icmp .ge 12, 3) := by decide +kernel
theorem dX1_kindOf_12 : decode cX1_kindOf 12 = .ok (.aload_n 0, 1) := by decide +kernel
theorem dX1_kindOf_13 : decode cX1_kindOf 13 = .ok (.getfield 15, 3) := by decide +kernel
theorem dX1_kindOf_16 : decode cX1_kindOf 16 = .ok (.iload_n 1, 1) := by decide +kernel
theorem dX1_kindOf_17 : decode cX1_kindOf 17 = .ok (.iaload, 1) := by decide +kernel
theorem dX1_kindOf_18 : decode cX1_kindOf 18 = .ok (.goto 4, 3) := by decide +kernel
theorem dX1_kindOf_21 : decode cX1_kindOf 21 = .ok (.iconst (-1), 1) := by decide +kernel
theorem dX1_kindOf_22 : decode cX1_kindOf 22 = .ok (.ireturn, 1) := by decide +kernel
theorem dX1_numberOf_0 : decode cX1_numberOf 0 = .ok (.iload_n 1, 1) := by decide +kernel
theorem dX1_numberOf_1 : decode cX1_numberOf 1 = .ok (.ifCond .lt 24, 3) := by decide +kernel
theorem dX1_numberOf_4 : decode cX1_numberOf 4 = .ok (.iload_n 1, 1) := by decide +kernel
theorem dX1_numberOf_5 : decode cX1_numberOf 5 = .ok (.aload_n 0, 1) := by decide +kernel
theorem dX1_numberOf_6 : decode cX1_numberOf 6 = .ok (.getfield 26, 3) := by decide +kernel
theorem dX1_numberOf_9 : decode cX1_numberOf 9 = .ok (.if_icmp .ge 16, 3) := by decide +kernel
theorem dX1_numberOf_12 : decode cX1_numberOf 12 = .ok (.iload_n 2, 1) := by decide +kernel
theorem dX1_numberOf_13 : decode cX1_numberOf 13 = .ok (.ifCond .lt 12, 3) := by decide +kernel
theorem dX1_numberOf_16 : decode cX1_numberOf 16 = .ok (.iload_n 2, 1) := by decide +kernel
theorem dX1_numberOf_17 : decode cX1_numberOf 17 = .ok (.iconst 3, 1) := by decide +kernel
theorem dX1_numberOf_18 : decode cX1_numberOf 18 = .ok (.if_icmp .ge 7, 3) := by decide +kernel
theorem dX1_numberOf_21 : decode cX1_numberOf 21 = .ok (.iconst 1, 1) := by decide +kernel
theorem dX1_numberOf_22 : decode cX1_numberOf 22 = .ok (.goto 4, 3) := by decide +kernel
theorem dX1_numberOf_25 : decode cX1_numberOf 25 = .ok (.iconst 0, 1) := by decide +kernel
theorem dX1_numberOf_26 : decode cX1_numberOf 26 = .ok (.istore_n 3, 1) := by decide +kernel
theorem dX1_numberOf_27 : decode cX1_numberOf 27 = .ok (.iload_n 3, 1) := by decide +kernel
theorem dX1_numberOf_28 : decode cX1_numberOf 28 = .ok (.ifCond .eq 16, 3) := by decide +kernel
theorem dX1_numberOf_31 : decode cX1_numberOf 31 = .ok (.aload_n 0, 1) := by decide +kernel
theorem dX1_numberOf_32 : decode cX1_numberOf 32 = .ok (.getfield 19, 3) := by decide +kernel
theorem dX1_numberOf_35 : decode cX1_numberOf 35 = .ok (.iload_n 1, 1) := by decide +kernel
theorem dX1_numberOf_36 : decode cX1_numberOf 36 = .ok (.iconst 3, 1) := by decide +kernel
theorem dX1_numberOf_37 : decode cX1_numberOf 37 = .ok (.imul, 1) := by decide +kernel
theorem dX1_numberOf_38 : decode cX1_numberOf 38 = .ok (.iload_n 2, 1) := by decide +kernel
theorem dX1_numberOf_39 : decode cX1_numberOf 39 = .ok (.iadd, 1) := by decide +kernel
theorem dX1_numberOf_40 : decode cX1_numberOf 40 = .ok (.iaload, 1) := by decide +kernel
theorem dX1_numberOf_41 : decode cX1_numberOf 41 = .ok (.goto 4, 3) := by decide +kernel
theorem dX1_numberOf_44 : decode cX1_numberOf 44 = .ok (.iconst (-1), 1) := by decide +kernel
theorem dX1_numberOf_45 : decode cX1_numberOf 45 = .ok (.ireturn, 1) := by decide +kernel
theorem dX1_read_0 : decode cX1_read 0 = .ok (.aload_n 0, 1) := by decide +kernel
theorem dX1_read_1 : decode cX1_read 1 = .ok (.iconst 0, 1) := by decide +kernel
theorem dX1_read_2 : decode cX1_read 2 = .ok (.putfield 26, 3) := by decide +kernel
theorem dX1_read_5 : decode cX1_read 5 = .ok (.aload_n 0, 1) := by decide +kernel
theorem dX1_read_6 : decode cX1_read 6 = .ok (.iconst 0, 1) := by decide +kernel
theorem dX1_read_7 : decode cX1_read 7 = .ok (.putfield 29, 3) := by decide +kernel
theorem dX1_read_10 : decode cX1_read 10 = .ok (.iconst 0, 1) := by decide +kernel
theorem dX1_read_11 : decode cX1_read 11 = .ok (.istore_n 1, 1) := by decide +kernel
theorem dX1_read_12 : decode cX1_read 12 = .ok (.iload_n 1, 1) := by decide +kernel
theorem dX1_read_13 : decode cX1_read 13 = .ok (.bipush 11, 2) := by decide +kernel
theorem dX1_read_15 : decode cX1_read 15 = .ok (.if_icmp .ge 69, 3) := by decide +kernel
theorem dX1_read_18 : decode cX1_read 18 = .ok (.aload_n 0, 1) := by decide +kernel
theorem dX1_read_19 : decode cX1_read 19 = .ok (.iload_n 1, 1) := by decide +kernel
theorem dX1_read_20 : decode cX1_read 20 = .ok (.invokevirtual 32, 3) := by decide +kernel
theorem dX1_read_23 : decode cX1_read 23 = .ok (.ifCond .ne 8, 3) := by decide +kernel
theorem dX1_read_26 : decode cX1_read 26 = .ok (.aload_n 0, 1) := by decide +kernel
theorem dX1_read_27 : decode cX1_read 27 = .ok (.getfield 29, 3) := by decide +kernel
theorem dX1_read_30 : decode cX1_read 30 = .ok (.ireturn, 1) := by decide +kernel
theorem dX1_read_31 : decode cX1_read 31 = .ok (.aload_n 0, 1) := by decide +kernel
theorem dX1_read_32 : decode cX1_read 32 = .ok (.dup, 1) := by decide +kernel
theorem dX1_read_33 : decode cX1_read 33 = .ok (.getfield 26, 3) := by decide +kernel
theorem dX1_read_36 : decode cX1_read 36 = .ok (.iconst 1, 1) := by decide +kernel
theorem dX1_read_37 : decode cX1_read 37 = .ok (.iadd, 1) := by decide +kernel
theorem dX1_read_38 : decode cX1_read 38 = .ok (.putfield 26, 3) := by decide +kernel
theorem dX1_read_41 : decode cX1_read 41 = .ok (.aload_n 0, 1) := by decide +kernel
theorem dX1_read_42 : decode cX1_read 42 = .ok (.getfield 29, 3) := by decide +kernel
theorem dX1_read_45 : decode cX1_read 45 = .ok (.aload_n 0, 1) := by decide +kernel
theorem dX1_read_46 : decode cX1_read 46 = .ok (.getfield 22, 3) := by decide +kernel
theorem dX1_read_49 : decode cX1_read 49 = .ok (.if_icmp .ne 5, 3) := by decide +kernel
theorem dX1_read_52 : decode cX1_read 52 = .ok (.iconst (-1), 1) := by decide +kernel
theorem dX1_read_53 : decode cX1_read 53 = .ok (.ireturn, 1) := by decide +kernel
theorem dX1_read_54 : decode cX1_read 54 = .ok (.aload_n 0, 1) := by decide +kernel
theorem dX1_read_55 : decode cX1_read 55 = .ok (.bipush 59, 2) := by decide +kernel
theorem dX1_read_57 : decode cX1_read 57 = .ok (.invokevirtual 36, 3) := by decide +kernel
theorem dX1_read_60 : decode cX1_read 60 = .ok (.ifCond .ne 8, 3) := by decide +kernel
theorem dX1_read_63 : decode cX1_read 63 = .ok (.aload_n 0, 1) := by decide +kernel
theorem dX1_read_64 : decode cX1_read 64 = .ok (.getfield 29, 3) := by decide +kernel
theorem dX1_read_67 : decode cX1_read 67 = .ok (.ireturn, 1) := by decide +kernel
theorem dX1_read_68 : decode cX1_read 68 = .ok (.aload_n 0, 1) := by decide +kernel
theorem dX1_read_69 : decode cX1_read 69 = .ok (.dup, 1) := by decide +kernel
theorem dX1_read_70 : decode cX1_read 70 = .ok (.getfield 29, 3) := by decide +kernel
theorem dX1_read_73 : decode cX1_read 73 = .ok (.iconst 1, 1) := by decide +kernel
theorem dX1_read_74 : decode cX1_read 74 = .ok (.iadd, 1) := by decide +kernel
theorem dX1_read_75 : decode cX1_read 75 = .ok (.putfield 29, 3) := by decide +kernel
theorem dX1_read_78 : decode cX1_read 78 = .ok (.iinc 1 1, 3) := by decide +kernel
theorem dX1_read_81 : decode cX1_read 81 = .ok (.goto (-69), 3) := by decide +kernel
theorem dX1_read_84 : decode cX1_read 84 = .ok (.aload_n 0, 1) := by decide +kernel
theorem dX1_read_85 : decode cX1_read 85 = .ok (.getfield 29, 3) := by decide +kernel
theorem dX1_read_88 : decode cX1_read 88 = .ok (.ireturn, 1) := by decide +kernel
theorem dX1_readOrder_0 : decode cX1_readOrder 0 = .ok (.aload_n 0, 1) := by decide +kernel
theorem dX1_readOrder_1 : decode cX1_readOrder 1 = .ok (.getfield 29, 3) := by decide +kernel
theorem dX1_readOrder_4 : decode cX1_readOrder 4 = .ok (.istore_n 2, 1) := by decide +kernel
theorem dX1_readOrder_5 : decode cX1_readOrder 5 = .ok (.iload_n 2, 1) := by decide +kernel
theorem dX1_readOrder_6 : decode cX1_readOrder 6 = .ok (.istore_n 3, 1) := by decide +kernel
theorem dX1_readOrder_7 : decode cX1_readOrder 7 = .ok (.iconst 0, 1) := by decide +kernel
theorem dX1_readOrder_8 : decode cX1_readOrder 8 = .ok (.istore 4, 2) := by decide +kernel
theorem dX1_readOrder_10 : decode cX1_readOrder 10 = .ok (.iload 4, 2) := by decide +kernel
theorem dX1_readOrder_12 : decode cX1_readOrder 12 = .ok (.bipush 9, 2) := by decide +kernel
theorem dX1_readOrder_14 : decode cX1_readOrder 14 = .ok (.if_icmp .ge 48, 3) := by decide +kernel
theorem dX1_readOrder_17 : decode cX1_readOrder 17 = .ok (.aload_n 0, 1) := by decide +kernel
theorem dX1_readOrder_18 : decode cX1_readOrder 18 = .ok (.iload_n 2, 1) := by decide +kernel
theorem dX1_readOrder_19 : decode cX1_readOrder 19 = .ok (.putfield 29, 3) := by decide +kernel
theorem dX1_readOrder_22 : decode cX1_readOrder 22 = .ok (.aload_n 0, 1) := by decide +kernel
theorem dX1_readOrder_23 : decode cX1_readOrder 23 = .ok (.iload 4, 2) := by decide +kernel
theorem dX1_readOrder_25 : decode cX1_readOrder 25 = .ok (.invokestatic 40, 3) := by decide +kernel
theorem dX1_readOrder_28 : decode cX1_readOrder 28 = .ok (.iload_n 1, 1) := by decide +kernel
theorem dX1_readOrder_29 : decode cX1_readOrder 29 = .ok (.iconst 3, 1) := by decide +kernel
theorem dX1_readOrder_30 : decode cX1_readOrder 30 = .ok (.imul, 1) := by decide +kernel
theorem dX1_readOrder_31 : decode cX1_readOrder 31 = .ok (.invokevirtual 44, 3) := by decide +kernel
theorem dX1_readOrder_34 : decode cX1_readOrder 34 = .ok (.ifCond .eq 13, 3) := by decide +kernel
theorem dX1_readOrder_37 : decode cX1_readOrder 37 = .ok (.aload_n 0, 1) := by decide +kernel
theorem dX1_readOrder_38 : decode cX1_readOrder 38 = .ok (.getfield 15, 3) := by decide +kernel
theorem dX1_readOrder_41 : decode cX1_readOrder 41 = .ok (.iload_n 1, 1) := by decide +kernel
theorem dX1_readOrder_42 : decode cX1_readOrder 42 = .ok (.iload 4, 2) := by decide +kernel
theorem dX1_readOrder_44 : decode cX1_readOrder 44 = .ok (.iastore, 1) := by decide +kernel
theorem dX1_readOrder_45 : decode cX1_readOrder 45 = .ok (.iconst 1, 1) := by decide +kernel
theorem dX1_readOrder_46 : decode cX1_readOrder 46 = .ok (.ireturn, 1) := by decide +kernel
theorem dX1_readOrder_47 : decode cX1_readOrder 47 = .ok (.iload_n 3, 1) := by decide +kernel
theorem dX1_readOrder_48 : decode cX1_readOrder 48 = .ok (.aload_n 0, 1) := by decide +kernel
theorem dX1_readOrder_49 : decode cX1_readOrder 49 = .ok (.getfield 29, 3) := by decide +kernel
theorem dX1_readOrder_52 : decode cX1_readOrder 52 = .ok (.invokestatic 48, 3) := by decide +kernel
theorem dX1_readOrder_55 : decode cX1_readOrder 55 = .ok (.istore_n 3, 1) := by decide +kernel
theorem dX1_readOrder_56 : decode cX1_readOrder 56 = .ok (.iinc 4 1, 3) := by decide +kernel
theorem dX1_readOrder_59 : decode cX1_readOrder 59 = .ok (.goto (-49), 3) := by decide +kernel
theorem dX1_readOrder_62 : decode cX1_readOrder 62 = .ok (.aload_n 0, 1) := by decide +kernel
theorem dX1_readOrder_63 : decode cX1_readOrder 63 = .ok (.iload_n 3, 1) := by decide +kernel
theorem dX1_readOrder_64 : decode cX1_readOrder 64 = .ok (.putfield 29, 3) := by decide +kernel
theorem dX1_readOrder_67 : decode cX1_readOrder 67 = .ok (.iconst 0, 1) := by decide +kernel
theorem dX1_readOrder_68 : decode cX1_readOrder 68 = .ok (.ireturn, 1) := by decide +kernel
theorem dX1_formOf_0 : decode cX1_formOf 0 = .ok (.iload_n 0, 1) := by decide +kernel
theorem dX1_formOf_1 : decode cX1_formOf 1 = .ok (.tableswitch 71 0 7 #[47, 50, 53, 56, 59, 62, 65, 68], 47) := by decide +kernel
theorem dX1_formOf_48 : decode cX1_formOf 48 = .ok (.ldc 54, 2) := by decide +kernel
theorem dX1_formOf_50 : decode cX1_formOf 50 = .ok (.areturn, 1) := by decide +kernel
theorem dX1_formOf_51 : decode cX1_formOf 51 = .ok (.ldc 56, 2) := by decide +kernel
theorem dX1_formOf_53 : decode cX1_formOf 53 = .ok (.areturn, 1) := by decide +kernel
theorem dX1_formOf_54 : decode cX1_formOf 54 = .ok (.ldc 58, 2) := by decide +kernel
theorem dX1_formOf_56 : decode cX1_formOf 56 = .ok (.areturn, 1) := by decide +kernel
theorem dX1_formOf_57 : decode cX1_formOf 57 = .ok (.ldc 60, 2) := by decide +kernel
theorem dX1_formOf_59 : decode cX1_formOf 59 = .ok (.areturn, 1) := by decide +kernel
theorem dX1_formOf_60 : decode cX1_formOf 60 = .ok (.ldc 62, 2) := by decide +kernel
theorem dX1_formOf_62 : decode cX1_formOf 62 = .ok (.areturn, 1) := by decide +kernel
theorem dX1_formOf_63 : decode cX1_formOf 63 = .ok (.ldc 64, 2) := by decide +kernel
theorem dX1_formOf_65 : decode cX1_formOf 65 = .ok (.areturn, 1) := by decide +kernel
theorem dX1_formOf_66 : decode cX1_formOf 66 = .ok (.ldc 66, 2) := by decide +kernel
theorem dX1_formOf_68 : decode cX1_formOf 68 = .ok (.areturn, 1) := by decide +kernel
theorem dX1_formOf_69 : decode cX1_formOf 69 = .ok (.ldc 68, 2) := by decide +kernel
theorem dX1_formOf_71 : decode cX1_formOf 71 = .ok (.areturn, 1) := by decide +kernel
theorem dX1_formOf_72 : decode cX1_formOf 72 = .ok (.ldc 70, 2) := by decide +kernel
theorem dX1_formOf_74 : decode cX1_formOf 74 = .ok (.areturn, 1) := by decide +kernel
theorem dX1_readForm_0 : decode cX1_readForm 0 = .ok (.iload_n 2, 1) := by decide +kernel
theorem dX1_readForm_1 : decode cX1_readForm 1 = .ok (.istore_n 3, 1) := by decide +kernel
theorem dX1_readForm_2 : decode cX1_readForm 2 = .ok (.iconst 0, 1) := by decide +kernel
theorem dX1_readForm_3 : decode cX1_readForm 3 = .ok (.istore 4, 2) := by decide +kernel
theorem dX1_readForm_5 : decode cX1_readForm 5 = .ok (.iload 4, 2) := by decide +kernel
theorem dX1_readForm_7 : decode cX1_readForm 7 = .ok (.aload_n 1, 1) := by decide +kernel
theorem dX1_readForm_8 : decode cX1_readForm 8 = .ok (.invokevirtual 72, 3) := by decide +kernel
theorem dX1_readForm_11 : decode cX1_readForm 11 = .ok (.if_icmp .ge 100, 3) := by decide +kernel
theorem dX1_readForm_14 : decode cX1_readForm 14 = .ok (.aload_n 1, 1) := by decide +kernel
theorem dX1_readForm_15 : decode cX1_readForm 15 = .ok (.iload 4, 2) := by decide +kernel
theorem dX1_readForm_17 : decode cX1_readForm 17 = .ok (.invokevirtual 77, 3) := by decide +kernel
theorem dX1_readForm_20 : decode cX1_readForm 20 = .ok (.istore 5, 2) := by decide +kernel
theorem dX1_readForm_22 : decode cX1_readForm 22 = .ok (.iload 5, 2) := by decide +kernel
theorem dX1_readForm_24 : decode cX1_readForm 24 = .ok (.bipush 35, 2) := by decide +kernel
theorem dX1_readForm_26 : decode cX1_readForm 26 = .ok (.if_icmp .eq 17, 3) := by decide +kernel
theorem dX1_readForm_29 : decode cX1_readForm 29 = .ok (.iload 5, 2) := by decide +kernel
theorem dX1_readForm_31 : decode cX1_readForm 31 = .ok (.bipush 37, 2) := by decide +kernel
theorem dX1_readForm_33 : decode cX1_readForm 33 = .ok (.if_icmp .eq 10, 3) := by decide +kernel
theorem dX1_readForm_36 : decode cX1_readForm 36 = .ok (.iload 5, 2) := by decide +kernel
theorem dX1_readForm_38 : decode cX1_readForm 38 = .ok (.bipush 63, 2) := by decide +kernel
theorem dX1_readForm_40 : decode cX1_readForm 40 = .ok (.if_icmp .ne 41, 3) := by decide +kernel
theorem dX1_readForm_43 : decode cX1_readForm 43 = .ok (.aload_n 0, 1) := by decide +kernel
theorem dX1_readForm_44 : decode cX1_readForm 44 = .ok (.iload 5, 2) := by decide +kernel
theorem dX1_readForm_46 : decode cX1_readForm 46 = .ok (.invokevirtual 81, 3) := by decide +kernel
theorem dX1_readForm_49 : decode cX1_readForm 49 = .ok (.istore 6, 2) := by decide +kernel
theorem dX1_readForm_51 : decode cX1_readForm 51 = .ok (.iload 6, 2) := by decide +kernel
theorem dX1_readForm_53 : decode cX1_readForm 53 = .ok (.ifCond .lt 12, 3) := by decide +kernel
theorem dX1_readForm_56 : decode cX1_readForm 56 = .ok (.iload_n 3, 1) := by decide +kernel
theorem dX1_readForm_57 : decode cX1_readForm 57 = .ok (.aload_n 0, 1) := by decide +kernel
theorem dX1_readForm_58 : decode cX1_readForm 58 = .ok (.getfield 19, 3) := by decide +kernel
theorem dX1_readForm_61 : decode cX1_readForm 61 = .ok (.arraylength, 1) := by decide +kernel
theorem dX1_readForm_62 : decode cX1_readForm 62 = .ok (.if_icmp .lt 5, 3) := by decide +kernel
theorem dX1_readForm_65 : decode cX1_readForm 65 = .ok (.iconst 0, 1) := by decide +kernel
theorem dX1_readForm_66 : decode cX1_readForm 66 = .ok (.ireturn, 1) := by decide +kernel
theorem dX1_readForm_67 : decode cX1_readForm 67 = .ok (.aload_n 0, 1) := by decide +kernel
theorem dX1_readForm_68 : decode cX1_readForm 68 = .ok (.getfield 19, 3) := by decide +kernel
theorem dX1_readForm_71 : decode cX1_readForm 71 = .ok (.iload_n 3, 1) := by decide +kernel
theorem dX1_readForm_72 : decode cX1_readForm 72 = .ok (.iload 6, 2) := by decide +kernel
theorem dX1_readForm_74 : decode cX1_readForm 74 = .ok (.iastore, 1) := by decide +kernel
theorem dX1_readForm_75 : decode cX1_readForm 75 = .ok (.iinc 3 1, 3) := by decide +kernel
theorem dX1_readForm_78 : decode cX1_readForm 78 = .ok (.goto 27, 3) := by decide +kernel
theorem dX1_readForm_81 : decode cX1_readForm 81 = .ok (.aload_n 0, 1) := by decide +kernel
theorem dX1_readForm_82 : decode cX1_readForm 82 = .ok (.iload 5, 2) := by decide +kernel
theorem dX1_readForm_84 : decode cX1_readForm 84 = .ok (.invokevirtual 36, 3) := by decide +kernel
theorem dX1_readForm_87 : decode cX1_readForm 87 = .ok (.ifCond .eq 16, 3) := by decide +kernel
theorem dX1_readForm_90 : decode cX1_readForm 90 = .ok (.aload_n 0, 1) := by decide +kernel
theorem dX1_readForm_91 : decode cX1_readForm 91 = .ok (.dup, 1) := by decide +kernel
theorem dX1_readForm_92 : decode cX1_readForm 92 = .ok (.getfield 29, 3) := by decide +kernel
theorem dX1_readForm_95 : decode cX1_readForm 95 = .ok (.iconst 1, 1) := by decide +kernel
theorem dX1_readForm_96 : decode cX1_readForm 96 = .ok (.iadd, 1) := by decide +kernel
theorem dX1_readForm_97 : decode cX1_readForm 97 = .ok (.putfield 29, 3) := by decide +kernel
theorem dX1_readForm_100 : decode cX1_readForm 100 = .ok (.goto 5, 3) := by decide +kernel
theorem dX1_readForm_103 : decode cX1_readForm 103 = .ok (.iconst 0, 1) := by decide +kernel
theorem dX1_readForm_104 : decode cX1_readForm 104 = .ok (.ireturn, 1) := by decide +kernel
theorem dX1_readForm_105 : decode cX1_readForm 105 = .ok (.iinc 4 1, 3) := by decide +kernel
theorem dX1_readForm_108 : decode cX1_readForm 108 = .ok (.goto (-103), 3) := by decide +kernel
theorem dX1_readForm_111 : decode cX1_readForm 111 = .ok (.iconst 1, 1) := by decide +kernel
theorem dX1_readForm_112 : decode cX1_readForm 112 = .ok (.ireturn, 1) := by decide +kernel
theorem dX1_readNumber_0 : decode cX1_readNumber 0 = .ok (.iload_n 1, 1) := by decide +kernel
theorem dX1_readNumber_1 : decode cX1_readNumber 1 = .ok (.bipush 63, 2) := by decide +kernel
theorem dX1_readNumber_3 : decode cX1_readNumber 3 = .ok (.if_icmp .ne 10, 3) := by decide +kernel
theorem dX1_readNumber_6 : decode cX1_readNumber 6 = .ok (.aload_n 0, 1) := by decide +kernel
theorem dX1_readNumber_7 : decode cX1_readNumber 7 = .ok (.invokevirtual 85, 3) := by decide +kernel
theorem dX1_readNumber_10 : decode cX1_readNumber 10 = .ok (.goto 7, 3) := by decide +kernel
theorem dX1_readNumber_13 : decode cX1_readNumber 13 = .ok (.aload_n 0, 1) := by decide +kernel
theorem dX1_readNumber_14 : decode cX1_readNumber 14 = .ok (.invokevirtual 88, 3) := by decide +kernel
theorem dX1_readNumber_17 : decode cX1_readNumber 17 = .ok (.istore_n 2, 1) := by decide +kernel
theorem dX1_readNumber_18 : decode cX1_readNumber 18 = .ok (.iload_n 2, 1) := by decide +kernel
theorem dX1_readNumber_19 : decode cX1_readNumber 19 = .ok (.ifCond .ge 5, 3) := by decide +kernel
theorem dX1_readNumber_22 : decode cX1_readNumber 22 = .ok (.iconst (-1), 1) := by decide +kernel
theorem dX1_readNumber_23 : decode cX1_readNumber 23 = .ok (.ireturn, 1) := by decide +kernel
theorem dX1_readNumber_24 : decode cX1_readNumber 24 = .ok (.aload_n 0, 1) := by decide +kernel
theorem dX1_readNumber_25 : decode cX1_readNumber 25 = .ok (.dup, 1) := by decide +kernel
theorem dX1_readNumber_26 : decode cX1_readNumber 26 = .ok (.getfield 29, 3) := by decide +kernel
theorem dX1_readNumber_29 : decode cX1_readNumber 29 = .ok (.iconst 1, 1) := by decide +kernel
theorem dX1_readNumber_30 : decode cX1_readNumber 30 = .ok (.iadd, 1) := by decide +kernel
theorem dX1_readNumber_31 : decode cX1_readNumber 31 = .ok (.putfield 29, 3) := by decide +kernel
theorem dX1_readNumber_34 : decode cX1_readNumber 34 = .ok (.aload_n 0, 1) := by decide +kernel
theorem dX1_readNumber_35 : decode cX1_readNumber 35 = .ok (.invokevirtual 88, 3) := by decide +kernel
theorem dX1_readNumber_38 : decode cX1_readNumber 38 = .ok (.istore_n 3, 1) := by decide +kernel
theorem dX1_readNumber_39 : decode cX1_readNumber 39 = .ok (.iload_n 1, 1) := by decide +kernel
theorem dX1_readNumber_40 : decode cX1_readNumber 40 = .ok (.bipush 37, 2) := by decide +kernel
theorem dX1_readNumber_42 : decode cX1_readNumber 42 = .ok (.if_icmp .ne 24, 3) := by decide +kernel
theorem dX1_readNumber_45 : decode cX1_readNumber 45 = .ok (.iload_n 3, 1) := by decide +kernel
theorem dX1_readNumber_46 : decode cX1_readNumber 46 = .ok (.ifCond .lt 20, 3) := by decide +kernel
theorem dX1_readNumber_49 : decode cX1_readNumber 49 = .ok (.aload_n 0, 1) := by decide +kernel
theorem dX1_readNumber_50 : decode cX1_readNumber 50 = .ok (.dup, 1) := by decide +kernel
theorem dX1_readNumber_51 : decode cX1_readNumber 51 = .ok (.getfield 29, 3) := by decide +kernel
theorem dX1_readNumber_54 : decode cX1_readNumber 54 = .ok (.iconst 1, 1) := by decide +kernel
theorem dX1_readNumber_55 : decode cX1_readNumber 55 = .ok (.iadd, 1) := by decide +kernel
theorem dX1_readNumber_56 : decode cX1_readNumber 56 = .ok (.putfield 29, 3) := by decide +kernel
theorem dX1_readNumber_59 : decode cX1_readNumber 59 = .ok (.iload_n 2, 1) := by decide +kernel
theorem dX1_readNumber_60 : decode cX1_readNumber 60 = .ok (.bipush 10, 2) := by decide +kernel
theorem dX1_readNumber_62 : decode cX1_readNumber 62 = .ok (.imul, 1) := by decide +kernel
theorem dX1_readNumber_63 : decode cX1_readNumber 63 = .ok (.iload_n 3, 1) := by decide +kernel
theorem dX1_readNumber_64 : decode cX1_readNumber 64 = .ok (.iadd, 1) := by decide +kernel
theorem dX1_readNumber_65 : decode cX1_readNumber 65 = .ok (.ireturn, 1) := by decide +kernel
theorem dX1_readNumber_66 : decode cX1_readNumber 66 = .ok (.iload_n 2, 1) := by decide +kernel
theorem dX1_readNumber_67 : decode cX1_readNumber 67 = .ok (.ireturn, 1) := by decide +kernel
theorem dX1_isAtPlace_0 : decode cX1_isAtPlace 0 = .ok (.aload_n 0, 1) := by decide +kernel
theorem dX1_isAtPlace_1 : decode cX1_isAtPlace 1 = .ok (.getfield 29, 3) := by decide +kernel
theorem dX1_isAtPlace_4 : decode cX1_isAtPlace 4 = .ok (.ifCond .lt 31, 3) := by decide +kernel
theorem dX1_isAtPlace_7 : decode cX1_isAtPlace 7 = .ok (.aload_n 0, 1) := by decide +kernel
theorem dX1_isAtPlace_8 : decode cX1_isAtPlace 8 = .ok (.getfield 29, 3) := by decide +kernel
theorem dX1_isAtPlace_11 : decode cX1_isAtPlace 11 = .ok (.aload_n 0, 1) := by decide +kernel
theorem dX1_isAtPlace_12 : decode cX1_isAtPlace 12 = .ok (.getfield 22, 3) := by decide +kernel
theorem dX1_isAtPlace_15 : decode cX1_isAtPlace 15 = .ok (.if_icmp .ge 20, 3) := by decide +kernel
theorem dX1_isAtPlace_18 : decode cX1_isAtPlace 18 = .ok (.aload_n 0, 1) := by decide +kernel
theorem dX1_isAtPlace_19 : decode cX1_isAtPlace 19 = .ok (.getfield 9, 3) := by decide +kernel
theorem dX1_isAtPlace_22 : decode cX1_isAtPlace 22 = .ok (.aload_n 0, 1) := by decide +kernel
theorem dX1_isAtPlace_23 : decode cX1_isAtPlace 23 = .ok (.getfield 29, 3) := by decide +kernel
theorem dX1_isAtPlace_26 : decode cX1_isAtPlace 26 = .ok (.caload, 1) := by decide +kernel
theorem dX1_isAtPlace_27 : decode cX1_isAtPlace 27 = .ok (.iload_n 1, 1) := by decide +kernel
theorem dX1_isAtPlace_28 : decode cX1_isAtPlace 28 = .ok (.if_icmp .ne 7, 3) := by decide +kernel
theorem dX1_isAtPlace_31 : decode cX1_isAtPlace 31 = .ok (.iconst 1, 1) := by decide +kernel
theorem dX1_isAtPlace_32 : decode cX1_isAtPlace 32 = .ok (.goto 4, 3) := by decide +kernel
theorem dX1_isAtPlace_35 : decode cX1_isAtPlace 35 = .ok (.iconst 0, 1) := by decide +kernel
theorem dX1_isAtPlace_36 : decode cX1_isAtPlace 36 = .ok (.ireturn, 1) := by decide +kernel
theorem dX1_digitAtPlace_0 : decode cX1_digitAtPlace 0 = .ok (.aload_n 0, 1) := by decide +kernel
theorem dX1_digitAtPlace_1 : decode cX1_digitAtPlace 1 = .ok (.getfield 29, 3) := by decide +kernel
theorem dX1_digitAtPlace_4 : decode cX1_digitAtPlace 4 = .ok (.ifCond .lt 14, 3) := by decide +kernel
theorem dX1_digitAtPlace_7 : decode cX1_digitAtPlace 7 = .ok (.aload_n 0, 1) := by decide +kernel
theorem dX1_digitAtPlace_8 : decode cX1_digitAtPlace 8 = .ok (.getfield 29, 3) := by decide +kernel
theorem dX1_digitAtPlace_11 : decode cX1_digitAtPlace 11 = .ok (.aload_n 0, 1) := by decide +kernel
theorem dX1_digitAtPlace_12 : decode cX1_digitAtPlace 12 = .ok (.getfield 22, 3) := by decide +kernel
theorem dX1_digitAtPlace_15 : decode cX1_digitAtPlace 15 = .ok (.if_icmp .lt 5, 3) := by decide +kernel
theorem dX1_digitAtPlace_18 : decode cX1_digitAtPlace 18 = .ok (.iconst (-1), 1) := by decide +kernel
theorem dX1_digitAtPlace_19 : decode cX1_digitAtPlace 19 = .ok (.ireturn, 1) := by decide +kernel
theorem dX1_digitAtPlace_20 : decode cX1_digitAtPlace 20 = .ok (.aload_n 0, 1) := by decide +kernel
theorem dX1_digitAtPlace_21 : decode cX1_digitAtPlace 21 = .ok (.getfield 9, 3) := by decide +kernel
theorem dX1_digitAtPlace_24 : decode cX1_digitAtPlace 24 = .ok (.aload_n 0, 1) := by decide +kernel
theorem dX1_digitAtPlace_25 : decode cX1_digitAtPlace 25 = .ok (.getfield 29, 3) := by decide +kernel
theorem dX1_digitAtPlace_28 : decode cX1_digitAtPlace 28 = .ok (.caload, 1) := by decide +kernel
theorem dX1_digitAtPlace_29 : decode cX1_digitAtPlace 29 = .ok (.istore_n 1, 1) := by decide +kernel
theorem dX1_digitAtPlace_30 : decode cX1_digitAtPlace 30 = .ok (.iload_n 1, 1) := by decide +kernel
theorem dX1_digitAtPlace_31 : decode cX1_digitAtPlace 31 = .ok (.bipush 48, 2) := by decide +kernel
theorem dX1_digitAtPlace_33 : decode cX1_digitAtPlace 33 = .ok (.if_icmp .lt 16, 3) := by decide +kernel
theorem dX1_digitAtPlace_36 : decode cX1_digitAtPlace 36 = .ok (.iload_n 1, 1) := by decide +kernel
theorem dX1_digitAtPlace_37 : decode cX1_digitAtPlace 37 = .ok (.bipush 57, 2) := by decide +kernel
theorem dX1_digitAtPlace_39 : decode cX1_digitAtPlace 39 = .ok (.if_icmp .gt 10, 3) := by decide +kernel
theorem dX1_digitAtPlace_42 : decode cX1_digitAtPlace 42 = .ok (.iload_n 1, 1) := by decide +kernel
theorem dX1_digitAtPlace_43 : decode cX1_digitAtPlace 43 = .ok (.bipush 48, 2) := by decide +kernel
theorem dX1_digitAtPlace_45 : decode cX1_digitAtPlace 45 = .ok (.isub, 1) := by decide +kernel
theorem dX1_digitAtPlace_46 : decode cX1_digitAtPlace 46 = .ok (.goto 4, 3) := by decide +kernel
theorem dX1_digitAtPlace_49 : decode cX1_digitAtPlace 49 = .ok (.iconst (-1), 1) := by decide +kernel
theorem dX1_digitAtPlace_50 : decode cX1_digitAtPlace 50 = .ok (.ireturn, 1) := by decide +kernel
theorem dX1_signAtPlace_0 : decode cX1_signAtPlace 0 = .ok (.aload_n 0, 1) := by decide +kernel
theorem dX1_signAtPlace_1 : decode cX1_signAtPlace 1 = .ok (.bipush 43, 2) := by decide +kernel
theorem dX1_signAtPlace_3 : decode cX1_signAtPlace 3 = .ok (.invokevirtual 36, 3) := by decide +kernel
theorem dX1_signAtPlace_6 : decode cX1_signAtPlace 6 = .ok (.ifCond .eq 5, 3) := by decide +kernel
theorem dX1_signAtPlace_9 : decode cX1_signAtPlace 9 = .ok (.iconst 1, 1) := by decide +kernel
theorem dX1_signAtPlace_10 : decode cX1_signAtPlace 10 = .ok (.ireturn, 1) := by decide +kernel
theorem dX1_signAtPlace_11 : decode cX1_signAtPlace 11 = .ok (.aload_n 0, 1) := by decide +kernel
theorem dX1_signAtPlace_12 : decode cX1_signAtPlace 12 = .ok (.bipush 45, 2) := by decide +kernel
theorem dX1_signAtPlace_14 : decode cX1_signAtPlace 14 = .ok (.invokevirtual 36, 3) := by decide +kernel
theorem dX1_signAtPlace_17 : decode cX1_signAtPlace 17 = .ok (.ifCond .eq 7, 3) := by decide +kernel
theorem dX1_signAtPlace_20 : decode cX1_signAtPlace 20 = .ok (.iconst 0, 1) := by decide +kernel
theorem dX1_signAtPlace_21 : decode cX1_signAtPlace 21 = .ok (.goto 4, 3) := by decide +kernel
theorem dX1_signAtPlace_24 : decode cX1_signAtPlace 24 = .ok (.iconst (-1), 1) := by decide +kernel
theorem dX1_signAtPlace_25 : decode cX1_signAtPlace 25 = .ok (.ireturn, 1) := by decide +kernel
theorem dX2_init_0 : decode cX2_init 0 = .ok (.aload_n 0, 1) := by decide +kernel
theorem dX2_init_1 : decode cX2_init 1 = .ok (.invokespecial 3, 3) := by decide +kernel
theorem dX2_init_4 : decode cX2_init 4 = .ok (.aload_n 0, 1) := by decide +kernel
theorem dX2_init_5 : decode cX2_init 5 = .ok (.iconst 3, 1) := by decide +kernel
theorem dX2_init_6 : decode cX2_init 6 = .ok (.newarray .int, 2) := by decide +kernel
theorem dX2_init_8 : decode cX2_init 8 = .ok (.putfield 9, 3) := by decide +kernel
theorem dX2_init_11 : decode cX2_init 11 = .ok (.aload_n 0, 1) := by decide +kernel
theorem dX2_init_12 : decode cX2_init 12 = .ok (.iconst 3, 1) := by decide +kernel
theorem dX2_init_13 : decode cX2_init 13 = .ok (.newarray .int, 2) := by decide +kernel
theorem dX2_init_15 : decode cX2_init 15 = .ok (.putfield 15, 3) := by decide +kernel
theorem dX2_init_18 : decode cX2_init 18 = .ok (.return_, 1) := by decide +kernel
theorem dX2_putAhead_0 : decode cX2_putAhead 0 = .ok (.iconst 2, 1) := by decide +kernel
theorem dX2_putAhead_1 : decode cX2_putAhead 1 = .ok (.istore_n 3, 1) := by decide +kernel
theorem dX2_putAhead_2 : decode cX2_putAhead 2 = .ok (.iload_n 3, 1) := by decide +kernel
theorem dX2_putAhead_3 : decode cX2_putAhead 3 = .ok (.ifCond .le 37, 3) := by decide +kernel
theorem dX2_putAhead_6 : decode cX2_putAhead 6 = .ok (.aload_n 0, 1) := by decide +kernel
theorem dX2_putAhead_7 : decode cX2_putAhead 7 = .ok (.getfield 9, 3) := by decide +kernel
theorem dX2_putAhead_10 : decode cX2_putAhead 10 = .ok (.iload_n 3, 1) := by decide +kernel
theorem dX2_putAhead_11 : decode cX2_putAhead 11 = .ok (.aload_n 0, 1) := by decide +kernel
theorem dX2_putAhead_12 : decode cX2_putAhead 12 = .ok (.getfield 9, 3) := by decide +kernel
theorem dX2_putAhead_15 : decode cX2_putAhead 15 = .ok (.iload_n 3, 1) := by decide +kernel
theorem dX2_putAhead_16 : decode cX2_putAhead 16 = .ok (.iconst 1, 1) := by decide +kernel
theorem dX2_putAhead_17 : decode cX2_putAhead 17 = .ok (.isub, 1) := by decide +kernel
theorem dX2_putAhead_18 : decode cX2_putAhead 18 = .ok (.iaload, 1) := by decide +kernel
theorem dX2_putAhead_19 : decode cX2_putAhead 19 = .ok (.iastore, 1) := by decide +kernel
theorem dX2_putAhead_20 : decode cX2_putAhead 20 = .ok (.aload_n 0, 1) := by decide +kernel
theorem dX2_putAhead_21 : decode cX2_putAhead 21 = .ok (.getfield 15, 3) := by decide +kernel
theorem dX2_putAhead_24 : decode cX2_putAhead 24 = .ok (.iload_n 3, 1) := by decide +kernel
theorem dX2_putAhead_25 : decode cX2_putAhead 25 = .ok (.aload_n 0, 1) := by decide +kernel
theorem dX2_putAhead_26 : decode cX2_putAhead 26 = .ok (.getfield 15, 3) := by decide +kernel
theorem dX2_putAhead_29 : decode cX2_putAhead 29 = .ok (.iload_n 3, 1) := by decide +kernel
theorem dX2_putAhead_30 : decode cX2_putAhead 30 = .ok (.iconst 1, 1) := by decide +kernel
theorem dX2_putAhead_31 : decode cX2_putAhead 31 = .ok (.isub, 1) := by decide +kernel
theorem dX2_putAhead_32 : decode cX2_putAhead 32 = .ok (.iaload, 1) := by decide +kernel
theorem dX2_putAhead_33 : decode cX2_putAhead 33 = .ok (.iastore, 1) := by decide +kernel
theorem dX2_putAhead_34 : decode cX2_putAhead 34 = .ok (.iinc 3 (-1), 3) := by decide +kernel
theorem dX2_putAhead_37 : decode cX2_putAhead 37 = .ok (.goto (-35), 3) := by decide +kernel
theorem dX2_putAhead_40 : decode cX2_putAhead 40 = .ok (.aload_n 0, 1) := by decide +kernel
theorem dX2_putAhead_41 : decode cX2_putAhead 41 = .ok (.getfield 9, 3) := by decide +kernel
theorem dX2_putAhead_44 : decode cX2_putAhead 44 = .ok (.iconst 0, 1) := by decide +kernel
theorem dX2_putAhead_45 : decode cX2_putAhead 45 = .ok (.iload_n 1, 1) := by decide +kernel
theorem dX2_putAhead_46 : decode cX2_putAhead 46 = .ok (.iastore, 1) := by decide +kernel
theorem dX2_putAhead_47 : decode cX2_putAhead 47 = .ok (.aload_n 0, 1) := by decide +kernel
theorem dX2_putAhead_48 : decode cX2_putAhead 48 = .ok (.getfield 15, 3) := by decide +kernel
theorem dX2_putAhead_51 : decode cX2_putAhead 51 = .ok (.iconst 0, 1) := by decide +kernel
theorem dX2_putAhead_52 : decode cX2_putAhead 52 = .ok (.iload_n 2, 1) := by decide +kernel
theorem dX2_putAhead_53 : decode cX2_putAhead 53 = .ok (.iastore, 1) := by decide +kernel
theorem dX2_putAhead_54 : decode cX2_putAhead 54 = .ok (.aload_n 0, 1) := by decide +kernel
theorem dX2_putAhead_55 : decode cX2_putAhead 55 = .ok (.iconst 3, 1) := by decide +kernel
theorem dX2_putAhead_56 : decode cX2_putAhead 56 = .ok (.aload_n 0, 1) := by decide +kernel
theorem dX2_putAhead_57 : decode cX2_putAhead 57 = .ok (.getfield 18, 3) := by decide +kernel
theorem dX2_putAhead_60 : decode cX2_putAhead 60 = .ok (.iconst 1, 1) := by decide +kernel
theorem dX2_putAhead_61 : decode cX2_putAhead 61 = .ok (.iadd, 1) := by decide +kernel
theorem dX2_putAhead_62 : decode cX2_putAhead 62 = .ok (.invokestatic 22, 3) := by decide +kernel
theorem dX2_putAhead_65 : decode cX2_putAhead 65 = .ok (.putfield 18, 3) := by decide +kernel
theorem dX2_putAhead_68 : decode cX2_putAhead 68 = .ok (.return_, 1) := by decide +kernel
theorem dX3_init_0 : decode cX3_init 0 = .ok (.aload_n 0, 1) := by decide +kernel
theorem dX3_init_1 : decode cX3_init 1 = .ok (.invokespecial 3, 3) := by decide +kernel
theorem dX3_init_4 : decode cX3_init 4 = .ok (.aload_n 0, 1) := by decide +kernel
theorem dX3_init_5 : decode cX3_init 5 = .ok (.bipush 13, 2) := by decide +kernel
theorem dX3_init_7 : decode cX3_init 7 = .ok (.newarray .int, 2) := by decide +kernel
theorem dX3_init_9 : decode cX3_init 9 = .ok (.putfield 9, 3) := by decide +kernel
theorem dX3_init_12 : decode cX3_init 12 = .ok (.aload_n 0, 1) := by decide +kernel
theorem dX3_init_13 : decode cX3_init 13 = .ok (.iconst 4, 1) := by decide +kernel
theorem dX3_init_14 : decode cX3_init 14 = .ok (.newarray .int, 2) := by decide +kernel
theorem dX3_init_16 : decode cX3_init 16 = .ok (.putfield 15, 3) := by decide +kernel
theorem dX3_init_19 : decode cX3_init 19 = .ok (.aload_n 0, 1) := by decide +kernel
theorem dX3_init_20 : decode cX3_init 20 = .ok (.iconst 4, 1) := by decide +kernel
theorem dX3_init_21 : decode cX3_init 21 = .ok (.newarray .int, 2) := by decide +kernel
theorem dX3_init_23 : decode cX3_init 23 = .ok (.putfield 18, 3) := by decide +kernel
theorem dX3_init_26 : decode cX3_init 26 = .ok (.aload_n 0, 1) := by decide +kernel
theorem dX3_init_27 : decode cX3_init 27 = .ok (.iconst 4, 1) := by decide +kernel
theorem dX3_init_28 : decode cX3_init 28 = .ok (.newarray .int, 2) := by decide +kernel
theorem dX3_init_30 : decode cX3_init 30 = .ok (.putfield 21, 3) := by decide +kernel
theorem dX3_init_33 : decode cX3_init 33 = .ok (.aload_n 0, 1) := by decide +kernel
theorem dX3_init_34 : decode cX3_init 34 = .ok (.bipush 6, 2) := by decide +kernel
theorem dX3_init_36 : decode cX3_init 36 = .ok (.newarray .int, 2) := by decide +kernel
theorem dX3_init_38 : decode cX3_init 38 = .ok (.putfield 24, 3) := by decide +kernel
theorem dX3_init_41 : decode cX3_init 41 = .ok (.aload_n 0, 1) := by decide +kernel
theorem dX3_init_42 : decode cX3_init 42 = .ok (.bipush 10, 2) := by decide +kernel
theorem dX3_init_44 : decode cX3_init 44 = .ok (.newarray .int, 2) := by decide +kernel
theorem dX3_init_46 : decode cX3_init 46 = .ok (.putfield 27, 3) := by decide +kernel
theorem dX3_init_49 : decode cX3_init 49 = .ok (.aload_n 0, 1) := by decide +kernel
theorem dX3_init_50 : decode cX3_init 50 = .ok (.bipush 10, 2) := by decide +kernel
theorem dX3_init_52 : decode cX3_init 52 = .ok (.newarray .int, 2) := by decide +kernel
theorem dX3_init_54 : decode cX3_init 54 = .ok (.putfield 30, 3) := by decide +kernel
theorem dX3_init_57 : decode cX3_init 57 = .ok (.aload_n 0, 1) := by decide +kernel
theorem dX3_init_58 : decode cX3_init 58 = .ok (.bipush 10, 2) := by decide +kernel
theorem dX3_init_60 : decode cX3_init 60 = .ok (.newarray .int, 2) := by decide +kernel
theorem dX3_init_62 : decode cX3_init 62 = .ok (.putfield 33, 3) := by decide +kernel
theorem dX3_init_65 : decode cX3_init 65 = .ok (.aload_n 0, 1) := by decide +kernel
theorem dX3_init_66 : decode cX3_init 66 = .ok (.bipush 10, 2) := by decide +kernel
theorem dX3_init_68 : decode cX3_init 68 = .ok (.newarray .int, 2) := by decide +kernel
theorem dX3_init_70 : decode cX3_init 70 = .ok (.putfield 36, 3) := by decide +kernel
theorem dX3_init_73 : decode cX3_init 73 = .ok (.aload_n 0, 1) := by decide +kernel
theorem dX3_init_74 : decode cX3_init 74 = .ok (.bipush 10, 2) := by decide +kernel
theorem dX3_init_76 : decode cX3_init 76 = .ok (.newarray .int, 2) := by decide +kernel
theorem dX3_init_78 : decode cX3_init 78 = .ok (.putfield 39, 3) := by decide +kernel
theorem dX3_init_81 : decode cX3_init 81 = .ok (.aload_n 0, 1) := by decide +kernel
theorem dX3_init_82 : decode cX3_init 82 = .ok (.bipush 10, 2) := by decide +kernel
theorem dX3_init_84 : decode cX3_init 84 = .ok (.newarray .int, 2) := by decide +kernel
theorem dX3_init_86 : decode cX3_init 86 = .ok (.putfield 42, 3) := by decide +kernel
theorem dX3_init_89 : decode cX3_init 89 = .ok (.aload_n 0, 1) := by decide +kernel
theorem dX3_init_90 : decode cX3_init 90 = .ok (.bipush 10, 2) := by decide +kernel
theorem dX3_init_92 : decode cX3_init 92 = .ok (.newarray .int, 2) := by decide +kernel
theorem dX3_init_94 : decode cX3_init 94 = .ok (.putfield 45, 3) := by decide +kernel
theorem dX3_init_97 : decode cX3_init 97 = .ok (.aload_n 0, 1) := by decide +kernel
theorem dX3_init_98 : decode cX3_init 98 = .ok (.bipush 10, 2) := by decide +kernel
theorem dX3_init_100 : decode cX3_init 100 = .ok (.newarray .int, 2) := by decide +kernel
theorem dX3_init_102 : decode cX3_init 102 = .ok (.putfield 48, 3) := by decide +kernel
theorem dX3_init_105 : decode cX3_init 105 = .ok (.aload_n 0, 1) := by decide +kernel
theorem dX3_init_106 : decode cX3_init 106 = .ok (.bipush 10, 2) := by decide +kernel
theorem dX3_init_108 : decode cX3_init 108 = .ok (.newarray .int, 2) := by decide +kernel
theorem dX3_init_110 : decode cX3_init 110 = .ok (.putfield 51, 3) := by decide +kernel
theorem dX3_init_113 : decode cX3_init 113 = .ok (.aload_n 0, 1) := by decide +kernel
theorem dX3_init_114 : decode cX3_init 114 = .ok (.getfield 9, 3) := by decide +kernel
theorem dX3_init_117 : decode cX3_init 117 = .ok (.iconst (-1), 1) := by decide +kernel
theorem dX3_init_118 : decode cX3_init 118 = .ok (.invokestatic 54, 3) := by decide +kernel
theorem dX3_init_121 : decode cX3_init 121 = .ok (.return_, 1) := by decide +kernel
theorem dX3_copyFrom_0 : decode cX3_copyFrom 0 = .ok (.aload_n 1, 1) := by decide +kernel
theorem dX3_copyFrom_1 : decode cX3_copyFrom 1 = .ok (.getfield 9, 3) := by decide +kernel
theorem dX3_copyFrom_4 : decode cX3_copyFrom 4 = .ok (.aload_n 0, 1) := by decide +kernel
theorem dX3_copyFrom_5 : decode cX3_copyFrom 5 = .ok (.getfield 9, 3) := by decide +kernel
theorem dX3_copyFrom_8 : decode cX3_copyFrom 8 = .ok (.invokestatic 60, 3) := by decide +kernel
theorem dX3_copyFrom_11 : decode cX3_copyFrom 11 = .ok (.aload_n 1, 1) := by decide +kernel
theorem dX3_copyFrom_12 : decode cX3_copyFrom 12 = .ok (.getfield 15, 3) := by decide +kernel
theorem dX3_copyFrom_15 : decode cX3_copyFrom 15 = .ok (.aload_n 0, 1) := by decide +kernel
theorem dX3_copyFrom_16 : decode cX3_copyFrom 16 = .ok (.getfield 15, 3) := by decide +kernel
theorem dX3_copyFrom_19 : decode cX3_copyFrom 19 = .ok (.invokestatic 60, 3) := by decide +kernel
theorem dX3_copyFrom_22 : decode cX3_copyFrom 22 = .ok (.aload_n 1, 1) := by decide +kernel
theorem dX3_copyFrom_23 : decode cX3_copyFrom 23 = .ok (.getfield 18, 3) := by decide +kernel
theorem dX3_copyFrom_26 : decode cX3_copyFrom 26 = .ok (.aload_n 0, 1) := by decide +kernel
theorem dX3_copyFrom_27 : decode cX3_copyFrom 27 = .ok (.getfield 18, 3) := by decide +kernel
theorem dX3_copyFrom_30 : decode cX3_copyFrom 30 = .ok (.invokestatic 60, 3) := by decide +kernel
theorem dX3_copyFrom_33 : decode cX3_copyFrom 33 = .ok (.aload_n 1, 1) := by decide +kernel
theorem dX3_copyFrom_34 : decode cX3_copyFrom 34 = .ok (.getfield 21, 3) := by decide +kernel
theorem dX3_copyFrom_37 : decode cX3_copyFrom 37 = .ok (.aload_n 0, 1) := by decide +kernel
theorem dX3_copyFrom_38 : decode cX3_copyFrom 38 = .ok (.getfield 21, 3) := by decide +kernel
theorem dX3_copyFrom_41 : decode cX3_copyFrom 41 = .ok (.invokestatic 60, 3) := by decide +kernel
theorem dX3_copyFrom_44 : decode cX3_copyFrom 44 = .ok (.aload_n 1, 1) := by decide +kernel
theorem dX3_copyFrom_45 : decode cX3_copyFrom 45 = .ok (.getfield 24, 3) := by decide +kernel
theorem dX3_copyFrom_48 : decode cX3_copyFrom 48 = .ok (.aload_n 0, 1) := by decide +kernel
theorem dX3_copyFrom_49 : decode cX3_copyFrom 49 = .ok (.getfield 24, 3) := by decide +kernel
theorem dX3_copyFrom_52 : decode cX3_copyFrom 52 = .ok (.invokestatic 60, 3) := by decide +kernel
theorem dX3_copyFrom_55 : decode cX3_copyFrom 55 = .ok (.aload_n 1, 1) := by decide +kernel
theorem dX3_copyFrom_56 : decode cX3_copyFrom 56 = .ok (.getfield 27, 3) := by decide +kernel
theorem dX3_copyFrom_59 : decode cX3_copyFrom 59 = .ok (.aload_n 0, 1) := by decide +kernel
theorem dX3_copyFrom_60 : decode cX3_copyFrom 60 = .ok (.getfield 27, 3) := by decide +kernel
theorem dX3_copyFrom_63 : decode cX3_copyFrom 63 = .ok (.invokestatic 60, 3) := by decide +kernel
theorem dX3_copyFrom_66 : decode cX3_copyFrom 66 = .ok (.aload_n 1, 1) := by decide +kernel
theorem dX3_copyFrom_67 : decode cX3_copyFrom 67 = .ok (.getfield 30, 3) := by decide +kernel
theorem dX3_copyFrom_70 : decode cX3_copyFrom 70 = .ok (.aload_n 0, 1) := by decide +kernel
theorem dX3_copyFrom_71 : decode cX3_copyFrom 71 = .ok (.getfield 30, 3) := by decide +kernel
theorem dX3_copyFrom_74 : decode cX3_copyFrom 74 = .ok (.invokestatic 60, 3) := by decide +kernel
theorem dX3_copyFrom_77 : decode cX3_copyFrom 77 = .ok (.aload_n 1, 1) := by decide +kernel
theorem dX3_copyFrom_78 : decode cX3_copyFrom 78 = .ok (.getfield 33, 3) := by decide +kernel
theorem dX3_copyFrom_81 : decode cX3_copyFrom 81 = .ok (.aload_n 0, 1) := by decide +kernel
theorem dX3_copyFrom_82 : decode cX3_copyFrom 82 = .ok (.getfield 33, 3) := by decide +kernel
theorem dX3_copyFrom_85 : decode cX3_copyFrom 85 = .ok (.invokestatic 60, 3) := by decide +kernel
theorem dX3_copyFrom_88 : decode cX3_copyFrom 88 = .ok (.aload_n 1, 1) := by decide +kernel
theorem dX3_copyFrom_89 : decode cX3_copyFrom 89 = .ok (.getfield 36, 3) := by decide +kernel
theorem dX3_copyFrom_92 : decode cX3_copyFrom 92 = .ok (.aload_n 0, 1) := by decide +kernel
theorem dX3_copyFrom_93 : decode cX3_copyFrom 93 = .ok (.getfield 36, 3) := by decide +kernel
theorem dX3_copyFrom_96 : decode cX3_copyFrom 96 = .ok (.invokestatic 60, 3) := by decide +kernel
theorem dX3_copyFrom_99 : decode cX3_copyFrom 99 = .ok (.aload_n 1, 1) := by decide +kernel
theorem dX3_copyFrom_100 : decode cX3_copyFrom 100 = .ok (.getfield 39, 3) := by decide +kernel
theorem dX3_copyFrom_103 : decode cX3_copyFrom 103 = .ok (.aload_n 0, 1) := by decide +kernel
theorem dX3_copyFrom_104 : decode cX3_copyFrom 104 = .ok (.getfield 39, 3) := by decide +kernel
theorem dX3_copyFrom_107 : decode cX3_copyFrom 107 = .ok (.invokestatic 60, 3) := by decide +kernel
theorem dX3_copyFrom_110 : decode cX3_copyFrom 110 = .ok (.aload_n 1, 1) := by decide +kernel
theorem dX3_copyFrom_111 : decode cX3_copyFrom 111 = .ok (.getfield 42, 3) := by decide +kernel
theorem dX3_copyFrom_114 : decode cX3_copyFrom 114 = .ok (.aload_n 0, 1) := by decide +kernel
theorem dX3_copyFrom_115 : decode cX3_copyFrom 115 = .ok (.getfield 42, 3) := by decide +kernel
theorem dX3_copyFrom_118 : decode cX3_copyFrom 118 = .ok (.invokestatic 60, 3) := by decide +kernel
theorem dX3_copyFrom_121 : decode cX3_copyFrom 121 = .ok (.aload_n 1, 1) := by decide +kernel
theorem dX3_copyFrom_122 : decode cX3_copyFrom 122 = .ok (.getfield 45, 3) := by decide +kernel
theorem dX3_copyFrom_125 : decode cX3_copyFrom 125 = .ok (.aload_n 0, 1) := by decide +kernel
theorem dX3_copyFrom_126 : decode cX3_copyFrom 126 = .ok (.getfield 45, 3) := by decide +kernel
theorem dX3_copyFrom_129 : decode cX3_copyFrom 129 = .ok (.invokestatic 60, 3) := by decide +kernel
theorem dX3_copyFrom_132 : decode cX3_copyFrom 132 = .ok (.aload_n 1, 1) := by decide +kernel
theorem dX3_copyFrom_133 : decode cX3_copyFrom 133 = .ok (.getfield 48, 3) := by decide +kernel
theorem dX3_copyFrom_136 : decode cX3_copyFrom 136 = .ok (.aload_n 0, 1) := by decide +kernel
theorem dX3_copyFrom_137 : decode cX3_copyFrom 137 = .ok (.getfield 48, 3) := by decide +kernel
theorem dX3_copyFrom_140 : decode cX3_copyFrom 140 = .ok (.invokestatic 60, 3) := by decide +kernel
theorem dX3_copyFrom_143 : decode cX3_copyFrom 143 = .ok (.aload_n 1, 1) := by decide +kernel
theorem dX3_copyFrom_144 : decode cX3_copyFrom 144 = .ok (.getfield 51, 3) := by decide +kernel
theorem dX3_copyFrom_147 : decode cX3_copyFrom 147 = .ok (.aload_n 0, 1) := by decide +kernel
theorem dX3_copyFrom_148 : decode cX3_copyFrom 148 = .ok (.getfield 51, 3) := by decide +kernel
theorem dX3_copyFrom_151 : decode cX3_copyFrom 151 = .ok (.invokestatic 60, 3) := by decide +kernel
theorem dX3_copyFrom_154 : decode cX3_copyFrom 154 = .ok (.aload_n 0, 1) := by decide +kernel
theorem dX3_copyFrom_155 : decode cX3_copyFrom 155 = .ok (.aload_n 1, 1) := by decide +kernel
theorem dX3_copyFrom_156 : decode cX3_copyFrom 156 = .ok (.getfield 64, 3) := by decide +kernel
theorem dX3_copyFrom_159 : decode cX3_copyFrom 159 = .ok (.putfield 64, 3) := by decide +kernel
theorem dX3_copyFrom_162 : decode cX3_copyFrom 162 = .ok (.aload_n 0, 1) := by decide +kernel
theorem dX3_copyFrom_163 : decode cX3_copyFrom 163 = .ok (.aload_n 1, 1) := by decide +kernel
theorem dX3_copyFrom_164 : decode cX3_copyFrom 164 = .ok (.getfield 68, 3) := by decide +kernel
theorem dX3_copyFrom_167 : decode cX3_copyFrom 167 = .ok (.putfield 68, 3) := by decide +kernel
theorem dX3_copyFrom_170 : decode cX3_copyFrom 170 = .ok (.aload_n 0, 1) := by decide +kernel
theorem dX3_copyFrom_171 : decode cX3_copyFrom 171 = .ok (.aload_n 1, 1) := by decide +kernel
theorem dX3_copyFrom_172 : decode cX3_copyFrom 172 = .ok (.getfield 71, 3) := by decide +kernel
theorem dX3_copyFrom_175 : decode cX3_copyFrom 175 = .ok (.putfield 71, 3) := by decide +kernel
theorem dX3_copyFrom_178 : decode cX3_copyFrom 178 = .ok (.aload_n 0, 1) := by decide +kernel
theorem dX3_copyFrom_179 : decode cX3_copyFrom 179 = .ok (.aload_n 1, 1) := by decide +kernel
theorem dX3_copyFrom_180 : decode cX3_copyFrom 180 = .ok (.getfield 74, 3) := by decide +kernel
theorem dX3_copyFrom_183 : decode cX3_copyFrom 183 = .ok (.putfield 74, 3) := by decide +kernel
theorem dX3_copyFrom_186 : decode cX3_copyFrom 186 = .ok (.return_, 1) := by decide +kernel
theorem dX3_copyRow_0 : decode cX3_copyRow 0 = .ok (.aload_n 0, 1) := by decide +kernel
theorem dX3_copyRow_1 : decode cX3_copyRow 1 = .ok (.iconst 0, 1) := by decide +kernel
theorem dX3_copyRow_2 : decode cX3_copyRow 2 = .ok (.aload_n 1, 1) := by decide +kernel
theorem dX3_copyRow_3 : decode cX3_copyRow 3 = .ok (.iconst 0, 1) := by decide +kernel
theorem dX3_copyRow_4 : decode cX3_copyRow 4 = .ok (.aload_n 0, 1) := by decide +kernel
theorem dX3_copyRow_5 : decode cX3_copyRow 5 = .ok (.arraylength, 1) := by decide +kernel
theorem dX3_copyRow_6 : decode cX3_copyRow 6 = .ok (.aload_n 1, 1) := by decide +kernel
theorem dX3_copyRow_7 : decode cX3_copyRow 7 = .ok (.arraylength, 1) := by decide +kernel
theorem dX3_copyRow_8 : decode cX3_copyRow 8 = .ok (.invokestatic 77, 3) := by decide +kernel
theorem dX3_copyRow_11 : decode cX3_copyRow 11 = .ok (.invokestatic 83, 3) := by decide +kernel
theorem dX3_copyRow_14 : decode cX3_copyRow 14 = .ok (.return_, 1) := by decide +kernel
theorem dX3_addKettle_0 : decode cX3_addKettle 0 = .ok (.aload_n 0, 1) := by decide +kernel
theorem dX3_addKettle_1 : decode cX3_addKettle 1 = .ok (.getfield 64, 3) := by decide +kernel
theorem dX3_addKettle_4 : decode cX3_addKettle 4 = .ok (.istore 4, 2) := by decide +kernel
theorem dX3_addKettle_6 : decode cX3_addKettle 6 = .ok (.aload_n 0, 1) := by decide +kernel
theorem dX3_addKettle_7 : decode cX3_addKettle 7 = .ok (.getfield 27, 3) := by decide +kernel
theorem dX3_addKettle_10 : decode cX3_addKettle 10 = .ok (.iload 4, 2) := by decide +kernel
theorem dX3_addKettle_12 : decode cX3_addKettle 12 = .ok (.iload_n 1, 1) := by decide +kernel
theorem dX3_addKettle_13 : decode cX3_addKettle 13 = .ok (.iastore, 1) := by decide +kernel
theorem dX3_addKettle_14 : decode cX3_addKettle 14 = .ok (.aload_n 0, 1) := by decide +kernel
theorem dX3_addKettle_15 : decode cX3_addKettle 15 = .ok (.getfield 30, 3) := by decide +kernel
theorem dX3_addKettle_18 : decode cX3_addKettle 18 = .ok (.iload 4, 2) := by decide +kernel
theorem dX3_addKettle_20 : decode cX3_addKettle 20 = .ok (.iload_n 2, 1) := by decide +kernel
theorem dX3_addKettle_21 : decode cX3_addKettle 21 = .ok (.iastore, 1) := by decide +kernel
theorem dX3_addKettle_22 : decode cX3_addKettle 22 = .ok (.aload_n 0, 1) := by decide +kernel
theorem dX3_addKettle_23 : decode cX3_addKettle 23 = .ok (.getfield 33, 3) := by decide +kernel
theorem dX3_addKettle_26 : decode cX3_addKettle 26 = .ok (.iload 4, 2) := by decide +kernel
theorem dX3_addKettle_28 : decode cX3_addKettle 28 = .ok (.iload_n 3, 1) := by decide +kernel
theorem dX3_addKettle_29 : decode cX3_addKettle 29 = .ok (.iastore, 1) := by decide +kernel
theorem dX3_addKettle_30 : decode cX3_addKettle 30 = .ok (.aload_n 0, 1) := by decide +kernel
theorem dX3_addKettle_31 : decode cX3_addKettle 31 = .ok (.getfield 36, 3) := by decide +kernel
theorem dX3_addKettle_34 : decode cX3_addKettle 34 = .ok (.iload 4, 2) := by decide +kernel
theorem dX3_addKettle_36 : decode cX3_addKettle 36 = .ok (.bipush 20, 2) := by decide +kernel
theorem dX3_addKettle_38 : decode cX3_addKettle 38 = .ok (.iastore, 1) := by decide +kernel
theorem dX3_addKettle_39 : decode cX3_addKettle 39 = .ok (.aload_n 0, 1) := by decide +kernel
theorem dX3_addKettle_40 : decode cX3_addKettle 40 = .ok (.getfield 39, 3) := by decide +kernel
theorem dX3_addKettle_43 : decode cX3_addKettle 43 = .ok (.iload 4, 2) := by decide +kernel
theorem dX3_addKettle_45 : decode cX3_addKettle 45 = .ok (.iconst (-1), 1) := by decide +kernel
theorem dX3_addKettle_46 : decode cX3_addKettle 46 = .ok (.iastore, 1) := by decide +kernel
theorem dX3_addKettle_47 : decode cX3_addKettle 47 = .ok (.aload_n 0, 1) := by decide +kernel
theorem dX3_addKettle_48 : decode cX3_addKettle 48 = .ok (.getfield 42, 3) := by decide +kernel
theorem dX3_addKettle_51 : decode cX3_addKettle 51 = .ok (.iload 4, 2) := by decide +kernel
theorem dX3_addKettle_53 : decode cX3_addKettle 53 = .ok (.iconst 0, 1) := by decide +kernel
theorem dX3_addKettle_54 : decode cX3_addKettle 54 = .ok (.iastore, 1) := by decide +kernel
theorem dX3_addKettle_55 : decode cX3_addKettle 55 = .ok (.aload_n 0, 1) := by decide +kernel
theorem dX3_addKettle_56 : decode cX3_addKettle 56 = .ok (.getfield 45, 3) := by decide +kernel
theorem dX3_addKettle_59 : decode cX3_addKettle 59 = .ok (.iload 4, 2) := by decide +kernel
theorem dX3_addKettle_61 : decode cX3_addKettle 61 = .ok (.iconst 1, 1) := by decide +kernel
theorem dX3_addKettle_62 : decode cX3_addKettle 62 = .ok (.iastore, 1) := by decide +kernel
theorem dX3_addKettle_63 : decode cX3_addKettle 63 = .ok (.aload_n 0, 1) := by decide +kernel
theorem dX3_addKettle_64 : decode cX3_addKettle 64 = .ok (.getfield 48, 3) := by decide +kernel
theorem dX3_addKettle_67 : decode cX3_addKettle 67 = .ok (.iload 4, 2) := by decide +kernel
theorem dX3_addKettle_69 : decode cX3_addKettle 69 = .ok (.iconst 0, 1) := by decide +kernel
theorem dX3_addKettle_70 : decode cX3_addKettle 70 = .ok (.iastore, 1) := by decide +kernel
theorem dX3_addKettle_71 : decode cX3_addKettle 71 = .ok (.aload_n 0, 1) := by decide +kernel
theorem dX3_addKettle_72 : decode cX3_addKettle 72 = .ok (.getfield 51, 3) := by decide +kernel
theorem dX3_addKettle_75 : decode cX3_addKettle 75 = .ok (.iload 4, 2) := by decide +kernel
theorem dX3_addKettle_77 : decode cX3_addKettle 77 = .ok (.iconst 0, 1) := by decide +kernel
theorem dX3_addKettle_78 : decode cX3_addKettle 78 = .ok (.iastore, 1) := by decide +kernel
theorem dX3_addKettle_79 : decode cX3_addKettle 79 = .ok (.aload_n 0, 1) := by decide +kernel
theorem dX3_addKettle_80 : decode cX3_addKettle 80 = .ok (.dup, 1) := by decide +kernel
theorem dX3_addKettle_81 : decode cX3_addKettle 81 = .ok (.getfield 64, 3) := by decide +kernel
theorem dX3_addKettle_84 : decode cX3_addKettle 84 = .ok (.iconst 1, 1) := by decide +kernel
theorem dX3_addKettle_85 : decode cX3_addKettle 85 = .ok (.iadd, 1) := by decide +kernel
theorem dX3_addKettle_86 : decode cX3_addKettle 86 = .ok (.putfield 64, 3) := by decide +kernel
theorem dX3_addKettle_89 : decode cX3_addKettle 89 = .ok (.aload_n 0, 1) := by decide +kernel
theorem dX3_addKettle_90 : decode cX3_addKettle 90 = .ok (.dup, 1) := by decide +kernel
theorem dX3_addKettle_91 : decode cX3_addKettle 91 = .ok (.getfield 71, 3) := by decide +kernel
theorem dX3_addKettle_94 : decode cX3_addKettle 94 = .ok (.iload_n 3, 1) := by decide +kernel
theorem dX3_addKettle_95 : decode cX3_addKettle 95 = .ok (.iadd, 1) := by decide +kernel
theorem dX3_addKettle_96 : decode cX3_addKettle 96 = .ok (.putfield 71, 3) := by decide +kernel
theorem dX3_addKettle_99 : decode cX3_addKettle 99 = .ok (.iload 4, 2) := by decide +kernel
theorem dX3_addKettle_101 : decode cX3_addKettle 101 = .ok (.ireturn, 1) := by decide +kernel
theorem dX3_barLid_0 : decode cX3_barLid 0 = .ok (.aload_n 0, 1) := by decide +kernel
theorem dX3_barLid_1 : decode cX3_barLid 1 = .ok (.getfield 45, 3) := by decide +kernel
theorem dX3_barLid_4 : decode cX3_barLid 4 = .ok (.iload_n 1, 1) := by decide +kernel
theorem dX3_barLid_5 : decode cX3_barLid 5 = .ok (.iconst 0, 1) := by decide +kernel
theorem dX3_barLid_6 : decode cX3_barLid 6 = .ok (.iastore, 1) := by decide +kernel
theorem dX3_barLid_7 : decode cX3_barLid 7 = .ok (.aload_n 0, 1) := by decide +kernel
theorem dX3_barLid_8 : decode cX3_barLid 8 = .ok (.getfield 48, 3) := by decide +kernel
theorem dX3_barLid_11 : decode cX3_barLid 11 = .ok (.iload_n 1, 1) := by decide +kernel
theorem dX3_barLid_12 : decode cX3_barLid 12 = .ok (.iconst 1, 1) := by decide +kernel
theorem dX3_barLid_13 : decode cX3_barLid 13 = .ok (.iastore, 1) := by decide +kernel
theorem dX3_barLid_14 : decode cX3_barLid 14 = .ok (.aload_n 0, 1) := by decide +kernel
theorem dX3_barLid_15 : decode cX3_barLid 15 = .ok (.getfield 51, 3) := by decide +kernel
theorem dX3_barLid_18 : decode cX3_barLid 18 = .ok (.iload_n 1, 1) := by decide +kernel
theorem dX3_barLid_19 : decode cX3_barLid 19 = .ok (.iconst 0, 1) := by decide +kernel
theorem dX3_barLid_20 : decode cX3_barLid 20 = .ok (.iastore, 1) := by decide +kernel
theorem dX3_barLid_21 : decode cX3_barLid 21 = .ok (.return_, 1) := by decide +kernel
theorem dX3_passMinute_0 : decode cX3_passMinute 0 = .ok (.iconst 0, 1) := by decide +kernel
theorem dX3_passMinute_1 : decode cX3_passMinute 1 = .ok (.istore_n 1, 1) := by decide +kernel
theorem dX3_passMinute_2 : decode cX3_passMinute 2 = .ok (.iconst 0, 1) := by decide +kernel
theorem dX3_passMinute_3 : decode cX3_passMinute 3 = .ok (.istore_n 2, 1) := by decide +kernel
theorem dX3_passMinute_4 : decode cX3_passMinute 4 = .ok (.iload_n 2, 1) := by decide +kernel
theorem dX3_passMinute_5 : decode cX3_passMinute 5 = .ok (.aload_n 0, 1) := by decide +kernel
theorem dX3_passMinute_6 : decode cX3_passMinute 6 = .ok (.getfield 64, 3) := by decide +kernel
theorem dX3_passMinute_9 : decode cX3_passMinute 9 = .ok (.if_icmp .ge 20, 3) := by decide +kernel
theorem dX3_passMinute_12 : decode cX3_passMinute 12 = .ok (.aload_n 0, 1) := by decide +kernel
theorem dX3_passMinute_13 : decode cX3_passMinute 13 = .ok (.iload_n 2, 1) := by decide +kernel
theorem dX3_passMinute_14 : decode cX3_passMinute 14 = .ok (.invokevirtual 89, 3) := by decide +kernel
theorem dX3_passMinute_17 : decode cX3_passMinute 17 = .ok (.ifCond .eq 6, 3) := by decide +kernel
theorem dX3_passMinute_20 : decode cX3_passMinute 20 = .ok (.iinc 1 1, 3) := by decide +kernel
theorem dX3_passMinute_23 : decode cX3_passMinute 23 = .ok (.iinc 2 1, 3) := by decide +kernel
theorem dX3_passMinute_26 : decode cX3_passMinute 26 = .ok (.goto (-22), 3) := by decide +kernel
theorem dX3_passMinute_29 : decode cX3_passMinute 29 = .ok (.aload_n 0, 1) := by decide +kernel
theorem dX3_passMinute_30 : decode cX3_passMinute 30 = .ok (.dup, 1) := by decide +kernel
theorem dX3_passMinute_31 : decode cX3_passMinute 31 = .ok (.getfield 68, 3) := by decide +kernel
theorem dX3_passMinute_34 : decode cX3_passMinute 34 = .ok (.iconst 1, 1) := by decide +kernel
theorem dX3_passMinute_35 : decode cX3_passMinute 35 = .ok (.iadd, 1) := by decide +kernel
theorem dX3_passMinute_36 : decode cX3_passMinute 36 = .ok (.putfield 68, 3) := by decide +kernel
theorem dX3_passMinute_39 : decode cX3_passMinute 39 = .ok (.iload_n 1, 1) := by decide +kernel
theorem dX3_passMinute_40 : decode cX3_passMinute 40 = .ok (.ireturn, 1) := by decide +kernel
theorem dX3_passMinuteOver_0 : decode cX3_passMinuteOver 0 = .ok (.aload_n 0, 1) := by decide +kernel
theorem dX3_passMinuteOver_1 : decode cX3_passMinuteOver 1 = .ok (.iload_n 1, 1) := by decide +kernel
theorem dX3_passMinuteOver_2 : decode cX3_passMinuteOver 2 = .ok (.invokevirtual 93, 3) := by decide +kernel
theorem dX3_passMinuteOver_5 : decode cX3_passMinuteOver 5 = .ok (.istore_n 2, 1) := by decide +kernel
theorem dX3_passMinuteOver_6 : decode cX3_passMinuteOver 6 = .ok (.iload_n 2, 1) := by decide +kernel
theorem dX3_passMinuteOver_7 : decode cX3_passMinuteOver 7 = .ok (.ifCond .eq 32, 3) := by decide +kernel
theorem dX3_passMinuteOver_10 : decode cX3_passMinuteOver 10 = .ok (.aload_n 0, 1) := by decide +kernel
theorem dX3_passMinuteOver_11 : decode cX3_passMinuteOver 11 = .ok (.getfield 33, 3) := by decide +kernel
theorem dX3_passMinuteOver_14 : decode cX3_passMinuteOver 14 = .ok (.iload_n 1, 1) := by decide +kernel
theorem dX3_passMinuteOver_15 : decode cX3_passMinuteOver 15 = .ok (.iaload, 1) := by decide +kernel
theorem dX3_passMinuteOver_16 : decode cX3_passMinuteOver 16 = .ok (.ifCond .le 23, 3) := by decide +kernel
theorem dX3_passMinuteOver_19 : decode cX3_passMinuteOver 19 = .ok (.aload_n 0, 1) := by decide +kernel
theorem dX3_passMinuteOver_20 : decode cX3_passMinuteOver 20 = .ok (.getfield 33, 3) := by decide +kernel
theorem dX3_passMinuteOver_23 : decode cX3_passMinuteOver 23 = .ok (.iload_n 1, 1) := by decide +kernel
theorem dX3_passMinuteOver_24 : decode cX3_passMinuteOver 24 = .ok (.dup2, 1) := by decide +kernel
theorem dX3_passMinuteOver_25 : decode cX3_passMinuteOver 25 = .ok (.iaload, 1) := by decide +kernel
theorem dX3_passMinuteOver_26 : decode cX3_passMinuteOver 26 = .ok (.iconst 1, 1) := by decide +kernel
theorem dX3_passMinuteOver_27 : decode cX3_passMinuteOver 27 = .ok (.isub, 1) := by decide +kernel
theorem dX3_passMinuteOver_28 : decode cX3_passMinuteOver 28 = .ok (.iastore, 1) := by decide +kernel
theorem dX3_passMinuteOver_29 : decode cX3_passMinuteOver 29 = .ok (.aload_n 0, 1) := by decide +kernel
theorem dX3_passMinuteOver_30 : decode cX3_passMinuteOver 30 = .ok (.dup, 1) := by decide +kernel
theorem dX3_passMinuteOver_31 : decode cX3_passMinuteOver 31 = .ok (.getfield 74, 3) := by decide +kernel
theorem dX3_passMinuteOver_34 : decode cX3_passMinuteOver 34 = .ok (.iconst 1, 1) := by decide +kernel
theorem dX3_passMinuteOver_35 : decode cX3_passMinuteOver 35 = .ok (.iadd, 1) := by decide +kernel
theorem dX3_passMinuteOver_36 : decode cX3_passMinuteOver 36 = .ok (.putfield 74, 3) := by decide +kernel
theorem dX3_passMinuteOver_39 : decode cX3_passMinuteOver 39 = .ok (.iload_n 2, 1) := by decide +kernel
theorem dX3_passMinuteOver_40 : decode cX3_passMinuteOver 40 = .ok (.ifCond .eq 16, 3) := by decide +kernel
theorem dX3_passMinuteOver_43 : decode cX3_passMinuteOver 43 = .ok (.aload_n 0, 1) := by decide +kernel
theorem dX3_passMinuteOver_44 : decode cX3_passMinuteOver 44 = .ok (.getfield 33, 3) := by decide +kernel
theorem dX3_passMinuteOver_47 : decode cX3_passMinuteOver 47 = .ok (.iload_n 1, 1) := by decide +kernel
theorem dX3_passMinuteOver_48 : decode cX3_passMinuteOver 48 = .ok (.iaload, 1) := by decide +kernel
theorem dX3_passMinuteOver_49 : decode cX3_passMinuteOver 49 = .ok (.ifCond .ne 7, 3) := by decide +kernel
theorem dX3_passMinuteOver_52 : decode cX3_passMinuteOver 52 = .ok (.iconst 1, 1) := by decide +kernel
theorem dX3_passMinuteOver_53 : decode cX3_passMinuteOver 53 = .ok (.goto 4, 3) := by decide +kernel
theorem dX3_passMinuteOver_56 : decode cX3_passMinuteOver 56 = .ok (.iconst 0, 1) := by decide +kernel
theorem dX3_passMinuteOver_57 : decode cX3_passMinuteOver 57 = .ok (.istore_n 3, 1) := by decide +kernel
theorem dX3_passMinuteOver_58 : decode cX3_passMinuteOver 58 = .ok (.iload_n 3, 1) := by decide +kernel
theorem dX3_passMinuteOver_59 : decode cX3_passMinuteOver 59 = .ok (.ifCond .eq 11, 3) := by decide +kernel
theorem dX3_passMinuteOver_62 : decode cX3_passMinuteOver 62 = .ok (.aload_n 0, 1) := by decide +kernel
theorem dX3_passMinuteOver_63 : decode cX3_passMinuteOver 63 = .ok (.iload_n 1, 1) := by decide +kernel
theorem dX3_passMinuteOver_64 : decode cX3_passMinuteOver 64 = .ok (.invokevirtual 96, 3) := by decide +kernel
theorem dX3_passMinuteOver_67 : decode cX3_passMinuteOver 67 = .ok (.goto 22, 3) := by decide +kernel
theorem dX3_passMinuteOver_70 : decode cX3_passMinuteOver 70 = .ok (.aload_n 0, 1) := by decide +kernel
theorem dX3_passMinuteOver_71 : decode cX3_passMinuteOver 71 = .ok (.getfield 42, 3) := by decide +kernel
theorem dX3_passMinuteOver_74 : decode cX3_passMinuteOver 74 = .ok (.iload_n 1, 1) := by decide +kernel
theorem dX3_passMinuteOver_75 : decode cX3_passMinuteOver 75 = .ok (.iaload, 1) := by decide +kernel
theorem dX3_passMinuteOver_76 : decode cX3_passMinuteOver 76 = .ok (.ifCond .le 13, 3) := by decide +kernel
theorem dX3_passMinuteOver_79 : decode cX3_passMinuteOver 79 = .ok (.aload_n 0, 1) := by decide +kernel
theorem dX3_passMinuteOver_80 : decode cX3_passMinuteOver 80 = .ok (.getfield 42, 3) := by decide +kernel
theorem dX3_passMinuteOver_83 : decode cX3_passMinuteOver 83 = .ok (.iload_n 1, 1) := by decide +kernel
theorem dX3_passMinuteOver_84 : decode cX3_passMinuteOver 84 = .ok (.dup2, 1) := by decide +kernel
theorem dX3_passMinuteOver_85 : decode cX3_passMinuteOver 85 = .ok (.iaload, 1) := by decide +kernel
theorem dX3_passMinuteOver_86 : decode cX3_passMinuteOver 86 = .ok (.iconst 1, 1) := by decide +kernel
theorem dX3_passMinuteOver_87 : decode cX3_passMinuteOver 87 = .ok (.isub, 1) := by decide +kernel
theorem dX3_passMinuteOver_88 : decode cX3_passMinuteOver 88 = .ok (.iastore, 1) := by decide +kernel
theorem dX3_passMinuteOver_89 : decode cX3_passMinuteOver 89 = .ok (.aload_n 0, 1) := by decide +kernel
theorem dX3_passMinuteOver_90 : decode cX3_passMinuteOver 90 = .ok (.iload_n 1, 1) := by decide +kernel
theorem dX3_passMinuteOver_91 : decode cX3_passMinuteOver 91 = .ok (.invokevirtual 100, 3) := by decide +kernel
theorem dX3_passMinuteOver_94 : decode cX3_passMinuteOver 94 = .ok (.iload_n 3, 1) := by decide +kernel
theorem dX3_passMinuteOver_95 : decode cX3_passMinuteOver 95 = .ok (.ireturn, 1) := by decide +kernel
theorem dX3_boilDry_0 : decode cX3_boilDry 0 = .ok (.aload_n 0, 1) := by decide +kernel
theorem dX3_boilDry_1 : decode cX3_boilDry 1 = .ok (.getfield 27, 3) := by decide +kernel
theorem dX3_boilDry_4 : decode cX3_boilDry 4 = .ok (.iload_n 1, 1) := by decide +kernel
theorem dX3_boilDry_5 : decode cX3_boilDry 5 = .ok (.iaload, 1) := by decide +kernel
theorem dX3_boilDry_6 : decode cX3_boilDry 6 = .ok (.istore_n 2, 1) := by decide +kernel
theorem dX3_boilDry_7 : decode cX3_boilDry 7 = .ok (.aload_n 0, 1) := by decide +kernel
theorem dX3_boilDry_8 : decode cX3_boilDry 8 = .ok (.getfield 39, 3) := by decide +kernel
theorem dX3_boilDry_11 : decode cX3_boilDry 11 = .ok (.iload_n 1, 1) := by decide +kernel
theorem dX3_boilDry_12 : decode cX3_boilDry 12 = .ok (.iconst (-1), 1) := by decide +kernel
theorem dX3_boilDry_13 : decode cX3_boilDry 13 = .ok (.iastore, 1) := by decide +kernel
theorem dX3_boilDry_14 : decode cX3_boilDry 14 = .ok (.aload_n 0, 1) := by decide +kernel
theorem dX3_boilDry_15 : decode cX3_boilDry 15 = .ok (.getfield 42, 3) := by decide +kernel
theorem dX3_boilDry_18 : decode cX3_boilDry 18 = .ok (.iload_n 1, 1) := by decide +kernel
theorem dX3_boilDry_19 : decode cX3_boilDry 19 = .ok (.bipush 6, 2) := by decide +kernel
theorem dX3_boilDry_21 : decode cX3_boilDry 21 = .ok (.iastore, 1) := by decide +kernel
theorem dX3_boilDry_22 : decode cX3_boilDry 22 = .ok (.aload_n 0, 1) := by decide +kernel
theorem dX3_boilDry_23 : decode cX3_boilDry 23 = .ok (.getfield 15, 3) := by decide +kernel
theorem dX3_boilDry_26 : decode cX3_boilDry 26 = .ok (.iload_n 2, 1) := by decide +kernel
theorem dX3_boilDry_27 : decode cX3_boilDry 27 = .ok (.dup2, 1) := by decide +kernel
theorem dX3_boilDry_28 : decode cX3_boilDry 28 = .ok (.iaload, 1) := by decide +kernel
theorem dX3_boilDry_29 : decode cX3_boilDry 29 = .ok (.iconst 2, 1) := by decide +kernel
theorem dX3_boilDry_30 : decode cX3_boilDry 30 = .ok (.isub, 1) := by decide +kernel
theorem dX3_boilDry_31 : decode cX3_boilDry 31 = .ok (.iastore, 1) := by decide +kernel
theorem dX3_boilDry_32 : decode cX3_boilDry 32 = .ok (.aload_n 0, 1) := by decide +kernel
theorem dX3_boilDry_33 : decode cX3_boilDry 33 = .ok (.getfield 18, 3) := by decide +kernel
theorem dX3_boilDry_36 : decode cX3_boilDry 36 = .ok (.iload_n 2, 1) := by decide +kernel
theorem dX3_boilDry_37 : decode cX3_boilDry 37 = .ok (.dup2, 1) := by decide +kernel
theorem dX3_boilDry_38 : decode cX3_boilDry 38 = .ok (.iaload, 1) := by decide +kernel
theorem dX3_boilDry_39 : decode cX3_boilDry 39 = .ok (.iconst 1, 1) := by decide +kernel
theorem dX3_boilDry_40 : decode cX3_boilDry 40 = .ok (.iadd, 1) := by decide +kernel
theorem dX3_boilDry_41 : decode cX3_boilDry 41 = .ok (.iastore, 1) := by decide +kernel
theorem dX3_boilDry_42 : decode cX3_boilDry 42 = .ok (.return_, 1) := by decide +kernel
theorem dX3_changeTemperature_0 : decode cX3_changeTemperature 0 = .ok (.aload_n 0, 1) := by decide +kernel
theorem dX3_changeTemperature_1 : decode cX3_changeTemperature 1 = .ok (.getfield 39, 3) := by decide +kernel
theorem dX3_changeTemperature_4 : decode cX3_changeTemperature 4 = .ok (.iload_n 1, 1) := by decide +kernel
theorem dX3_changeTemperature_5 : decode cX3_changeTemperature 5 = .ok (.iaload, 1) := by decide +kernel
theorem dX3_changeTemperature_6 : decode cX3_changeTemperature 6 = .ok (.iconst (-1), 1) := by decide +kernel
theorem dX3_changeTemperature_7 : decode cX3_changeTemperature 7 = .ok (.if_icmp .ne 25, 3) := by decide +kernel
theorem dX3_changeTemperature_10 : decode cX3_changeTemperature 10 = .ok (.aload_n 0, 1) := by decide +kernel
theorem dX3_changeTemperature_11 : decode cX3_changeTemperature 11 = .ok (.getfield 36, 3) := by decide +kernel
theorem dX3_changeTemperature_14 : decode cX3_changeTemperature 14 = .ok (.iload_n 1, 1) := by decide +kernel
theorem dX3_changeTemperature_15 : decode cX3_changeTemperature 15 = .ok (.bipush 20, 2) := by decide +kernel
theorem dX3_changeTemperature_17 : decode cX3_changeTemperature 17 = .ok (.aload_n 0, 1) := by decide +kernel
theorem dX3_changeTemperature_18 : decode cX3_changeTemperature 18 = .ok (.getfield 36, 3) := by decide +kernel
theorem dX3_changeTemperature_21 : decode cX3_changeTemperature 21 = .ok (.iload_n 1, 1) := by decide +kernel
theorem dX3_changeTemperature_22 : decode cX3_changeTemperature 22 = .ok (.iaload, 1) := by decide +kernel
theorem dX3_changeTemperature_23 : decode cX3_changeTemperature 23 = .ok (.iconst 5, 1) := by decide +kernel
theorem dX3_changeTemperature_24 : decode cX3_changeTemperature 24 = .ok (.isub, 1) := by decide +kernel
theorem dX3_changeTemperature_25 : decode cX3_changeTemperature 25 = .ok (.invokestatic 103, 3) := by decide +kernel
theorem dX3_changeTemperature_28 : decode cX3_changeTemperature 28 = .ok (.iastore, 1) := by decide +kernel
theorem dX3_changeTemperature_29 : decode cX3_changeTemperature 29 = .ok (.goto 28, 3) := by decide +kernel
theorem dX3_changeTemperature_32 : decode cX3_changeTemperature 32 = .ok (.aload_n 0, 1) := by decide +kernel
theorem dX3_changeTemperature_33 : decode cX3_changeTemperature 33 = .ok (.getfield 36, 3) := by decide +kernel
theorem dX3_changeTemperature_36 : decode cX3_changeTemperature 36 = .ok (.iload_n 1, 1) := by decide +kernel
theorem dX3_changeTemperature_37 : decode cX3_changeTemperature 37 = .ok (.bipush 100, 2) := by decide +kernel
theorem dX3_changeTemperature_39 : decode cX3_changeTemperature 39 = .ok (.aload_n 0, 1) := by decide +kernel
theorem dX3_changeTemperature_40 : decode cX3_changeTemperature 40 = .ok (.getfield 36, 3) := by decide +kernel
theorem dX3_changeTemperature_43 : decode cX3_changeTemperature 43 = .ok (.iload_n 1, 1) := by decide +kernel
theorem dX3_changeTemperature_44 : decode cX3_changeTemperature 44 = .ok (.iaload, 1) := by decide +kernel
theorem dX3_changeTemperature_45 : decode cX3_changeTemperature 45 = .ok (.iconst 5, 1) := by decide +kernel
theorem dX3_changeTemperature_46 : decode cX3_changeTemperature 46 = .ok (.aload_n 0, 1) := by decide +kernel
theorem dX3_changeTemperature_47 : decode cX3_changeTemperature 47 = .ok (.iload_n 1, 1) := by decide +kernel
theorem dX3_changeTemperature_48 : decode cX3_changeTemperature 48 = .ok (.invokevirtual 106, 3) := by decide +kernel
theorem dX3_changeTemperature_51 : decode cX3_changeTemperature 51 = .ok (.imul, 1) := by decide +kernel
theorem dX3_changeTemperature_52 : decode cX3_changeTemperature 52 = .ok (.iadd, 1) := by decide +kernel
theorem dX3_changeTemperature_53 : decode cX3_changeTemperature 53 = .ok (.invokestatic 77, 3) := by decide +kernel
theorem dX3_changeTemperature_56 : decode cX3_changeTemperature 56 = .ok (.iastore, 1) := by decide +kernel
theorem dX3_changeTemperature_57 : decode cX3_changeTemperature 57 = .ok (.return_, 1) := by decide +kernel
theorem dX3_holdHarmony_0 : decode cX3_holdHarmony 0 = .ok (.aload_n 0, 1) := by decide +kernel
theorem dX3_holdHarmony_1 : decode cX3_holdHarmony 1 = .ok (.invokevirtual 110, 3) := by decide +kernel
theorem dX3_holdHarmony_4 : decode cX3_holdHarmony 4 = .ok (.istore_n 1, 1) := by decide +kernel
theorem dX3_holdHarmony_5 : decode cX3_holdHarmony 5 = .ok (.iconst 0, 1) := by decide +kernel
theorem dX3_holdHarmony_6 : decode cX3_holdHarmony 6 = .ok (.istore_n 2, 1) := by decide +kernel
theorem dX3_holdHarmony_7 : decode cX3_holdHarmony 7 = .ok (.iload_n 2, 1) := by decide +kernel
theorem dX3_holdHarmony_8 : decode cX3_holdHarmony 8 = .ok (.aload_n 0, 1) := by decide +kernel
theorem dX3_holdHarmony_9 : decode cX3_holdHarmony 9 = .ok (.getfield 64, 3) := by decide +kernel
theorem dX3_holdHarmony_12 : decode cX3_holdHarmony 12 = .ok (.if_icmp .ge 92, 3) := by decide +kernel
theorem dX3_holdHarmony_15 : decode cX3_holdHarmony 15 = .ok (.iload_n 2, 1) := by decide +kernel
theorem dX3_holdHarmony_16 : decode cX3_holdHarmony 16 = .ok (.iconst 1, 1) := by decide +kernel
theorem dX3_holdHarmony_17 : decode cX3_holdHarmony 17 = .ok (.iadd, 1) := by decide +kernel
theorem dX3_holdHarmony_18 : decode cX3_holdHarmony 18 = .ok (.istore_n 3, 1) := by decide +kernel
theorem dX3_holdHarmony_19 : decode cX3_holdHarmony 19 = .ok (.iload_n 3, 1) := by decide +kernel
theorem dX3_holdHarmony_20 : decode cX3_holdHarmony 20 = .ok (.aload_n 0, 1) := by decide +kernel
theorem dX3_holdHarmony_21 : decode cX3_holdHarmony 21 = .ok (.getfield 64, 3) := by decide +kernel
theorem dX3_holdHarmony_24 : decode cX3_holdHarmony 24 = .ok (.if_icmp .ge 74, 3) := by decide +kernel
theorem dX3_holdHarmony_27 : decode cX3_holdHarmony 27 = .ok (.iload_n 1, 1) := by decide +kernel
theorem dX3_holdHarmony_28 : decode cX3_holdHarmony 28 = .ok (.iload_n 2, 1) := by decide +kernel
theorem dX3_holdHarmony_29 : decode cX3_holdHarmony 29 = .ok (.invokestatic 114, 3) := by decide +kernel
theorem dX3_holdHarmony_32 : decode cX3_holdHarmony 32 = .ok (.ifCond .eq 60, 3) := by decide +kernel
theorem dX3_holdHarmony_35 : decode cX3_holdHarmony 35 = .ok (.iload_n 1, 1) := by decide +kernel
theorem dX3_holdHarmony_36 : decode cX3_holdHarmony 36 = .ok (.iload_n 3, 1) := by decide +kernel
theorem dX3_holdHarmony_37 : decode cX3_holdHarmony 37 = .ok (.invokestatic 114, 3) := by decide +kernel
theorem dX3_holdHarmony_40 : decode cX3_holdHarmony 40 = .ok (.ifCond .eq 52, 3) := by decide +kernel
theorem dX3_holdHarmony_43 : decode cX3_holdHarmony 43 = .ok (.aload_n 0, 1) := by decide +kernel
theorem dX3_holdHarmony_44 : decode cX3_holdHarmony 44 = .ok (.getfield 30, 3) := by decide +kernel
theorem dX3_holdHarmony_47 : decode cX3_holdHarmony 47 = .ok (.iload_n 2, 1) := by decide +kernel
theorem dX3_holdHarmony_48 : decode cX3_holdHarmony 48 = .ok (.iaload, 1) := by decide +kernel
theorem dX3_holdHarmony_49 : decode cX3_holdHarmony 49 = .ok (.aload_n 0, 1) := by decide +kernel
theorem dX3_holdHarmony_50 : decode cX3_holdHarmony 50 = .ok (.getfield 30, 3) := by decide +kernel
theorem dX3_holdHarmony_53 : decode cX3_holdHarmony 53 = .ok (.iload_n 3, 1) := by decide +kernel
theorem dX3_holdHarmony_54 : decode cX3_holdHarmony 54 = .ok (.iaload, 1) := by decide +kernel
theorem dX3_holdHarmony_55 : decode cX3_holdHarmony 55 = .ok (.invokestatic 118, 3) := by decide +kernel
theorem dX3_holdHarmony_58 : decode cX3_holdHarmony 58 = .ok (.istore 4, 2) := by decide +kernel
theorem dX3_holdHarmony_60 : decode cX3_holdHarmony 60 = .ok (.aload_n 0, 1) := by decide +kernel
theorem dX3_holdHarmony_61 : decode cX3_holdHarmony 61 = .ok (.getfield 15, 3) := by decide +kernel
theorem dX3_holdHarmony_64 : decode cX3_holdHarmony 64 = .ok (.aload_n 0, 1) := by decide +kernel
theorem dX3_holdHarmony_65 : decode cX3_holdHarmony 65 = .ok (.getfield 27, 3) := by decide +kernel
theorem dX3_holdHarmony_68 : decode cX3_holdHarmony 68 = .ok (.iload_n 2, 1) := by decide +kernel
theorem dX3_holdHarmony_69 : decode cX3_holdHarmony 69 = .ok (.iaload, 1) := by decide +kernel
theorem dX3_holdHarmony_70 : decode cX3_holdHarmony 70 = .ok (.dup2, 1) := by decide +kernel
theorem dX3_holdHarmony_71 : decode cX3_holdHarmony 71 = .ok (.iaload, 1) := by decide +kernel
theorem dX3_holdHarmony_72 : decode cX3_holdHarmony 72 = .ok (.iload 4, 2) := by decide +kernel
theorem dX3_holdHarmony_74 : decode cX3_holdHarmony 74 = .ok (.iadd, 1) := by decide +kernel
theorem dX3_holdHarmony_75 : decode cX3_holdHarmony 75 = .ok (.iastore, 1) := by decide +kernel
theorem dX3_holdHarmony_76 : decode cX3_holdHarmony 76 = .ok (.aload_n 0, 1) := by decide +kernel
theorem dX3_holdHarmony_77 : decode cX3_holdHarmony 77 = .ok (.getfield 15, 3) := by decide +kernel
theorem dX3_holdHarmony_80 : decode cX3_holdHarmony 80 = .ok (.aload_n 0, 1) := by decide +kernel
theorem dX3_holdHarmony_81 : decode cX3_holdHarmony 81 = .ok (.getfield 27, 3) := by decide +kernel
theorem dX3_holdHarmony_84 : decode cX3_holdHarmony 84 = .ok (.iload_n 3, 1) := by decide +kernel
theorem dX3_holdHarmony_85 : decode cX3_holdHarmony 85 = .ok (.iaload, 1) := by decide +kernel
theorem dX3_holdHarmony_86 : decode cX3_holdHarmony 86 = .ok (.dup2, 1) := by decide +kernel
theorem dX3_holdHarmony_87 : decode cX3_holdHarmony 87 = .ok (.iaload, 1) := by decide +kernel
theorem dX3_holdHarmony_88 : decode cX3_holdHarmony 88 = .ok (.iload 4, 2) := by decide +kernel
theorem dX3_holdHarmony_90 : decode cX3_holdHarmony 90 = .ok (.iadd, 1) := by decide +kernel
theorem dX3_holdHarmony_91 : decode cX3_holdHarmony 91 = .ok (.iastore, 1) := by decide +kernel
theorem dX3_holdHarmony_92 : decode cX3_holdHarmony 92 = .ok (.iinc 3 1, 3) := by decide +kernel
theorem dX3_holdHarmony_95 : decode cX3_holdHarmony 95 = .ok (.goto (-76), 3) := by decide +kernel
theorem dX3_holdHarmony_98 : decode cX3_holdHarmony 98 = .ok (.iinc 2 1, 3) := by decide +kernel
theorem dX3_holdHarmony_101 : decode cX3_holdHarmony 101 = .ok (.goto (-94), 3) := by decide +kernel
theorem dX3_holdHarmony_104 : decode cX3_holdHarmony 104 = .ok (.aload_n 0, 1) := by decide +kernel
theorem dX3_holdHarmony_105 : decode cX3_holdHarmony 105 = .ok (.getfield 48, 3) := by decide +kernel
theorem dX3_holdHarmony_108 : decode cX3_holdHarmony 108 = .ok (.iconst 0, 1) := by decide +kernel
theorem dX3_holdHarmony_109 : decode cX3_holdHarmony 109 = .ok (.invokestatic 54, 3) := by decide +kernel
theorem dX3_holdHarmony_112 : decode cX3_holdHarmony 112 = .ok (.return_, 1) := by decide +kernel
theorem dX3_heatUnder_0 : decode cX3_heatUnder 0 = .ok (.aload_n 0, 1) := by decide +kernel
theorem dX3_heatUnder_1 : decode cX3_heatUnder 1 = .ok (.getfield 39, 3) := by decide +kernel
theorem dX3_heatUnder_4 : decode cX3_heatUnder 4 = .ok (.iload_n 1, 1) := by decide +kernel
theorem dX3_heatUnder_5 : decode cX3_heatUnder 5 = .ok (.iaload, 1) := by decide +kernel
theorem dX3_heatUnder_6 : decode cX3_heatUnder 6 = .ok (.istore_n 2, 1) := by decide +kernel
theorem dX3_heatUnder_7 : decode cX3_heatUnder 7 = .ok (.iload_n 2, 1) := by decide +kernel
theorem dX3_heatUnder_8 : decode cX3_heatUnder 8 = .ok (.ifCond .lt 18, 3) := by decide +kernel
theorem dX3_heatUnder_11 : decode cX3_heatUnder 11 = .ok (.iload_n 2, 1) := by decide +kernel
theorem dX3_heatUnder_12 : decode cX3_heatUnder 12 = .ok (.bipush 6, 2) := by decide +kernel
theorem dX3_heatUnder_14 : decode cX3_heatUnder 14 = .ok (.if_icmp .ge 12, 3) := by decide +kernel
theorem dX3_heatUnder_17 : decode cX3_heatUnder 17 = .ok (.aload_n 0, 1) := by decide +kernel
theorem dX3_heatUnder_18 : decode cX3_heatUnder 18 = .ok (.getfield 24, 3) := by decide +kernel
theorem dX3_heatUnder_21 : decode cX3_heatUnder 21 = .ok (.iload_n 2, 1) := by decide +kernel
theorem dX3_heatUnder_22 : decode cX3_heatUnder 22 = .ok (.iaload, 1) := by decide +kernel
theorem dX3_heatUnder_23 : decode cX3_heatUnder 23 = .ok (.goto 4, 3) := by decide +kernel
theorem dX3_heatUnder_26 : decode cX3_heatUnder 26 = .ok (.iconst 0, 1) := by decide +kernel
theorem dX3_heatUnder_27 : decode cX3_heatUnder 27 = .ok (.ireturn, 1) := by decide +kernel
theorem dX3_boils_0 : decode cX3_boils 0 = .ok (.aload_n 0, 1) := by decide +kernel
theorem dX3_boils_1 : decode cX3_boils 1 = .ok (.iload_n 1, 1) := by decide +kernel
theorem dX3_boils_2 : decode cX3_boils 2 = .ok (.invokevirtual 106, 3) := by decide +kernel
theorem dX3_boils_5 : decode cX3_boils 5 = .ok (.ifCond .le 18, 3) := by decide +kernel
theorem dX3_boils_8 : decode cX3_boils 8 = .ok (.aload_n 0, 1) := by decide +kernel
theorem dX3_boils_9 : decode cX3_boils 9 = .ok (.getfield 36, 3) := by decide +kernel
theorem dX3_boils_12 : decode cX3_boils 12 = .ok (.iload_n 1, 1) := by decide +kernel
theorem dX3_boils_13 : decode cX3_boils 13 = .ok (.iaload, 1) := by decide +kernel
theorem dX3_boils_14 : decode cX3_boils 14 = .ok (.bipush 100, 2) := by decide +kernel
theorem dX3_boils_16 : decode cX3_boils 16 = .ok (.if_icmp .ne 7, 3) := by decide +kernel
theorem dX3_boils_19 : decode cX3_boils 19 = .ok (.iconst 1, 1) := by decide +kernel
theorem dX3_boils_20 : decode cX3_boils 20 = .ok (.goto 4, 3) := by decide +kernel
theorem dX3_boils_23 : decode cX3_boils 23 = .ok (.iconst 0, 1) := by decide +kernel
theorem dX3_boils_24 : decode cX3_boils 24 = .ok (.ireturn, 1) := by decide +kernel
theorem dX3_whistles_0 : decode cX3_whistles 0 = .ok (.aload_n 0, 1) := by decide +kernel
theorem dX3_whistles_1 : decode cX3_whistles 1 = .ok (.invokevirtual 110, 3) := by decide +kernel
theorem dX3_whistles_4 : decode cX3_whistles 4 = .ok (.iload_n 1, 1) := by decide +kernel
theorem dX3_whistles_5 : decode cX3_whistles 5 = .ok (.invokestatic 114, 3) := by decide +kernel
theorem dX3_whistles_8 : decode cX3_whistles 8 = .ok (.ireturn, 1) := by decide +kernel
theorem dX3_whistlers_0 : decode cX3_whistlers 0 = .ok (.iconst 0, 1) := by decide +kernel
theorem dX3_whistlers_1 : decode cX3_whistlers 1 = .ok (.istore_n 1, 1) := by decide +kernel
theorem dX3_whistlers_2 : decode cX3_whistlers 2 = .ok (.iconst 0, 1) := by decide +kernel
theorem dX3_whistlers_3 : decode cX3_whistlers 3 = .ok (.istore_n 2, 1) := by decide +kernel
theorem dX3_whistlers_4 : decode cX3_whistlers 4 = .ok (.iload_n 2, 1) := by decide +kernel
theorem dX3_whistlers_5 : decode cX3_whistlers 5 = .ok (.aload_n 0, 1) := by decide +kernel
theorem dX3_whistlers_6 : decode cX3_whistlers 6 = .ok (.getfield 64, 3) := by decide +kernel
theorem dX3_whistlers_9 : decode cX3_whistlers 9 = .ok (.if_icmp .ge 42, 3) := by decide +kernel
theorem dX3_whistlers_12 : decode cX3_whistlers 12 = .ok (.aload_n 0, 1) := by decide +kernel
theorem dX3_whistlers_13 : decode cX3_whistlers 13 = .ok (.iload_n 2, 1) := by decide +kernel
theorem dX3_whistlers_14 : decode cX3_whistlers 14 = .ok (.invokevirtual 93, 3) := by decide +kernel
theorem dX3_whistlers_17 : decode cX3_whistlers 17 = .ok (.ifCond .eq 28, 3) := by decide +kernel
theorem dX3_whistlers_20 : decode cX3_whistlers 20 = .ok (.aload_n 0, 1) := by decide +kernel
theorem dX3_whistlers_21 : decode cX3_whistlers 21 = .ok (.getfield 33, 3) := by decide +kernel
theorem dX3_whistlers_24 : decode cX3_whistlers 24 = .ok (.iload_n 2, 1) := by decide +kernel
theorem dX3_whistlers_25 : decode cX3_whistlers 25 = .ok (.iaload, 1) := by decide +kernel
theorem dX3_whistlers_26 : decode cX3_whistlers 26 = .ok (.ifCond .le 19, 3) := by decide +kernel
theorem dX3_whistlers_29 : decode cX3_whistlers 29 = .ok (.aload_n 0, 1) := by decide +kernel
theorem dX3_whistlers_30 : decode cX3_whistlers 30 = .ok (.getfield 45, 3) := by decide +kernel
theorem dX3_whistlers_33 : decode cX3_whistlers 33 = .ok (.iload_n 2, 1) := by decide +kernel
theorem dX3_whistlers_34 : decode cX3_whistlers 34 = .ok (.iaload, 1) := by decide +kernel
theorem dX3_whistlers_35 : decode cX3_whistlers 35 = .ok (.iconst 1, 1) := by decide +kernel
theorem dX3_whistlers_36 : decode cX3_whistlers 36 = .ok (.if_icmp .ne 9, 3) := by decide +kernel
theorem dX3_whistlers_39 : decode cX3_whistlers 39 = .ok (.iload_n 1, 1) := by decide +kernel
theorem dX3_whistlers_40 : decode cX3_whistlers 40 = .ok (.iconst 1, 1) := by decide +kernel
theorem dX3_whistlers_41 : decode cX3_whistlers 41 = .ok (.iload_n 2, 1) := by decide +kernel
theorem dX3_whistlers_42 : decode cX3_whistlers 42 = .ok (.ishl, 1) := by decide +kernel
theorem dX3_whistlers_43 : decode cX3_whistlers 43 = .ok (.ior, 1) := by decide +kernel
theorem dX3_whistlers_44 : decode cX3_whistlers 44 = .ok (.istore_n 1, 1) := by decide +kernel
theorem dX3_whistlers_45 : decode cX3_whistlers 45 = .ok (.iinc 2 1, 3) := by decide +kernel
theorem dX3_whistlers_48 : decode cX3_whistlers 48 = .ok (.goto (-44), 3) := by decide +kernel
theorem dX3_whistlers_51 : decode cX3_whistlers 51 = .ok (.iload_n 1, 1) := by decide +kernel
theorem dX3_whistlers_52 : decode cX3_whistlers 52 = .ok (.ireturn, 1) := by decide +kernel
theorem dX3_whistledPitches_0 : decode cX3_whistledPitches 0 = .ok (.aload_n 0, 1) := by decide +kernel
theorem dX3_whistledPitches_1 : decode cX3_whistledPitches 1 = .ok (.invokevirtual 110, 3) := by decide +kernel
theorem dX3_whistledPitches_4 : decode cX3_whistledPitches 4 = .ok (.istore_n 1, 1) := by decide +kernel
theorem dX3_whistledPitches_5 : decode cX3_whistledPitches 5 = .ok (.iconst 0, 1) := by decide +kernel
theorem dX3_whistledPitches_6 : decode cX3_whistledPitches 6 = .ok (.istore_n 2, 1) := by decide +kernel
theorem dX3_whistledPitches_7 : decode cX3_whistledPitches 7 = .ok (.iconst 0, 1) := by decide +kernel
theorem dX3_whistledPitches_8 : decode cX3_whistledPitches 8 = .ok (.istore_n 3, 1) := by decide +kernel
theorem dX3_whistledPitches_9 : decode cX3_whistledPitches 9 = .ok (.iload_n 3, 1) := by decide +kernel
theorem dX3_whistledPitches_10 : decode cX3_whistledPitches 10 = .ok (.aload_n 0, 1) := by decide +kernel
theorem dX3_whistledPitches_11 : decode cX3_whistledPitches 11 = .ok (.getfield 64, 3) := by decide +kernel
theorem dX3_whistledPitches_14 : decode cX3_whistledPitches 14 = .ok (.if_icmp .ge 28, 3) := by decide +kernel
theorem dX3_whistledPitches_17 : decode cX3_whistledPitches 17 = .ok (.iload_n 1, 1) := by decide +kernel
theorem dX3_whistledPitches_18 : decode cX3_whistledPitches 18 = .ok (.iload_n 3, 1) := by decide +kernel
theorem dX3_whistledPitches_19 : decode cX3_whistledPitches 19 = .ok (.invokestatic 114, 3) := by decide +kernel
theorem dX3_whistledPitches_22 : decode cX3_whistledPitches 22 = .ok (.ifCond .eq 14, 3) := by decide +kernel
theorem dX3_whistledPitches_25 : decode cX3_whistledPitches 25 = .ok (.iload_n 2, 1) := by decide +kernel
theorem dX3_whistledPitches_26 : decode cX3_whistledPitches 26 = .ok (.iconst 1, 1) := by decide +kernel
theorem dX3_whistledPitches_27 : decode cX3_whistledPitches 27 = .ok (.aload_n 0, 1) := by decide +kernel
theorem dX3_whistledPitches_28 : decode cX3_whistledPitches 28 = .ok (.getfield 30, 3) := by decide +kernel
theorem dX3_whistledPitches_31 : decode cX3_whistledPitches 31 = .ok (.iload_n 3, 1) := by decide +kernel
theorem dX3_whistledPitches_32 : decode cX3_whistledPitches 32 = .ok (.iaload, 1) := by decide +kernel
theorem dX3_whistledPitches_33 : decode cX3_whistledPitches 33 = .ok (.ishl, 1) := by decide +kernel
theorem dX3_whistledPitches_34 : decode cX3_whistledPitches 34 = .ok (.ior, 1) := by decide +kernel
theorem dX3_whistledPitches_35 : decode cX3_whistledPitches 35 = .ok (.istore_n 2, 1) := by decide +kernel
theorem dX3_whistledPitches_36 : decode cX3_whistledPitches 36 = .ok (.iinc 3 1, 3) := by decide +kernel
theorem dX3_whistledPitches_39 : decode cX3_whistledPitches 39 = .ok (.goto (-30), 3) := by decide +kernel
theorem dX3_whistledPitches_42 : decode cX3_whistledPitches 42 = .ok (.iload_n 2, 1) := by decide +kernel
theorem dX3_whistledPitches_43 : decode cX3_whistledPitches 43 = .ok (.ireturn, 1) := by decide +kernel
theorem dX3_kettleOn_0 : decode cX3_kettleOn 0 = .ok (.iconst 0, 1) := by decide +kernel
theorem dX3_kettleOn_1 : decode cX3_kettleOn 1 = .ok (.istore_n 2, 1) := by decide +kernel
theorem dX3_kettleOn_2 : decode cX3_kettleOn 2 = .ok (.iload_n 2, 1) := by decide +kernel
theorem dX3_kettleOn_3 : decode cX3_kettleOn 3 = .ok (.aload_n 0, 1) := by decide +kernel
theorem dX3_kettleOn_4 : decode cX3_kettleOn 4 = .ok (.getfield 64, 3) := by decide +kernel
theorem dX3_kettleOn_7 : decode cX3_kettleOn 7 = .ok (.if_icmp .ge 21, 3) := by decide +kernel
theorem dX3_kettleOn_10 : decode cX3_kettleOn 10 = .ok (.aload_n 0, 1) := by decide +kernel
theorem dX3_kettleOn_11 : decode cX3_kettleOn 11 = .ok (.getfield 39, 3) := by decide +kernel
theorem dX3_kettleOn_14 : decode cX3_kettleOn 14 = .ok (.iload_n 2, 1) := by decide +kernel
theorem dX3_kettleOn_15 : decode cX3_kettleOn 15 = .ok (.iaload, 1) := by decide +kernel
theorem dX3_kettleOn_16 : decode cX3_kettleOn 16 = .ok (.iload_n 1, 1) := by decide +kernel
theorem dX3_kettleOn_17 : decode cX3_kettleOn 17 = .ok (.if_icmp .ne 5, 3) := by decide +kernel
theorem dX3_kettleOn_20 : decode cX3_kettleOn 20 = .ok (.iload_n 2, 1) := by decide +kernel
theorem dX3_kettleOn_21 : decode cX3_kettleOn 21 = .ok (.ireturn, 1) := by decide +kernel
theorem dX3_kettleOn_22 : decode cX3_kettleOn 22 = .ok (.iinc 2 1, 3) := by decide +kernel
theorem dX3_kettleOn_25 : decode cX3_kettleOn 25 = .ok (.goto (-23), 3) := by decide +kernel
theorem dX3_kettleOn_28 : decode cX3_kettleOn 28 = .ok (.iconst (-1), 1) := by decide +kernel
theorem dX3_kettleOn_29 : decode cX3_kettleOn 29 = .ok (.ireturn, 1) := by decide +kernel
theorem dX3_stoveWithPitch_0 : decode cX3_stoveWithPitch 0 = .ok (.iconst 0, 1) := by decide +kernel
theorem dX3_stoveWithPitch_1 : decode cX3_stoveWithPitch 1 = .ok (.istore_n 2, 1) := by decide +kernel
theorem dX3_stoveWithPitch_2 : decode cX3_stoveWithPitch 2 = .ok (.iload_n 2, 1) := by decide +kernel
theorem dX3_stoveWithPitch_3 : decode cX3_stoveWithPitch 3 = .ok (.aload_n 0, 1) := by decide +kernel
theorem dX3_stoveWithPitch_4 : decode cX3_stoveWithPitch 4 = .ok (.getfield 64, 3) := by decide +kernel
theorem dX3_stoveWithPitch_7 : decode cX3_stoveWithPitch 7 = .ok (.if_icmp .ge 36, 3) := by decide +kernel
theorem dX3_stoveWithPitch_10 : decode cX3_stoveWithPitch 10 = .ok (.aload_n 0, 1) := by decide +kernel
theorem dX3_stoveWithPitch_11 : decode cX3_stoveWithPitch 11 = .ok (.getfield 30, 3) := by decide +kernel
theorem dX3_stoveWithPitch_14 : decode cX3_stoveWithPitch 14 = .ok (.iload_n 2, 1) := by decide +kernel
theorem dX3_stoveWithPitch_15 : decode cX3_stoveWithPitch 15 = .ok (.iaload, 1) := by decide +kernel
theorem dX3_stoveWithPitch_16 : decode cX3_stoveWithPitch 16 = .ok (.iload_n 1, 1) := by decide +kernel
theorem dX3_stoveWithPitch_17 : decode cX3_stoveWithPitch 17 = .ok (.if_icmp .ne 20, 3) := by decide +kernel
theorem dX3_stoveWithPitch_20 : decode cX3_stoveWithPitch 20 = .ok (.aload_n 0, 1) := by decide +kernel
theorem dX3_stoveWithPitch_21 : decode cX3_stoveWithPitch 21 = .ok (.getfield 39, 3) := by decide +kernel
theorem dX3_stoveWithPitch_24 : decode cX3_stoveWithPitch 24 = .ok (.iload_n 2, 1) := by decide +kernel
theorem dX3_stoveWithPitch_25 : decode cX3_stoveWithPitch 25 = .ok (.iaload, 1) := by decide +kernel
theorem dX3_stoveWithPitch_26 : decode cX3_stoveWithPitch 26 = .ok (.iconst (-1), 1) := by decide +kernel
theorem dX3_stoveWithPitch_27 : decode cX3_stoveWithPitch 27 = .ok (.if_icmp .eq 10, 3) := by decide +kernel
theorem dX3_stoveWithPitch_30 : decode cX3_stoveWithPitch 30 = .ok (.aload_n 0, 1) := by decide +kernel
theorem dX3_stoveWithPitch_31 : decode cX3_stoveWithPitch 31 = .ok (.getfield 39, 3) := by decide +kernel
theorem dX3_stoveWithPitch_34 : decode cX3_stoveWithPitch 34 = .ok (.iload_n 2, 1) := by decide +kernel
theorem dX3_stoveWithPitch_35 : decode cX3_stoveWithPitch 35 = .ok (.iaload, 1) := by decide +kernel
theorem dX3_stoveWithPitch_36 : decode cX3_stoveWithPitch 36 = .ok (.ireturn, 1) := by decide +kernel
theorem dX3_stoveWithPitch_37 : decode cX3_stoveWithPitch 37 = .ok (.iinc 2 1, 3) := by decide +kernel
theorem dX3_stoveWithPitch_40 : decode cX3_stoveWithPitch 40 = .ok (.goto (-38), 3) := by decide +kernel
theorem dX3_stoveWithPitch_43 : decode cX3_stoveWithPitch 43 = .ok (.iconst (-1), 1) := by decide +kernel
theorem dX3_stoveWithPitch_44 : decode cX3_stoveWithPitch 44 = .ok (.ireturn, 1) := by decide +kernel
theorem dX3_hasPitchOnTwoStoves_0 : decode cX3_hasPitchOnTwoStoves 0 = .ok (.iconst 0, 1) := by decide +kernel
theorem dX3_hasPitchOnTwoStoves_1 : decode cX3_hasPitchOnTwoStoves 1 = .ok (.istore_n 1, 1) := by decide +kernel
theorem dX3_hasPitchOnTwoStoves_2 : decode cX3_hasPitchOnTwoStoves 2 = .ok (.iconst 0, 1) := by decide +kernel
theorem dX3_hasPitchOnTwoStoves_3 : decode cX3_hasPitchOnTwoStoves 3 = .ok (.istore_n 2, 1) := by decide +kernel
theorem dX3_hasPitchOnTwoStoves_4 : decode cX3_hasPitchOnTwoStoves 4 = .ok (.iload_n 2, 1) := by decide +kernel
theorem dX3_hasPitchOnTwoStoves_5 : decode cX3_hasPitchOnTwoStoves 5 = .ok (.aload_n 0, 1) := by decide +kernel
theorem dX3_hasPitchOnTwoStoves_6 : decode cX3_hasPitchOnTwoStoves 6 = .ok (.getfield 64, 3) := by decide +kernel
theorem dX3_hasPitchOnTwoStoves_9 : decode cX3_hasPitchOnTwoStoves 9 = .ok (.if_icmp .ge 45, 3) := by decide +kernel
theorem dX3_hasPitchOnTwoStoves_12 : decode cX3_hasPitchOnTwoStoves 12 = .ok (.aload_n 0, 1) := by decide +kernel
theorem dX3_hasPitchOnTwoStoves_13 : decode cX3_hasPitchOnTwoStoves 13 = .ok (.getfield 39, 3) := by decide +kernel
theorem dX3_hasPitchOnTwoStoves_16 : decode cX3_hasPitchOnTwoStoves 16 = .ok (.iload_n 2, 1) := by decide +kernel
theorem dX3_hasPitchOnTwoStoves_17 : decode cX3_hasPitchOnTwoStoves 17 = .ok (.iaload, 1) := by decide +kernel
theorem dX3_hasPitchOnTwoStoves_18 : decode cX3_hasPitchOnTwoStoves 18 = .ok (.iconst (-1), 1) := by decide +kernel
theorem dX3_hasPitchOnTwoStoves_19 : decode cX3_hasPitchOnTwoStoves 19 = .ok (.if_icmp .eq 29, 3) := by decide +kernel
theorem dX3_hasPitchOnTwoStoves_22 : decode cX3_hasPitchOnTwoStoves 22 = .ok (.iload_n 1, 1) := by decide +kernel
theorem dX3_hasPitchOnTwoStoves_23 : decode cX3_hasPitchOnTwoStoves 23 = .ok (.aload_n 0, 1) := by decide +kernel
theorem dX3_hasPitchOnTwoStoves_24 : decode cX3_hasPitchOnTwoStoves 24 = .ok (.getfield 30, 3) := by decide +kernel
theorem dX3_hasPitchOnTwoStoves_27 : decode cX3_hasPitchOnTwoStoves 27 = .ok (.iload_n 2, 1) := by decide +kernel
theorem dX3_hasPitchOnTwoStoves_28 : decode cX3_hasPitchOnTwoStoves 28 = .ok (.iaload, 1) := by decide +kernel
theorem dX3_hasPitchOnTwoStoves_29 : decode cX3_hasPitchOnTwoStoves 29 = .ok (.invokestatic 114, 3) := by decide +kernel
theorem dX3_hasPitchOnTwoStoves_32 : decode cX3_hasPitchOnTwoStoves 32 = .ok (.ifCond .eq 5, 3) := by decide +kernel
theorem dX3_hasPitchOnTwoStoves_35 : decode cX3_hasPitchOnTwoStoves 35 = .ok (.iconst 1, 1) := by decide +kernel
theorem dX3_hasPitchOnTwoStoves_36 : decode cX3_hasPitchOnTwoStoves 36 = .ok (.ireturn, 1) := by decide +kernel
theorem dX3_hasPitchOnTwoStoves_37 : decode cX3_hasPitchOnTwoStoves 37 = .ok (.iload_n 1, 1) := by decide +kernel
theorem dX3_hasPitchOnTwoStoves_38 : decode cX3_hasPitchOnTwoStoves 38 = .ok (.iconst 1, 1) := by decide +kernel
theorem dX3_hasPitchOnTwoStoves_39 : decode cX3_hasPitchOnTwoStoves 39 = .ok (.aload_n 0, 1) := by decide +kernel
theorem dX3_hasPitchOnTwoStoves_40 : decode cX3_hasPitchOnTwoStoves 40 = .ok (.getfield 30, 3) := by decide +kernel
theorem dX3_hasPitchOnTwoStoves_43 : decode cX3_hasPitchOnTwoStoves 43 = .ok (.iload_n 2, 1) := by decide +kernel
theorem dX3_hasPitchOnTwoStoves_44 : decode cX3_hasPitchOnTwoStoves 44 = .ok (.iaload, 1) := by decide +kernel
theorem dX3_hasPitchOnTwoStoves_45 : decode cX3_hasPitchOnTwoStoves 45 = .ok (.ishl, 1) := by decide +kernel
theorem dX3_hasPitchOnTwoStoves_46 : decode cX3_hasPitchOnTwoStoves 46 = .ok (.ior, 1) := by decide +kernel
theorem dX3_hasPitchOnTwoStoves_47 : decode cX3_hasPitchOnTwoStoves 47 = .ok (.istore_n 1, 1) := by decide +kernel
theorem dX3_hasPitchOnTwoStoves_48 : decode cX3_hasPitchOnTwoStoves 48 = .ok (.iinc 2 1, 3) := by decide +kernel
theorem dX3_hasPitchOnTwoStoves_51 : decode cX3_hasPitchOnTwoStoves 51 = .ok (.goto (-47), 3) := by decide +kernel
theorem dX3_hasPitchOnTwoStoves_54 : decode cX3_hasPitchOnTwoStoves 54 = .ok (.iconst 0, 1) := by decide +kernel
theorem dX3_hasPitchOnTwoStoves_55 : decode cX3_hasPitchOnTwoStoves 55 = .ok (.ireturn, 1) := by decide +kernel
theorem dX3_countPitchesOf_0 : decode cX3_countPitchesOf 0 = .ok (.iconst 0, 1) := by decide +kernel
theorem dX3_countPitchesOf_1 : decode cX3_countPitchesOf 1 = .ok (.istore_n 2, 1) := by decide +kernel
theorem dX3_countPitchesOf_2 : decode cX3_countPitchesOf 2 = .ok (.iconst 1, 1) := by decide +kernel
theorem dX3_countPitchesOf_3 : decode cX3_countPitchesOf 3 = .ok (.istore_n 3, 1) := by decide +kernel
theorem dX3_countPitchesOf_4 : decode cX3_countPitchesOf 4 = .ok (.iload_n 3, 1) := by decide +kernel
theorem dX3_countPitchesOf_5 : decode cX3_countPitchesOf 5 = .ok (.bipush 12, 2) := by decide +kernel
theorem dX3_countPitchesOf_7 : decode cX3_countPitchesOf 7 = .ok (.if_icmp .gt 22, 3) := by decide +kernel
theorem dX3_countPitchesOf_10 : decode cX3_countPitchesOf 10 = .ok (.aload_n 0, 1) := by decide +kernel
theorem dX3_countPitchesOf_11 : decode cX3_countPitchesOf 11 = .ok (.getfield 9, 3) := by decide +kernel
theorem dX3_countPitchesOf_14 : decode cX3_countPitchesOf 14 = .ok (.iload_n 3, 1) := by decide +kernel
theorem dX3_countPitchesOf_15 : decode cX3_countPitchesOf 15 = .ok (.iaload, 1) := by decide +kernel
theorem dX3_countPitchesOf_16 : decode cX3_countPitchesOf 16 = .ok (.iload_n 1, 1) := by decide +kernel
theorem dX3_countPitchesOf_17 : decode cX3_countPitchesOf 17 = .ok (.if_icmp .ne 6, 3) := by decide +kernel
theorem dX3_countPitchesOf_20 : decode cX3_countPitchesOf 20 = .ok (.iinc 2 1, 3) := by decide +kernel
theorem dX3_countPitchesOf_23 : decode cX3_countPitchesOf 23 = .ok (.iinc 3 1, 3) := by decide +kernel
theorem dX3_countPitchesOf_26 : decode cX3_countPitchesOf 26 = .ok (.goto (-22), 3) := by decide +kernel
theorem dX3_countPitchesOf_29 : decode cX3_countPitchesOf 29 = .ok (.iload_n 2, 1) := by decide +kernel
theorem dX3_countPitchesOf_30 : decode cX3_countPitchesOf 30 = .ok (.ireturn, 1) := by decide +kernel
theorem dX3_countKettlesOf_0 : decode cX3_countKettlesOf 0 = .ok (.iconst 0, 1) := by decide +kernel
theorem dX3_countKettlesOf_1 : decode cX3_countKettlesOf 1 = .ok (.istore_n 2, 1) := by decide +kernel
theorem dX3_countKettlesOf_2 : decode cX3_countKettlesOf 2 = .ok (.iconst 0, 1) := by decide +kernel
theorem dX3_countKettlesOf_3 : decode cX3_countKettlesOf 3 = .ok (.istore_n 3, 1) := by decide +kernel
theorem dX3_countKettlesOf_4 : decode cX3_countKettlesOf 4 = .ok (.iload_n 3, 1) := by decide +kernel
theorem dX3_countKettlesOf_5 : decode cX3_countKettlesOf 5 = .ok (.aload_n 0, 1) := by decide +kernel
theorem dX3_countKettlesOf_6 : decode cX3_countKettlesOf 6 = .ok (.getfield 64, 3) := by decide +kernel
theorem dX3_countKettlesOf_9 : decode cX3_countKettlesOf 9 = .ok (.if_icmp .ge 22, 3) := by decide +kernel
theorem dX3_countKettlesOf_12 : decode cX3_countKettlesOf 12 = .ok (.aload_n 0, 1) := by decide +kernel
theorem dX3_countKettlesOf_13 : decode cX3_countKettlesOf 13 = .ok (.getfield 27, 3) := by decide +kernel
theorem dX3_countKettlesOf_16 : decode cX3_countKettlesOf 16 = .ok (.iload_n 3, 1) := by decide +kernel
theorem dX3_countKettlesOf_17 : decode cX3_countKettlesOf 17 = .ok (.iaload, 1) := by decide +kernel
theorem dX3_countKettlesOf_18 : decode cX3_countKettlesOf 18 = .ok (.iload_n 1, 1) := by decide +kernel
theorem dX3_countKettlesOf_19 : decode cX3_countKettlesOf 19 = .ok (.if_icmp .ne 6, 3) := by decide +kernel
theorem dX3_countKettlesOf_22 : decode cX3_countKettlesOf 22 = .ok (.iinc 2 1, 3) := by decide +kernel
theorem dX3_countKettlesOf_25 : decode cX3_countKettlesOf 25 = .ok (.iinc 3 1, 3) := by decide +kernel
theorem dX3_countKettlesOf_28 : decode cX3_countKettlesOf 28 = .ok (.goto (-24), 3) := by decide +kernel
theorem dX3_countKettlesOf_31 : decode cX3_countKettlesOf 31 = .ok (.iload_n 2, 1) := by decide +kernel
theorem dX3_countKettlesOf_32 : decode cX3_countKettlesOf 32 = .ok (.ireturn, 1) := by decide +kernel
theorem dX3_countWhistlersOf_0 : decode cX3_countWhistlersOf 0 = .ok (.aload_n 0, 1) := by decide +kernel
theorem dX3_countWhistlersOf_1 : decode cX3_countWhistlersOf 1 = .ok (.invokevirtual 110, 3) := by decide +kernel
theorem dX3_countWhistlersOf_4 : decode cX3_countWhistlersOf 4 = .ok (.istore_n 2, 1) := by decide +kernel
theorem dX3_countWhistlersOf_5 : decode cX3_countWhistlersOf 5 = .ok (.iconst 0, 1) := by decide +kernel
theorem dX3_countWhistlersOf_6 : decode cX3_countWhistlersOf 6 = .ok (.istore_n 3, 1) := by decide +kernel
theorem dX3_countWhistlersOf_7 : decode cX3_countWhistlersOf 7 = .ok (.iconst 0, 1) := by decide +kernel
theorem dX3_countWhistlersOf_8 : decode cX3_countWhistlersOf 8 = .ok (.istore 4, 2) := by decide +kernel
theorem dX3_countWhistlersOf_10 : decode cX3_countWhistlersOf 10 = .ok (.iload 4, 2) := by decide +kernel
theorem dX3_countWhistlersOf_12 : decode cX3_countWhistlersOf 12 = .ok (.aload_n 0, 1) := by decide +kernel
theorem dX3_countWhistlersOf_13 : decode cX3_countWhistlersOf 13 = .ok (.getfield 64, 3) := by decide +kernel
theorem dX3_countWhistlersOf_16 : decode cX3_countWhistlersOf 16 = .ok (.if_icmp .ge 32, 3) := by decide +kernel
theorem dX3_countWhistlersOf_19 : decode cX3_countWhistlersOf 19 = .ok (.aload_n 0, 1) := by decide +kernel
theorem dX3_countWhistlersOf_20 : decode cX3_countWhistlersOf 20 = .ok (.getfield 27, 3) := by decide +kernel
theorem dX3_countWhistlersOf_23 : decode cX3_countWhistlersOf 23 = .ok (.iload 4, 2) := by decide +kernel
theorem dX3_countWhistlersOf_25 : decode cX3_countWhistlersOf 25 = .ok (.iaload, 1) := by decide +kernel
theorem dX3_countWhistlersOf_26 : decode cX3_countWhistlersOf 26 = .ok (.iload_n 1, 1) := by decide +kernel
theorem dX3_countWhistlersOf_27 : decode cX3_countWhistlersOf 27 = .ok (.if_icmp .ne 15, 3) := by decide +kernel
theorem dX3_countWhistlersOf_30 : decode cX3_countWhistlersOf 30 = .ok (.iload_n 2, 1) := by decide +kernel
theorem dX3_countWhistlersOf_31 : decode cX3_countWhistlersOf 31 = .ok (.iload 4, 2) := by decide +kernel
theorem dX3_countWhistlersOf_33 : decode cX3_countWhistlersOf 33 = .ok (.invokestatic 114, 3) := by decide +kernel
theorem dX3_countWhistlersOf_36 : decode cX3_countWhistlersOf 36 = .ok (.ifCond .eq 6, 3) := by decide +kernel
theorem dX3_countWhistlersOf_39 : decode cX3_countWhistlersOf 39 = .ok (.iinc 3 1, 3) := by decide +kernel
theorem dX3_countWhistlersOf_42 : decode cX3_countWhistlersOf 42 = .ok (.iinc 4 1, 3) := by decide +kernel
theorem dX3_countWhistlersOf_45 : decode cX3_countWhistlersOf 45 = .ok (.goto (-35), 3) := by decide +kernel
theorem dX3_countWhistlersOf_48 : decode cX3_countWhistlersOf 48 = .ok (.iload_n 3, 1) := by decide +kernel
theorem dX3_countWhistlersOf_49 : decode cX3_countWhistlersOf 49 = .ok (.ireturn, 1) := by decide +kernel
theorem dX3_countOnStoves_0 : decode cX3_countOnStoves 0 = .ok (.iconst 0, 1) := by decide +kernel
theorem dX3_countOnStoves_1 : decode cX3_countOnStoves 1 = .ok (.istore_n 1, 1) := by decide +kernel
theorem dX3_countOnStoves_2 : decode cX3_countOnStoves 2 = .ok (.iconst 0, 1) := by decide +kernel
theorem dX3_countOnStoves_3 : decode cX3_countOnStoves 3 = .ok (.istore_n 2, 1) := by decide +kernel
theorem dX3_countOnStoves_4 : decode cX3_countOnStoves 4 = .ok (.iload_n 2, 1) := by decide +kernel
theorem dX3_countOnStoves_5 : decode cX3_countOnStoves 5 = .ok (.aload_n 0, 1) := by decide +kernel
theorem dX3_countOnStoves_6 : decode cX3_countOnStoves 6 = .ok (.getfield 64, 3) := by decide +kernel
theorem dX3_countOnStoves_9 : decode cX3_countOnStoves 9 = .ok (.if_icmp .ge 22, 3) := by decide +kernel
theorem dX3_countOnStoves_12 : decode cX3_countOnStoves 12 = .ok (.aload_n 0, 1) := by decide +kernel
theorem dX3_countOnStoves_13 : decode cX3_countOnStoves 13 = .ok (.getfield 39, 3) := by decide +kernel
theorem dX3_countOnStoves_16 : decode cX3_countOnStoves 16 = .ok (.iload_n 2, 1) := by decide +kernel
theorem dX3_countOnStoves_17 : decode cX3_countOnStoves 17 = .ok (.iaload, 1) := by decide +kernel
theorem dX3_countOnStoves_18 : decode cX3_countOnStoves 18 = .ok (.iconst (-1), 1) := by decide +kernel
theorem dX3_countOnStoves_19 : decode cX3_countOnStoves 19 = .ok (.if_icmp .eq 6, 3) := by decide +kernel
theorem dX3_countOnStoves_22 : decode cX3_countOnStoves 22 = .ok (.iinc 1 1, 3) := by decide +kernel
theorem dX3_countOnStoves_25 : decode cX3_countOnStoves 25 = .ok (.iinc 2 1, 3) := by decide +kernel
theorem dX3_countOnStoves_28 : decode cX3_countOnStoves 28 = .ok (.goto (-24), 3) := by decide +kernel
theorem dX3_countOnStoves_31 : decode cX3_countOnStoves 31 = .ok (.iload_n 1, 1) := by decide +kernel
theorem dX3_countOnStoves_32 : decode cX3_countOnStoves 32 = .ok (.ireturn, 1) := by decide +kernel
theorem dX3_countBoiling_0 : decode cX3_countBoiling 0 = .ok (.iconst 0, 1) := by decide +kernel
theorem dX3_countBoiling_1 : decode cX3_countBoiling 1 = .ok (.istore_n 1, 1) := by decide +kernel
theorem dX3_countBoiling_2 : decode cX3_countBoiling 2 = .ok (.iconst 0, 1) := by decide +kernel
theorem dX3_countBoiling_3 : decode cX3_countBoiling 3 = .ok (.istore_n 2, 1) := by decide +kernel
theorem dX3_countBoiling_4 : decode cX3_countBoiling 4 = .ok (.iload_n 2, 1) := by decide +kernel
theorem dX3_countBoiling_5 : decode cX3_countBoiling 5 = .ok (.aload_n 0, 1) := by decide +kernel
theorem dX3_countBoiling_6 : decode cX3_countBoiling 6 = .ok (.getfield 64, 3) := by decide +kernel
theorem dX3_countBoiling_9 : decode cX3_countBoiling 9 = .ok (.if_icmp .ge 20, 3) := by decide +kernel
theorem dX3_countBoiling_12 : decode cX3_countBoiling 12 = .ok (.aload_n 0, 1) := by decide +kernel
theorem dX3_countBoiling_13 : decode cX3_countBoiling 13 = .ok (.iload_n 2, 1) := by decide +kernel
theorem dX3_countBoiling_14 : decode cX3_countBoiling 14 = .ok (.invokevirtual 93, 3) := by decide +kernel
theorem dX3_countBoiling_17 : decode cX3_countBoiling 17 = .ok (.ifCond .eq 6, 3) := by decide +kernel
theorem dX3_countBoiling_20 : decode cX3_countBoiling 20 = .ok (.iinc 1 1, 3) := by decide +kernel
theorem dX3_countBoiling_23 : decode cX3_countBoiling 23 = .ok (.iinc 2 1, 3) := by decide +kernel
theorem dX3_countBoiling_26 : decode cX3_countBoiling 26 = .ok (.goto (-22), 3) := by decide +kernel
theorem dX3_countBoiling_29 : decode cX3_countBoiling 29 = .ok (.iload_n 1, 1) := by decide +kernel
theorem dX3_countBoiling_30 : decode cX3_countBoiling 30 = .ok (.ireturn, 1) := by decide +kernel
theorem dX3_countLidsOn_0 : decode cX3_countLidsOn 0 = .ok (.iconst 0, 1) := by decide +kernel
theorem dX3_countLidsOn_1 : decode cX3_countLidsOn 1 = .ok (.istore_n 1, 1) := by decide +kernel
theorem dX3_countLidsOn_2 : decode cX3_countLidsOn 2 = .ok (.iconst 0, 1) := by decide +kernel
theorem dX3_countLidsOn_3 : decode cX3_countLidsOn 3 = .ok (.istore_n 2, 1) := by decide +kernel
theorem dX3_countLidsOn_4 : decode cX3_countLidsOn 4 = .ok (.iload_n 2, 1) := by decide +kernel
theorem dX3_countLidsOn_5 : decode cX3_countLidsOn 5 = .ok (.aload_n 0, 1) := by decide +kernel
theorem dX3_countLidsOn_6 : decode cX3_countLidsOn 6 = .ok (.getfield 64, 3) := by decide +kernel
theorem dX3_countLidsOn_9 : decode cX3_countLidsOn 9 = .ok (.if_icmp .ge 18, 3) := by decide +kernel
theorem dX3_countLidsOn_12 : decode cX3_countLidsOn 12 = .ok (.iload_n 1, 1) := by decide +kernel
theorem dX3_countLidsOn_13 : decode cX3_countLidsOn 13 = .ok (.aload_n 0, 1) := by decide +kernel
theorem dX3_countLidsOn_14 : decode cX3_countLidsOn 14 = .ok (.getfield 45, 3) := by decide +kernel
theorem dX3_countLidsOn_17 : decode cX3_countLidsOn 17 = .ok (.iload_n 2, 1) := by decide +kernel
theorem dX3_countLidsOn_18 : decode cX3_countLidsOn 18 = .ok (.iaload, 1) := by decide +kernel
theorem dX3_countLidsOn_19 : decode cX3_countLidsOn 19 = .ok (.iadd, 1) := by decide +kernel
theorem dX3_countLidsOn_20 : decode cX3_countLidsOn 20 = .ok (.istore_n 1, 1) := by decide +kernel
theorem dX3_countLidsOn_21 : decode cX3_countLidsOn 21 = .ok (.iinc 2 1, 3) := by decide +kernel
theorem dX3_countLidsOn_24 : decode cX3_countLidsOn 24 = .ok (.goto (-20), 3) := by decide +kernel
theorem dX3_countLidsOn_27 : decode cX3_countLidsOn 27 = .ok (.iload_n 1, 1) := by decide +kernel
theorem dX3_countLidsOn_28 : decode cX3_countLidsOn 28 = .ok (.ireturn, 1) := by decide +kernel
theorem dX3_countLidsBarred_0 : decode cX3_countLidsBarred 0 = .ok (.iconst 0, 1) := by decide +kernel
theorem dX3_countLidsBarred_1 : decode cX3_countLidsBarred 1 = .ok (.istore_n 1, 1) := by decide +kernel
theorem dX3_countLidsBarred_2 : decode cX3_countLidsBarred 2 = .ok (.iconst 0, 1) := by decide +kernel
theorem dX3_countLidsBarred_3 : decode cX3_countLidsBarred 3 = .ok (.istore_n 2, 1) := by decide +kernel
theorem dX3_countLidsBarred_4 : decode cX3_countLidsBarred 4 = .ok (.iload_n 2, 1) := by decide +kernel
theorem dX3_countLidsBarred_5 : decode cX3_countLidsBarred 5 = .ok (.aload_n 0, 1) := by decide +kernel
theorem dX3_countLidsBarred_6 : decode cX3_countLidsBarred 6 = .ok (.getfield 64, 3) := by decide +kernel
theorem dX3_countLidsBarred_9 : decode cX3_countLidsBarred 9 = .ok (.if_icmp .ge 18, 3) := by decide +kernel
theorem dX3_countLidsBarred_12 : decode cX3_countLidsBarred 12 = .ok (.iload_n 1, 1) := by decide +kernel
theorem dX3_countLidsBarred_13 : decode cX3_countLidsBarred 13 = .ok (.aload_n 0, 1) := by decide +kernel
theorem dX3_countLidsBarred_14 : decode cX3_countLidsBarred 14 = .ok (.getfield 48, 3) := by decide +kernel
theorem dX3_countLidsBarred_17 : decode cX3_countLidsBarred 17 = .ok (.iload_n 2, 1) := by decide +kernel
theorem dX3_countLidsBarred_18 : decode cX3_countLidsBarred 18 = .ok (.iaload, 1) := by decide +kernel
theorem dX3_countLidsBarred_19 : decode cX3_countLidsBarred 19 = .ok (.iadd, 1) := by decide +kernel
theorem dX3_countLidsBarred_20 : decode cX3_countLidsBarred 20 = .ok (.istore_n 1, 1) := by decide +kernel
theorem dX3_countLidsBarred_21 : decode cX3_countLidsBarred 21 = .ok (.iinc 2 1, 3) := by decide +kernel
theorem dX3_countLidsBarred_24 : decode cX3_countLidsBarred 24 = .ok (.goto (-20), 3) := by decide +kernel
theorem dX3_countLidsBarred_27 : decode cX3_countLidsBarred 27 = .ok (.iload_n 1, 1) := by decide +kernel
theorem dX3_countLidsBarred_28 : decode cX3_countLidsBarred 28 = .ok (.ireturn, 1) := by decide +kernel
theorem dX3_sumWater_0 : decode cX3_sumWater 0 = .ok (.iconst 0, 1) := by decide +kernel
theorem dX3_sumWater_1 : decode cX3_sumWater 1 = .ok (.istore_n 1, 1) := by decide +kernel
theorem dX3_sumWater_2 : decode cX3_sumWater 2 = .ok (.iconst 0, 1) := by decide +kernel
theorem dX3_sumWater_3 : decode cX3_sumWater 3 = .ok (.istore_n 2, 1) := by decide +kernel
theorem dX3_sumWater_4 : decode cX3_sumWater 4 = .ok (.iload_n 2, 1) := by decide +kernel
theorem dX3_sumWater_5 : decode cX3_sumWater 5 = .ok (.aload_n 0, 1) := by decide +kernel
theorem dX3_sumWater_6 : decode cX3_sumWater 6 = .ok (.getfield 64, 3) := by decide +kernel
theorem dX3_sumWater_9 : decode cX3_sumWater 9 = .ok (.if_icmp .ge 18, 3) := by decide +kernel
theorem dX3_sumWater_12 : decode cX3_sumWater 12 = .ok (.iload_n 1, 1) := by decide +kernel
theorem dX3_sumWater_13 : decode cX3_sumWater 13 = .ok (.aload_n 0, 1) := by decide +kernel
theorem dX3_sumWater_14 : decode cX3_sumWater 14 = .ok (.getfield 33, 3) := by decide +kernel
theorem dX3_sumWater_17 : decode cX3_sumWater 17 = .ok (.iload_n 2, 1) := by decide +kernel
theorem dX3_sumWater_18 : decode cX3_sumWater 18 = .ok (.iaload, 1) := by decide +kernel
theorem dX3_sumWater_19 : decode cX3_sumWater 19 = .ok (.iadd, 1) := by decide +kernel
theorem dX3_sumWater_20 : decode cX3_sumWater 20 = .ok (.istore_n 1, 1) := by decide +kernel
theorem dX3_sumWater_21 : decode cX3_sumWater 21 = .ok (.iinc 2 1, 3) := by decide +kernel
theorem dX3_sumWater_24 : decode cX3_sumWater 24 = .ok (.goto (-20), 3) := by decide +kernel
theorem dX3_sumWater_27 : decode cX3_sumWater 27 = .ok (.iload_n 1, 1) := by decide +kernel
theorem dX3_sumWater_28 : decode cX3_sumWater 28 = .ok (.ireturn, 1) := by decide +kernel
end
section
theorem dL_law_0 : decode cL_law 0 = .ok (.new 7, 3) := by decide +kernel
theorem dL_law_3 : decode cL_law 3 = .ok (.dup, 1) := by decide +kernel
theorem dL_law_4 : decode cL_law 4 = .ok (.invokespecial 9, 3) := by decide +kernel
theorem dL_law_7 : decode cL_law 7 = .ok (.astore_n 1, 1) := by decide +kernel
theorem dL_law_8 : decode cL_law 8 = .ok (.new 10, 3) := by decide +kernel
theorem dL_law_11 : decode cL_law 11 = .ok (.dup, 1) := by decide +kernel
theorem dL_law_12 : decode cL_law 12 = .ok (.invokespecial 12, 3) := by decide +kernel
theorem dL_law_15 : decode cL_law 15 = .ok (.astore_n 2, 1) := by decide +kernel
theorem dL_law_16 : decode cL_law 16 = .ok (.iconst 0, 1) := by decide +kernel
theorem dL_law_17 : decode cL_law 17 = .ok (.istore_n 3, 1) := by decide +kernel
theorem dL_law_18 : decode cL_law 18 = .ok (.iload_n 3, 1) := by decide +kernel
theorem dL_law_19 : decode cL_law 19 = .ok (.aload_n 0, 1) := by decide +kernel
theorem dL_law_20 : decode cL_law 20 = .ok (.arraylength, 1) := by decide +kernel
theorem dL_law_21 : decode cL_law 21 = .ok (.iconst 4, 1) := by decide +kernel
theorem dL_law_22 : decode cL_law 22 = .ok (.isub, 1) := by decide +kernel
theorem dL_law_23 : decode cL_law 23 = .ok (.if_icmp .gt 1066, 3) := by decide +kernel
theorem dL_law_26 : decode cL_law 26 = .ok (.aload_n 0, 1) := by decide +kernel
theorem dL_law_27 : decode cL_law 27 = .ok (.iload_n 3, 1) := by decide +kernel
theorem dL_law_28 : decode cL_law 28 = .ok (.iaload, 1) := by decide +kernel
theorem dL_law_29 : decode cL_law 29 = .ok (.bipush 63, 2) := by decide +kernel
theorem dL_law_31 : decode cL_law 31 = .ok (.iand, 1) := by decide +kernel
theorem dL_law_32 : decode cL_law 32 = .ok (.tableswitch 1051 0 34 #[156, 189, 212, 255, 288, 321, 354, 377, 410, 443, 476, 525, 548, 561, 574, 587, 610, 633, 656, 669, 702, 725, 748, 771, 784, 807, 820, 843, 892, 915, 928, 969, 1012, 1025, 1038], 156) := by decide +kernel
theorem dL_law_188 : decode cL_law 188 = .ok (.aload_n 1, 1) := by decide +kernel
theorem dL_law_189 : decode cL_law 189 = .ok (.aload_n 0, 1) := by decide +kernel
theorem dL_law_190 : decode cL_law 190 = .ok (.iload_n 3, 1) := by decide +kernel
theorem dL_law_191 : decode cL_law 191 = .ok (.iconst 1, 1) := by decide +kernel
theorem dL_law_192 : decode cL_law 192 = .ok (.iadd, 1) := by decide +kernel
theorem dL_law_193 : decode cL_law 193 = .ok (.iaload, 1) := by decide +kernel
theorem dL_law_194 : decode cL_law 194 = .ok (.aload_n 0, 1) := by decide +kernel
theorem dL_law_195 : decode cL_law 195 = .ok (.iload_n 3, 1) := by decide +kernel
theorem dL_law_196 : decode cL_law 196 = .ok (.iconst 2, 1) := by decide +kernel
theorem dL_law_197 : decode cL_law 197 = .ok (.iadd, 1) := by decide +kernel
theorem dL_law_198 : decode cL_law 198 = .ok (.iaload, 1) := by decide +kernel
theorem dL_law_199 : decode cL_law 199 = .ok (.invokevirtual 13, 3) := by decide +kernel
theorem dL_law_202 : decode cL_law 202 = .ok (.aload_n 2, 1) := by decide +kernel
theorem dL_law_203 : decode cL_law 203 = .ok (.aload_n 0, 1) := by decide +kernel
theorem dL_law_204 : decode cL_law 204 = .ok (.iload_n 3, 1) := by decide +kernel
theorem dL_law_205 : decode cL_law 205 = .ok (.iconst 1, 1) := by decide +kernel
theorem dL_law_206 : decode cL_law 206 = .ok (.iadd, 1) := by decide +kernel
theorem dL_law_207 : decode cL_law 207 = .ok (.iaload, 1) := by decide +kernel
theorem dL_law_208 : decode cL_law 208 = .ok (.aload_n 0, 1) := by decide +kernel
theorem dL_law_209 : decode cL_law 209 = .ok (.iload_n 3, 1) := by decide +kernel
theorem dL_law_210 : decode cL_law 210 = .ok (.iconst 2, 1) := by decide +kernel
theorem dL_law_211 : decode cL_law 211 = .ok (.iadd, 1) := by decide +kernel
theorem dL_law_212 : decode cL_law 212 = .ok (.iaload, 1) := by decide +kernel
theorem dL_law_213 : decode cL_law 213 = .ok (.invokevirtual 17, 3) := by decide +kernel
theorem dL_law_216 : decode cL_law 216 = .ok (.if_icmp .eq 867, 3) := by decide +kernel
theorem dL_law_219 : decode cL_law 219 = .ok (.iconst 0, 1) := by decide +kernel
theorem dL_law_220 : decode cL_law 220 = .ok (.ireturn, 1) := by decide +kernel
theorem dL_law_221 : decode cL_law 221 = .ok (.aload_n 1, 1) := by decide +kernel
theorem dL_law_222 : decode cL_law 222 = .ok (.aload_n 0, 1) := by decide +kernel
theorem dL_law_223 : decode cL_law 223 = .ok (.iload_n 3, 1) := by decide +kernel
theorem dL_law_224 : decode cL_law 224 = .ok (.iconst 1, 1) := by decide +kernel
theorem dL_law_225 : decode cL_law 225 = .ok (.iadd, 1) := by decide +kernel
theorem dL_law_226 : decode cL_law 226 = .ok (.iaload, 1) := by decide +kernel
theorem dL_law_227 : decode cL_law 227 = .ok (.invokevirtual 18, 3) := by decide +kernel
theorem dL_law_230 : decode cL_law 230 = .ok (.aload_n 2, 1) := by decide +kernel
theorem dL_law_231 : decode cL_law 231 = .ok (.aload_n 0, 1) := by decide +kernel
theorem dL_law_232 : decode cL_law 232 = .ok (.iload_n 3, 1) := by decide +kernel
theorem dL_law_233 : decode cL_law 233 = .ok (.iconst 1, 1) := by decide +kernel
theorem dL_law_234 : decode cL_law 234 = .ok (.iadd, 1) := by decide +kernel
theorem dL_law_235 : decode cL_law 235 = .ok (.iaload, 1) := by decide +kernel
theorem dL_law_236 : decode cL_law 236 = .ok (.invokevirtual 22, 3) := by decide +kernel
theorem dL_law_239 : decode cL_law 239 = .ok (.if_icmp .eq 844, 3) := by decide +kernel
theorem dL_law_242 : decode cL_law 242 = .ok (.iconst 0, 1) := by decide +kernel
theorem dL_law_243 : decode cL_law 243 = .ok (.ireturn, 1) := by decide +kernel
theorem dL_law_244 : decode cL_law 244 = .ok (.aload_n 1, 1) := by decide +kernel
theorem dL_law_245 : decode cL_law 245 = .ok (.aload_n 0, 1) := by decide +kernel
theorem dL_law_246 : decode cL_law 246 = .ok (.iload_n 3, 1) := by decide +kernel
theorem dL_law_247 : decode cL_law 247 = .ok (.iconst 1, 1) := by decide +kernel
theorem dL_law_248 : decode cL_law 248 = .ok (.iadd, 1) := by decide +kernel
theorem dL_law_249 : decode cL_law 249 = .ok (.iaload, 1) := by decide +kernel
theorem dL_law_250 : decode cL_law 250 = .ok (.aload_n 0, 1) := by decide +kernel
theorem dL_law_251 : decode cL_law 251 = .ok (.iload_n 3, 1) := by decide +kernel
theorem dL_law_252 : decode cL_law 252 = .ok (.iconst 2, 1) := by decide +kernel
theorem dL_law_253 : decode cL_law 253 = .ok (.iadd, 1) := by decide +kernel
theorem dL_law_254 : decode cL_law 254 = .ok (.iaload, 1) := by decide +kernel
theorem dL_law_255 : decode cL_law 255 = .ok (.aload_n 0, 1) := by decide +kernel
theorem dL_law_256 : decode cL_law 256 = .ok (.iload_n 3, 1) := by decide +kernel
theorem dL_law_257 : decode cL_law 257 = .ok (.iconst 3, 1) := by decide +kernel
theorem dL_law_258 : decode cL_law 258 = .ok (.iadd, 1) := by decide +kernel
theorem dL_law_259 : decode cL_law 259 = .ok (.iaload, 1) := by decide +kernel
theorem dL_law_260 : decode cL_law 260 = .ok (.invokevirtual 23, 3) := by decide +kernel
theorem dL_law_263 : decode cL_law 263 = .ok (.aload_n 2, 1) := by decide +kernel
theorem dL_law_264 : decode cL_law 264 = .ok (.aload_n 0, 1) := by decide +kernel
theorem dL_law_265 : decode cL_law 265 = .ok (.iload_n 3, 1) := by decide +kernel
theorem dL_law_266 : decode cL_law 266 = .ok (.iconst 1, 1) := by decide +kernel
theorem dL_law_267 : decode cL_law 267 = .ok (.iadd, 1) := by decide +kernel
theorem dL_law_268 : decode cL_law 268 = .ok (.iaload, 1) := by decide +kernel
theorem dL_law_269 : decode cL_law 269 = .ok (.aload_n 0, 1) := by decide +kernel
theorem dL_law_270 : decode cL_law 270 = .ok (.iload_n 3, 1) := by decide +kernel
theorem dL_law_271 : decode cL_law 271 = .ok (.iconst 2, 1) := by decide +kernel
theorem dL_law_272 : decode cL_law 272 = .ok (.iadd, 1) := by decide +kernel
theorem dL_law_273 : decode cL_law 273 = .ok (.iaload, 1) := by decide +kernel
theorem dL_law_274 : decode cL_law 274 = .ok (.aload_n 0, 1) := by decide +kernel
theorem dL_law_275 : decode cL_law 275 = .ok (.iload_n 3, 1) := by decide +kernel
theorem dL_law_276 : decode cL_law 276 = .ok (.iconst 3, 1) := by decide +kernel
theorem dL_law_277 : decode cL_law 277 = .ok (.iadd, 1) := by decide +kernel
theorem dL_law_278 : decode cL_law 278 = .ok (.iaload, 1) := by decide +kernel
theorem dL_law_279 : decode cL_law 279 = .ok (.invokevirtual 27, 3) := by decide +kernel
theorem dL_law_282 : decode cL_law 282 = .ok (.if_icmp .eq 801, 3) := by decide +kernel
theorem dL_law_285 : decode cL_law 285 = .ok (.iconst 0, 1) := by decide +kernel
theorem dL_law_286 : decode cL_law 286 = .ok (.ireturn, 1) := by decide +kernel
theorem dL_law_287 : decode cL_law 287 = .ok (.aload_n 1, 1) := by decide +kernel
theorem dL_law_288 : decode cL_law 288 = .ok (.aload_n 0, 1) := by decide +kernel
theorem dL_law_289 : decode cL_law 289 = .ok (.iload_n 3, 1) := by decide +kernel
theorem dL_law_290 : decode cL_law 290 = .ok (.iconst 1, 1) := by decide +kernel
theorem dL_law_291 : decode cL_law 291 = .ok (.iadd, 1) := by decide +kernel
theorem dL_law_292 : decode cL_law 292 = .ok (.iaload, 1) := by decide +kernel
theorem dL_law_293 : decode cL_law 293 = .ok (.aload_n 0, 1) := by decide +kernel
theorem dL_law_294 : decode cL_law 294 = .ok (.iload_n 3, 1) := by decide +kernel
theorem dL_law_295 : decode cL_law 295 = .ok (.iconst 2, 1) := by decide +kernel
theorem dL_law_296 : decode cL_law 296 = .ok (.iadd, 1) := by decide +kernel
theorem dL_law_297 : decode cL_law 297 = .ok (.iaload, 1) := by decide +kernel
theorem dL_law_298 : decode cL_law 298 = .ok (.invokevirtual 28, 3) := by decide +kernel
theorem dL_law_301 : decode cL_law 301 = .ok (.aload_n 2, 1) := by decide +kernel
theorem dL_law_302 : decode cL_law 302 = .ok (.aload_n 0, 1) := by decide +kernel
theorem dL_law_303 : decode cL_law 303 = .ok (.iload_n 3, 1) := by decide +kernel
theorem dL_law_304 : decode cL_law 304 = .ok (.iconst 1, 1) := by decide +kernel
theorem dL_law_305 : decode cL_law 305 = .ok (.iadd, 1) := by decide +kernel
theorem dL_law_306 : decode cL_law 306 = .ok (.iaload, 1) := by decide +kernel
theorem dL_law_307 : decode cL_law 307 = .ok (.aload_n 0, 1) := by decide +kernel
theorem dL_law_308 : decode cL_law 308 = .ok (.iload_n 3, 1) := by decide +kernel
theorem dL_law_309 : decode cL_law 309 = .ok (.iconst 2, 1) := by decide +kernel
theorem dL_law_310 : decode cL_law 310 = .ok (.iadd, 1) := by decide +kernel
theorem dL_law_311 : decode cL_law 311 = .ok (.iaload, 1) := by decide +kernel
theorem dL_law_312 : decode cL_law 312 = .ok (.invokevirtual 31, 3) := by decide +kernel
theorem dL_law_315 : decode cL_law 315 = .ok (.if_icmp .eq 768, 3) := by decide +kernel
theorem dL_law_318 : decode cL_law 318 = .ok (.iconst 0, 1) := by decide +kernel
theorem dL_law_319 : decode cL_law 319 = .ok (.ireturn, 1) := by decide +kernel
theorem dL_law_320 : decode cL_law 320 = .ok (.aload_n 1, 1) := by decide +kernel
theorem dL_law_321 : decode cL_law 321 = .ok (.aload_n 0, 1) := by decide +kernel
theorem dL_law_322 : decode cL_law 322 = .ok (.iload_n 3, 1) := by decide +kernel
theorem dL_law_323 : decode cL_law 323 = .ok (.iconst 1, 1) := by decide +kernel
theorem dL_law_324 : decode cL_law 324 = .ok (.iadd, 1) := by decide +kernel
theorem dL_law_325 : decode cL_law 325 = .ok (.iaload, 1) := by decide +kernel
theorem dL_law_326 : decode cL_law 326 = .ok (.aload_n 0, 1) := by decide +kernel
theorem dL_law_327 : decode cL_law 327 = .ok (.iload_n 3, 1) := by decide +kernel
theorem dL_law_328 : decode cL_law 328 = .ok (.iconst 2, 1) := by decide +kernel
theorem dL_law_329 : decode cL_law 329 = .ok (.iadd, 1) := by decide +kernel
theorem dL_law_330 : decode cL_law 330 = .ok (.iaload, 1) := by decide +kernel
theorem dL_law_331 : decode cL_law 331 = .ok (.invokevirtual 32, 3) := by decide +kernel
theorem dL_law_334 : decode cL_law 334 = .ok (.aload_n 2, 1) := by decide +kernel
theorem dL_law_335 : decode cL_law 335 = .ok (.aload_n 0, 1) := by decide +kernel
theorem dL_law_336 : decode cL_law 336 = .ok (.iload_n 3, 1) := by decide +kernel
theorem dL_law_337 : decode cL_law 337 = .ok (.iconst 1, 1) := by decide +kernel
theorem dL_law_338 : decode cL_law 338 = .ok (.iadd, 1) := by decide +kernel
theorem dL_law_339 : decode cL_law 339 = .ok (.iaload, 1) := by decide +kernel
theorem dL_law_340 : decode cL_law 340 = .ok (.aload_n 0, 1) := by decide +kernel
theorem dL_law_341 : decode cL_law 341 = .ok (.iload_n 3, 1) := by decide +kernel
theorem dL_law_342 : decode cL_law 342 = .ok (.iconst 2, 1) := by decide +kernel
theorem dL_law_343 : decode cL_law 343 = .ok (.iadd, 1) := by decide +kernel
theorem dL_law_344 : decode cL_law 344 = .ok (.iaload, 1) := by decide +kernel
theorem dL_law_345 : decode cL_law 345 = .ok (.invokevirtual 35, 3) := by decide +kernel
theorem dL_law_348 : decode cL_law 348 = .ok (.if_icmp .eq 735, 3) := by decide +kernel
theorem dL_law_351 : decode cL_law 351 = .ok (.iconst 0, 1) := by decide +kernel
theorem dL_law_352 : decode cL_law 352 = .ok (.ireturn, 1) := by decide +kernel
theorem dL_law_353 : decode cL_law 353 = .ok (.aload_n 1, 1) := by decide +kernel
theorem dL_law_354 : decode cL_law 354 = .ok (.aload_n 0, 1) := by decide +kernel
theorem dL_law_355 : decode cL_law 355 = .ok (.iload_n 3, 1) := by decide +kernel
theorem dL_law_356 : decode cL_law 356 = .ok (.iconst 1, 1) := by decide +kernel
theorem dL_law_357 : decode cL_law 357 = .ok (.iadd, 1) := by decide +kernel
theorem dL_law_358 : decode cL_law 358 = .ok (.iaload, 1) := by decide +kernel
theorem dL_law_359 : decode cL_law 359 = .ok (.aload_n 0, 1) := by decide +kernel
theorem dL_law_360 : decode cL_law 360 = .ok (.iload_n 3, 1) := by decide +kernel
theorem dL_law_361 : decode cL_law 361 = .ok (.iconst 2, 1) := by decide +kernel
theorem dL_law_362 : decode cL_law 362 = .ok (.iadd, 1) := by decide +kernel
theorem dL_law_363 : decode cL_law 363 = .ok (.iaload, 1) := by decide +kernel
theorem dL_law_364 : decode cL_law 364 = .ok (.invokevirtual 36, 3) := by decide +kernel
theorem dL_law_367 : decode cL_law 367 = .ok (.aload_n 2, 1) := by decide +kernel
theorem dL_law_368 : decode cL_law 368 = .ok (.aload_n 0, 1) := by decide +kernel
theorem dL_law_369 : decode cL_law 369 = .ok (.iload_n 3, 1) := by decide +kernel
theorem dL_law_370 : decode cL_law 370 = .ok (.iconst 1, 1) := by decide +kernel
theorem dL_law_371 : decode cL_law 371 = .ok (.iadd, 1) := by decide +kernel
theorem dL_law_372 : decode cL_law 372 = .ok (.iaload, 1) := by decide +kernel
theorem dL_law_373 : decode cL_law 373 = .ok (.aload_n 0, 1) := by decide +kernel
theorem dL_law_374 : decode cL_law 374 = .ok (.iload_n 3, 1) := by decide +kernel
theorem dL_law_375 : decode cL_law 375 = .ok (.iconst 2, 1) := by decide +kernel
theorem dL_law_376 : decode cL_law 376 = .ok (.iadd, 1) := by decide +kernel
theorem dL_law_377 : decode cL_law 377 = .ok (.iaload, 1) := by decide +kernel
theorem dL_law_378 : decode cL_law 378 = .ok (.invokevirtual 39, 3) := by decide +kernel
theorem dL_law_381 : decode cL_law 381 = .ok (.if_icmp .eq 702, 3) := by decide +kernel
theorem dL_law_384 : decode cL_law 384 = .ok (.iconst 0, 1) := by decide +kernel
theorem dL_law_385 : decode cL_law 385 = .ok (.ireturn, 1) := by decide +kernel
theorem dL_law_386 : decode cL_law 386 = .ok (.aload_n 1, 1) := by decide +kernel
theorem dL_law_387 : decode cL_law 387 = .ok (.aload_n 0, 1) := by decide +kernel
theorem dL_law_388 : decode cL_law 388 = .ok (.iload_n 3, 1) := by decide +kernel
theorem dL_law_389 : decode cL_law 389 = .ok (.iconst 1, 1) := by decide +kernel
theorem dL_law_390 : decode cL_law 390 = .ok (.iadd, 1) := by decide +kernel
theorem dL_law_391 : decode cL_law 391 = .ok (.iaload, 1) := by decide +kernel
theorem dL_law_392 : decode cL_law 392 = .ok (.invokevirtual 40, 3) := by decide +kernel
theorem dL_law_395 : decode cL_law 395 = .ok (.aload_n 2, 1) := by decide +kernel
theorem dL_law_396 : decode cL_law 396 = .ok (.aload_n 0, 1) := by decide +kernel
theorem dL_law_397 : decode cL_law 397 = .ok (.iload_n 3, 1) := by decide +kernel
theorem dL_law_398 : decode cL_law 398 = .ok (.iconst 1, 1) := by decide +kernel
theorem dL_law_399 : decode cL_law 399 = .ok (.iadd, 1) := by decide +kernel
theorem dL_law_400 : decode cL_law 400 = .ok (.iaload, 1) := by decide +kernel
theorem dL_law_401 : decode cL_law 401 = .ok (.invokevirtual 43, 3) := by decide +kernel
theorem dL_law_404 : decode cL_law 404 = .ok (.if_icmp .eq 679, 3) := by decide +kernel
theorem dL_law_407 : decode cL_law 407 = .ok (.iconst 0, 1) := by decide +kernel
theorem dL_law_408 : decode cL_law 408 = .ok (.ireturn, 1) := by decide +kernel
theorem dL_law_409 : decode cL_law 409 = .ok (.aload_n 1, 1) := by decide +kernel
theorem dL_law_410 : decode cL_law 410 = .ok (.aload_n 0, 1) := by decide +kernel
theorem dL_law_411 : decode cL_law 411 = .ok (.iload_n 3, 1) := by decide +kernel
theorem dL_law_412 : decode cL_law 412 = .ok (.iconst 1, 1) := by decide +kernel
theorem dL_law_413 : decode cL_law 413 = .ok (.iadd, 1) := by decide +kernel
theorem dL_law_414 : decode cL_law 414 = .ok (.iaload, 1) := by decide +kernel
theorem dL_law_415 : decode cL_law 415 = .ok (.aload_n 0, 1) := by decide +kernel
theorem dL_law_416 : decode cL_law 416 = .ok (.iload_n 3, 1) := by decide +kernel
theorem dL_law_417 : decode cL_law 417 = .ok (.iconst 2, 1) := by decide +kernel
theorem dL_law_418 : decode cL_law 418 = .ok (.iadd, 1) := by decide +kernel
theorem dL_law_419 : decode cL_law 419 = .ok (.iaload, 1) := by decide +kernel
theorem dL_law_420 : decode cL_law 420 = .ok (.invokevirtual 44, 3) := by decide +kernel
theorem dL_law_423 : decode cL_law 423 = .ok (.aload_n 2, 1) := by decide +kernel
theorem dL_law_424 : decode cL_law 424 = .ok (.aload_n 0, 1) := by decide +kernel
theorem dL_law_425 : decode cL_law 425 = .ok (.iload_n 3, 1) := by decide +kernel
theorem dL_law_426 : decode cL_law 426 = .ok (.iconst 1, 1) := by decide +kernel
theorem dL_law_427 : decode cL_law 427 = .ok (.iadd, 1) := by decide +kernel
theorem dL_law_428 : decode cL_law 428 = .ok (.iaload, 1) := by decide +kernel
theorem dL_law_429 : decode cL_law 429 = .ok (.aload_n 0, 1) := by decide +kernel
theorem dL_law_430 : decode cL_law 430 = .ok (.iload_n 3, 1) := by decide +kernel
theorem dL_law_431 : decode cL_law 431 = .ok (.iconst 2, 1) := by decide +kernel
theorem dL_law_432 : decode cL_law 432 = .ok (.iadd, 1) := by decide +kernel
theorem dL_law_433 : decode cL_law 433 = .ok (.iaload, 1) := by decide +kernel
theorem dL_law_434 : decode cL_law 434 = .ok (.invokevirtual 47, 3) := by decide +kernel
theorem dL_law_437 : decode cL_law 437 = .ok (.if_icmp .eq 646, 3) := by decide +kernel
theorem dL_law_440 : decode cL_law 440 = .ok (.iconst 0, 1) := by decide +kernel
theorem dL_law_441 : decode cL_law 441 = .ok (.ireturn, 1) := by decide +kernel
theorem dL_law_442 : decode cL_law 442 = .ok (.aload_n 1, 1) := by decide +kernel
theorem dL_law_443 : decode cL_law 443 = .ok (.aload_n 0, 1) := by decide +kernel
theorem dL_law_444 : decode cL_law 444 = .ok (.iload_n 3, 1) := by decide +kernel
theorem dL_law_445 : decode cL_law 445 = .ok (.iconst 1, 1) := by decide +kernel
theorem dL_law_446 : decode cL_law 446 = .ok (.iadd, 1) := by decide +kernel
theorem dL_law_447 : decode cL_law 447 = .ok (.iaload, 1) := by decide +kernel
theorem dL_law_448 : decode cL_law 448 = .ok (.aload_n 0, 1) := by decide +kernel
theorem dL_law_449 : decode cL_law 449 = .ok (.iload_n 3, 1) := by decide +kernel
theorem dL_law_450 : decode cL_law 450 = .ok (.iconst 2, 1) := by decide +kernel
theorem dL_law_451 : decode cL_law 451 = .ok (.iadd, 1) := by decide +kernel
theorem dL_law_452 : decode cL_law 452 = .ok (.iaload, 1) := by decide +kernel
theorem dL_law_453 : decode cL_law 453 = .ok (.invokevirtual 48, 3) := by decide +kernel
theorem dL_law_456 : decode cL_law 456 = .ok (.aload_n 2, 1) := by decide +kernel
theorem dL_law_457 : decode cL_law 457 = .ok (.aload_n 0, 1) := by decide +kernel
theorem dL_law_458 : decode cL_law 458 = .ok (.iload_n 3, 1) := by decide +kernel
theorem dL_law_459 : decode cL_law 459 = .ok (.iconst 1, 1) := by decide +kernel
theorem dL_law_460 : decode cL_law 460 = .ok (.iadd, 1) := by decide +kernel
theorem dL_law_461 : decode cL_law 461 = .ok (.iaload, 1) := by decide +kernel
theorem dL_law_462 : decode cL_law 462 = .ok (.aload_n 0, 1) := by decide +kernel
theorem dL_law_463 : decode cL_law 463 = .ok (.iload_n 3, 1) := by decide +kernel
theorem dL_law_464 : decode cL_law 464 = .ok (.iconst 2, 1) := by decide +kernel
theorem dL_law_465 : decode cL_law 465 = .ok (.iadd, 1) := by decide +kernel
theorem dL_law_466 : decode cL_law 466 = .ok (.iaload, 1) := by decide +kernel
theorem dL_law_467 : decode cL_law 467 = .ok (.invokevirtual 51, 3) := by decide +kernel
theorem dL_law_470 : decode cL_law 470 = .ok (.if_icmp .eq 613, 3) := by decide +kernel
theorem dL_law_473 : decode cL_law 473 = .ok (.iconst 0, 1) := by decide +kernel
theorem dL_law_474 : decode cL_law 474 = .ok (.ireturn, 1) := by decide +kernel
theorem dL_law_475 : decode cL_law 475 = .ok (.aload_n 1, 1) := by decide +kernel
theorem dL_law_476 : decode cL_law 476 = .ok (.aload_n 0, 1) := by decide +kernel
theorem dL_law_477 : decode cL_law 477 = .ok (.iload_n 3, 1) := by decide +kernel
theorem dL_law_478 : decode cL_law 478 = .ok (.iconst 1, 1) := by decide +kernel
theorem dL_law_479 : decode cL_law 479 = .ok (.iadd, 1) := by decide +kernel
theorem dL_law_480 : decode cL_law 480 = .ok (.iaload, 1) := by decide +kernel
theorem dL_law_481 : decode cL_law 481 = .ok (.aload_n 0, 1) := by decide +kernel
theorem dL_law_482 : decode cL_law 482 = .ok (.iload_n 3, 1) := by decide +kernel
theorem dL_law_483 : decode cL_law 483 = .ok (.iconst 2, 1) := by decide +kernel
theorem dL_law_484 : decode cL_law 484 = .ok (.iadd, 1) := by decide +kernel
theorem dL_law_485 : decode cL_law 485 = .ok (.iaload, 1) := by decide +kernel
theorem dL_law_486 : decode cL_law 486 = .ok (.invokevirtual 52, 3) := by decide +kernel
theorem dL_law_489 : decode cL_law 489 = .ok (.aload_n 2, 1) := by decide +kernel
theorem dL_law_490 : decode cL_law 490 = .ok (.aload_n 0, 1) := by decide +kernel
theorem dL_law_491 : decode cL_law 491 = .ok (.iload_n 3, 1) := by decide +kernel
theorem dL_law_492 : decode cL_law 492 = .ok (.iconst 1, 1) := by decide +kernel
theorem dL_law_493 : decode cL_law 493 = .ok (.iadd, 1) := by decide +kernel
theorem dL_law_494 : decode cL_law 494 = .ok (.iaload, 1) := by decide +kernel
theorem dL_law_495 : decode cL_law 495 = .ok (.aload_n 0, 1) := by decide +kernel
theorem dL_law_496 : decode cL_law 496 = .ok (.iload_n 3, 1) := by decide +kernel
theorem dL_law_497 : decode cL_law 497 = .ok (.iconst 2, 1) := by decide +kernel
theorem dL_law_498 : decode cL_law 498 = .ok (.iadd, 1) := by decide +kernel
theorem dL_law_499 : decode cL_law 499 = .ok (.iaload, 1) := by decide +kernel
theorem dL_law_500 : decode cL_law 500 = .ok (.invokevirtual 55, 3) := by decide +kernel
theorem dL_law_503 : decode cL_law 503 = .ok (.if_icmp .eq 580, 3) := by decide +kernel
theorem dL_law_506 : decode cL_law 506 = .ok (.iconst 0, 1) := by decide +kernel
theorem dL_law_507 : decode cL_law 507 = .ok (.ireturn, 1) := by decide +kernel
theorem dL_law_508 : decode cL_law 508 = .ok (.aload_n 1, 1) := by decide +kernel
theorem dL_law_509 : decode cL_law 509 = .ok (.aload_n 0, 1) := by decide +kernel
theorem dL_law_510 : decode cL_law 510 = .ok (.iload_n 3, 1) := by decide +kernel
theorem dL_law_511 : decode cL_law 511 = .ok (.iconst 1, 1) := by decide +kernel
theorem dL_law_512 : decode cL_law 512 = .ok (.iadd, 1) := by decide +kernel
theorem dL_law_513 : decode cL_law 513 = .ok (.iaload, 1) := by decide +kernel
theorem dL_law_514 : decode cL_law 514 = .ok (.aload_n 0, 1) := by decide +kernel
theorem dL_law_515 : decode cL_law 515 = .ok (.iload_n 3, 1) := by decide +kernel
theorem dL_law_516 : decode cL_law 516 = .ok (.iconst 2, 1) := by decide +kernel
theorem dL_law_517 : decode cL_law 517 = .ok (.iadd, 1) := by decide +kernel
theorem dL_law_518 : decode cL_law 518 = .ok (.iaload, 1) := by decide +kernel
theorem dL_law_519 : decode cL_law 519 = .ok (.ifCond .eq 7, 3) := by decide +kernel
theorem dL_law_522 : decode cL_law 522 = .ok (.iconst 1, 1) := by decide +kernel
theorem dL_law_523 : decode cL_law 523 = .ok (.goto 4, 3) := by decide +kernel
theorem dL_law_526 : decode cL_law 526 = .ok (.iconst 0, 1) := by decide +kernel
theorem dL_law_527 : decode cL_law 527 = .ok (.invokevirtual 56, 3) := by decide +kernel
theorem dL_law_530 : decode cL_law 530 = .ok (.aload_n 2, 1) := by decide +kernel
theorem dL_law_531 : decode cL_law 531 = .ok (.aload_n 0, 1) := by decide +kernel
theorem dL_law_532 : decode cL_law 532 = .ok (.iload_n 3, 1) := by decide +kernel
theorem dL_law_533 : decode cL_law 533 = .ok (.iconst 1, 1) := by decide +kernel
theorem dL_law_534 : decode cL_law 534 = .ok (.iadd, 1) := by decide +kernel
theorem dL_law_535 : decode cL_law 535 = .ok (.iaload, 1) := by decide +kernel
theorem dL_law_536 : decode cL_law 536 = .ok (.aload_n 0, 1) := by decide +kernel
theorem dL_law_537 : decode cL_law 537 = .ok (.iload_n 3, 1) := by decide +kernel
theorem dL_law_538 : decode cL_law 538 = .ok (.iconst 2, 1) := by decide +kernel
theorem dL_law_539 : decode cL_law 539 = .ok (.iadd, 1) := by decide +kernel
theorem dL_law_540 : decode cL_law 540 = .ok (.iaload, 1) := by decide +kernel
theorem dL_law_541 : decode cL_law 541 = .ok (.ifCond .eq 7, 3) := by decide +kernel
theorem dL_law_544 : decode cL_law 544 = .ok (.iconst 1, 1) := by decide +kernel
theorem dL_law_545 : decode cL_law 545 = .ok (.goto 4, 3) := by decide +kernel
theorem dL_law_548 : decode cL_law 548 = .ok (.iconst 0, 1) := by decide +kernel
theorem dL_law_549 : decode cL_law 549 = .ok (.invokevirtual 60, 3) := by decide +kernel
theorem dL_law_552 : decode cL_law 552 = .ok (.if_icmp .eq 531, 3) := by decide +kernel
theorem dL_law_555 : decode cL_law 555 = .ok (.iconst 0, 1) := by decide +kernel
theorem dL_law_556 : decode cL_law 556 = .ok (.ireturn, 1) := by decide +kernel
theorem dL_law_557 : decode cL_law 557 = .ok (.aload_n 1, 1) := by decide +kernel
theorem dL_law_558 : decode cL_law 558 = .ok (.aload_n 0, 1) := by decide +kernel
theorem dL_law_559 : decode cL_law 559 = .ok (.iload_n 3, 1) := by decide +kernel
theorem dL_law_560 : decode cL_law 560 = .ok (.iconst 1, 1) := by decide +kernel
theorem dL_law_561 : decode cL_law 561 = .ok (.iadd, 1) := by decide +kernel
theorem dL_law_562 : decode cL_law 562 = .ok (.iaload, 1) := by decide +kernel
theorem dL_law_563 : decode cL_law 563 = .ok (.invokevirtual 61, 3) := by decide +kernel
theorem dL_law_566 : decode cL_law 566 = .ok (.aload_n 2, 1) := by decide +kernel
theorem dL_law_567 : decode cL_law 567 = .ok (.aload_n 0, 1) := by decide +kernel
theorem dL_law_568 : decode cL_law 568 = .ok (.iload_n 3, 1) := by decide +kernel
theorem dL_law_569 : decode cL_law 569 = .ok (.iconst 1, 1) := by decide +kernel
theorem dL_law_570 : decode cL_law 570 = .ok (.iadd, 1) := by decide +kernel
theorem dL_law_571 : decode cL_law 571 = .ok (.iaload, 1) := by decide +kernel
theorem dL_law_572 : decode cL_law 572 = .ok (.invokevirtual 64, 3) := by decide +kernel
theorem dL_law_575 : decode cL_law 575 = .ok (.if_icmp .eq 508, 3) := by decide +kernel
theorem dL_law_578 : decode cL_law 578 = .ok (.iconst 0, 1) := by decide +kernel
theorem dL_law_579 : decode cL_law 579 = .ok (.ireturn, 1) := by decide +kernel
theorem dL_law_580 : decode cL_law 580 = .ok (.aload_n 1, 1) := by decide +kernel
theorem dL_law_581 : decode cL_law 581 = .ok (.invokevirtual 65, 3) := by decide +kernel
theorem dL_law_584 : decode cL_law 584 = .ok (.aload_n 2, 1) := by decide +kernel
theorem dL_law_585 : decode cL_law 585 = .ok (.invokevirtual 69, 3) := by decide +kernel
theorem dL_law_588 : decode cL_law 588 = .ok (.if_icmp .eq 495, 3) := by decide +kernel
theorem dL_law_591 : decode cL_law 591 = .ok (.iconst 0, 1) := by decide +kernel
theorem dL_law_592 : decode cL_law 592 = .ok (.ireturn, 1) := by decide +kernel
theorem dL_law_593 : decode cL_law 593 = .ok (.aload_n 1, 1) := by decide +kernel
theorem dL_law_594 : decode cL_law 594 = .ok (.invokevirtual 70, 3) := by decide +kernel
theorem dL_law_597 : decode cL_law 597 = .ok (.aload_n 2, 1) := by decide +kernel
theorem dL_law_598 : decode cL_law 598 = .ok (.invokevirtual 73, 3) := by decide +kernel
theorem dL_law_601 : decode cL_law 601 = .ok (.if_icmp .eq 482, 3) := by decide +kernel
theorem dL_law_604 : decode cL_law 604 = .ok (.iconst 0, 1) := by decide +kernel
theorem dL_law_605 : decode cL_law 605 = .ok (.ireturn, 1) := by decide +kernel
theorem dL_law_606 : decode cL_law 606 = .ok (.aload_n 1, 1) := by decide +kernel
theorem dL_law_607 : decode cL_law 607 = .ok (.invokevirtual 74, 3) := by decide +kernel
theorem dL_law_610 : decode cL_law 610 = .ok (.aload_n 2, 1) := by decide +kernel
theorem dL_law_611 : decode cL_law 611 = .ok (.invokevirtual 77, 3) := by decide +kernel
theorem dL_law_614 : decode cL_law 614 = .ok (.if_icmp .eq 469, 3) := by decide +kernel
theorem dL_law_617 : decode cL_law 617 = .ok (.iconst 0, 1) := by decide +kernel
theorem dL_law_618 : decode cL_law 618 = .ok (.ireturn, 1) := by decide +kernel
theorem dL_law_619 : decode cL_law 619 = .ok (.aload_n 1, 1) := by decide +kernel
theorem dL_law_620 : decode cL_law 620 = .ok (.aload_n 0, 1) := by decide +kernel
theorem dL_law_621 : decode cL_law 621 = .ok (.iload_n 3, 1) := by decide +kernel
theorem dL_law_622 : decode cL_law 622 = .ok (.iconst 1, 1) := by decide +kernel
theorem dL_law_623 : decode cL_law 623 = .ok (.iadd, 1) := by decide +kernel
theorem dL_law_624 : decode cL_law 624 = .ok (.iaload, 1) := by decide +kernel
theorem dL_law_625 : decode cL_law 625 = .ok (.invokevirtual 78, 3) := by decide +kernel
theorem dL_law_628 : decode cL_law 628 = .ok (.aload_n 2, 1) := by decide +kernel
theorem dL_law_629 : decode cL_law 629 = .ok (.aload_n 0, 1) := by decide +kernel
theorem dL_law_630 : decode cL_law 630 = .ok (.iload_n 3, 1) := by decide +kernel
theorem dL_law_631 : decode cL_law 631 = .ok (.iconst 1, 1) := by decide +kernel
theorem dL_law_632 : decode cL_law 632 = .ok (.iadd, 1) := by decide +kernel
theorem dL_law_633 : decode cL_law 633 = .ok (.iaload, 1) := by decide +kernel
theorem dL_law_634 : decode cL_law 634 = .ok (.invokevirtual 81, 3) := by decide +kernel
theorem dL_law_637 : decode cL_law 637 = .ok (.if_icmp .eq 446, 3) := by decide +kernel
theorem dL_law_640 : decode cL_law 640 = .ok (.iconst 0, 1) := by decide +kernel
theorem dL_law_641 : decode cL_law 641 = .ok (.ireturn, 1) := by decide +kernel
theorem dL_law_642 : decode cL_law 642 = .ok (.aload_n 1, 1) := by decide +kernel
theorem dL_law_643 : decode cL_law 643 = .ok (.aload_n 0, 1) := by decide +kernel
theorem dL_law_644 : decode cL_law 644 = .ok (.iload_n 3, 1) := by decide +kernel
theorem dL_law_645 : decode cL_law 645 = .ok (.iconst 1, 1) := by decide +kernel
theorem dL_law_646 : decode cL_law 646 = .ok (.iadd, 1) := by decide +kernel
theorem dL_law_647 : decode cL_law 647 = .ok (.iaload, 1) := by decide +kernel
theorem dL_law_648 : decode cL_law 648 = .ok (.invokevirtual 82, 3) := by decide +kernel
theorem dL_law_651 : decode cL_law 651 = .ok (.aload_n 2, 1) := by decide +kernel
theorem dL_law_652 : decode cL_law 652 = .ok (.aload_n 0, 1) := by decide +kernel
theorem dL_law_653 : decode cL_law 653 = .ok (.iload_n 3, 1) := by decide +kernel
theorem dL_law_654 : decode cL_law 654 = .ok (.iconst 1, 1) := by decide +kernel
theorem dL_law_655 : decode cL_law 655 = .ok (.iadd, 1) := by decide +kernel
theorem dL_law_656 : decode cL_law 656 = .ok (.iaload, 1) := by decide +kernel
theorem dL_law_657 : decode cL_law 657 = .ok (.invokevirtual 85, 3) := by decide +kernel
theorem dL_law_660 : decode cL_law 660 = .ok (.if_icmp .eq 423, 3) := by decide +kernel
theorem dL_law_663 : decode cL_law 663 = .ok (.iconst 0, 1) := by decide +kernel
theorem dL_law_664 : decode cL_law 664 = .ok (.ireturn, 1) := by decide +kernel
theorem dL_law_665 : decode cL_law 665 = .ok (.aload_n 1, 1) := by decide +kernel
theorem dL_law_666 : decode cL_law 666 = .ok (.aload_n 0, 1) := by decide +kernel
theorem dL_law_667 : decode cL_law 667 = .ok (.iload_n 3, 1) := by decide +kernel
theorem dL_law_668 : decode cL_law 668 = .ok (.iconst 1, 1) := by decide +kernel
theorem dL_law_669 : decode cL_law 669 = .ok (.iadd, 1) := by decide +kernel
theorem dL_law_670 : decode cL_law 670 = .ok (.iaload, 1) := by decide +kernel
theorem dL_law_671 : decode cL_law 671 = .ok (.invokevirtual 86, 3) := by decide +kernel
theorem dL_law_674 : decode cL_law 674 = .ok (.aload_n 2, 1) := by decide +kernel
theorem dL_law_675 : decode cL_law 675 = .ok (.aload_n 0, 1) := by decide +kernel
theorem dL_law_676 : decode cL_law 676 = .ok (.iload_n 3, 1) := by decide +kernel
theorem dL_law_677 : decode cL_law 677 = .ok (.iconst 1, 1) := by decide +kernel
theorem dL_law_678 : decode cL_law 678 = .ok (.iadd, 1) := by decide +kernel
theorem dL_law_679 : decode cL_law 679 = .ok (.iaload, 1) := by decide +kernel
theorem dL_law_680 : decode cL_law 680 = .ok (.invokevirtual 89, 3) := by decide +kernel
theorem dL_law_683 : decode cL_law 683 = .ok (.if_icmp .eq 400, 3) := by decide +kernel
theorem dL_law_686 : decode cL_law 686 = .ok (.iconst 0, 1) := by decide +kernel
theorem dL_law_687 : decode cL_law 687 = .ok (.ireturn, 1) := by decide +kernel
theorem dL_law_688 : decode cL_law 688 = .ok (.aload_n 1, 1) := by decide +kernel
theorem dL_law_689 : decode cL_law 689 = .ok (.invokevirtual 90, 3) := by decide +kernel
theorem dL_law_692 : decode cL_law 692 = .ok (.aload_n 2, 1) := by decide +kernel
theorem dL_law_693 : decode cL_law 693 = .ok (.invokevirtual 93, 3) := by decide +kernel
theorem dL_law_696 : decode cL_law 696 = .ok (.if_icmp .eq 387, 3) := by decide +kernel
theorem dL_law_699 : decode cL_law 699 = .ok (.iconst 0, 1) := by decide +kernel
theorem dL_law_700 : decode cL_law 700 = .ok (.ireturn, 1) := by decide +kernel
theorem dL_law_701 : decode cL_law 701 = .ok (.aload_n 1, 1) := by decide +kernel
theorem dL_law_702 : decode cL_law 702 = .ok (.aload_n 0, 1) := by decide +kernel
theorem dL_law_703 : decode cL_law 703 = .ok (.iload_n 3, 1) := by decide +kernel
theorem dL_law_704 : decode cL_law 704 = .ok (.iconst 1, 1) := by decide +kernel
theorem dL_law_705 : decode cL_law 705 = .ok (.iadd, 1) := by decide +kernel
theorem dL_law_706 : decode cL_law 706 = .ok (.iaload, 1) := by decide +kernel
theorem dL_law_707 : decode cL_law 707 = .ok (.aload_n 0, 1) := by decide +kernel
theorem dL_law_708 : decode cL_law 708 = .ok (.iload_n 3, 1) := by decide +kernel
theorem dL_law_709 : decode cL_law 709 = .ok (.iconst 2, 1) := by decide +kernel
theorem dL_law_710 : decode cL_law 710 = .ok (.iadd, 1) := by decide +kernel
theorem dL_law_711 : decode cL_law 711 = .ok (.iaload, 1) := by decide +kernel
theorem dL_law_712 : decode cL_law 712 = .ok (.invokevirtual 94, 3) := by decide +kernel
theorem dL_law_715 : decode cL_law 715 = .ok (.aload_n 2, 1) := by decide +kernel
theorem dL_law_716 : decode cL_law 716 = .ok (.aload_n 0, 1) := by decide +kernel
theorem dL_law_717 : decode cL_law 717 = .ok (.iload_n 3, 1) := by decide +kernel
theorem dL_law_718 : decode cL_law 718 = .ok (.iconst 1, 1) := by decide +kernel
theorem dL_law_719 : decode cL_law 719 = .ok (.iadd, 1) := by decide +kernel
theorem dL_law_720 : decode cL_law 720 = .ok (.iaload, 1) := by decide +kernel
theorem dL_law_721 : decode cL_law 721 = .ok (.aload_n 0, 1) := by decide +kernel
theorem dL_law_722 : decode cL_law 722 = .ok (.iload_n 3, 1) := by decide +kernel
theorem dL_law_723 : decode cL_law 723 = .ok (.iconst 2, 1) := by decide +kernel
theorem dL_law_724 : decode cL_law 724 = .ok (.iadd, 1) := by decide +kernel
theorem dL_law_725 : decode cL_law 725 = .ok (.iaload, 1) := by decide +kernel
theorem dL_law_726 : decode cL_law 726 = .ok (.invokevirtual 97, 3) := by decide +kernel
theorem dL_law_729 : decode cL_law 729 = .ok (.if_icmp .eq 354, 3) := by decide +kernel
theorem dL_law_732 : decode cL_law 732 = .ok (.iconst 0, 1) := by decide +kernel
theorem dL_law_733 : decode cL_law 733 = .ok (.ireturn, 1) := by decide +kernel
theorem dL_law_734 : decode cL_law 734 = .ok (.aload_n 1, 1) := by decide +kernel
theorem dL_law_735 : decode cL_law 735 = .ok (.aload_n 0, 1) := by decide +kernel
theorem dL_law_736 : decode cL_law 736 = .ok (.iload_n 3, 1) := by decide +kernel
theorem dL_law_737 : decode cL_law 737 = .ok (.iconst 1, 1) := by decide +kernel
theorem dL_law_738 : decode cL_law 738 = .ok (.iadd, 1) := by decide +kernel
theorem dL_law_739 : decode cL_law 739 = .ok (.iaload, 1) := by decide +kernel
theorem dL_law_740 : decode cL_law 740 = .ok (.invokevirtual 98, 3) := by decide +kernel
theorem dL_law_743 : decode cL_law 743 = .ok (.aload_n 2, 1) := by decide +kernel
theorem dL_law_744 : decode cL_law 744 = .ok (.aload_n 0, 1) := by decide +kernel
theorem dL_law_745 : decode cL_law 745 = .ok (.iload_n 3, 1) := by decide +kernel
theorem dL_law_746 : decode cL_law 746 = .ok (.iconst 1, 1) := by decide +kernel
theorem dL_law_747 : decode cL_law 747 = .ok (.iadd, 1) := by decide +kernel
theorem dL_law_748 : decode cL_law 748 = .ok (.iaload, 1) := by decide +kernel
theorem dL_law_749 : decode cL_law 749 = .ok (.invokevirtual 101, 3) := by decide +kernel
theorem dL_law_752 : decode cL_law 752 = .ok (.if_icmp .eq 331, 3) := by decide +kernel
theorem dL_law_755 : decode cL_law 755 = .ok (.iconst 0, 1) := by decide +kernel
theorem dL_law_756 : decode cL_law 756 = .ok (.ireturn, 1) := by decide +kernel
theorem dL_law_757 : decode cL_law 757 = .ok (.aload_n 1, 1) := by decide +kernel
theorem dL_law_758 : decode cL_law 758 = .ok (.aload_n 0, 1) := by decide +kernel
theorem dL_law_759 : decode cL_law 759 = .ok (.iload_n 3, 1) := by decide +kernel
theorem dL_law_760 : decode cL_law 760 = .ok (.iconst 1, 1) := by decide +kernel
theorem dL_law_761 : decode cL_law 761 = .ok (.iadd, 1) := by decide +kernel
theorem dL_law_762 : decode cL_law 762 = .ok (.iaload, 1) := by decide +kernel
theorem dL_law_763 : decode cL_law 763 = .ok (.invokevirtual 102, 3) := by decide +kernel
theorem dL_law_766 : decode cL_law 766 = .ok (.aload_n 2, 1) := by decide +kernel
theorem dL_law_767 : decode cL_law 767 = .ok (.aload_n 0, 1) := by decide +kernel
theorem dL_law_768 : decode cL_law 768 = .ok (.iload_n 3, 1) := by decide +kernel
theorem dL_law_769 : decode cL_law 769 = .ok (.iconst 1, 1) := by decide +kernel
theorem dL_law_770 : decode cL_law 770 = .ok (.iadd, 1) := by decide +kernel
theorem dL_law_771 : decode cL_law 771 = .ok (.iaload, 1) := by decide +kernel
theorem dL_law_772 : decode cL_law 772 = .ok (.invokevirtual 105, 3) := by decide +kernel
theorem dL_law_775 : decode cL_law 775 = .ok (.if_icmp .eq 308, 3) := by decide +kernel
theorem dL_law_778 : decode cL_law 778 = .ok (.iconst 0, 1) := by decide +kernel
theorem dL_law_779 : decode cL_law 779 = .ok (.ireturn, 1) := by decide +kernel
theorem dL_law_780 : decode cL_law 780 = .ok (.aload_n 1, 1) := by decide +kernel
theorem dL_law_781 : decode cL_law 781 = .ok (.aload_n 0, 1) := by decide +kernel
theorem dL_law_782 : decode cL_law 782 = .ok (.iload_n 3, 1) := by decide +kernel
theorem dL_law_783 : decode cL_law 783 = .ok (.iconst 1, 1) := by decide +kernel
theorem dL_law_784 : decode cL_law 784 = .ok (.iadd, 1) := by decide +kernel
theorem dL_law_785 : decode cL_law 785 = .ok (.iaload, 1) := by decide +kernel
theorem dL_law_786 : decode cL_law 786 = .ok (.invokevirtual 106, 3) := by decide +kernel
theorem dL_law_789 : decode cL_law 789 = .ok (.aload_n 2, 1) := by decide +kernel
theorem dL_law_790 : decode cL_law 790 = .ok (.aload_n 0, 1) := by decide +kernel
theorem dL_law_791 : decode cL_law 791 = .ok (.iload_n 3, 1) := by decide +kernel
theorem dL_law_792 : decode cL_law 792 = .ok (.iconst 1, 1) := by decide +kernel
theorem dL_law_793 : decode cL_law 793 = .ok (.iadd, 1) := by decide +kernel
theorem dL_law_794 : decode cL_law 794 = .ok (.iaload, 1) := by decide +kernel
theorem dL_law_795 : decode cL_law 795 = .ok (.invokevirtual 109, 3) := by decide +kernel
theorem dL_law_798 : decode cL_law 798 = .ok (.if_icmp .eq 285, 3) := by decide +kernel
theorem dL_law_801 : decode cL_law 801 = .ok (.iconst 0, 1) := by decide +kernel
theorem dL_law_802 : decode cL_law 802 = .ok (.ireturn, 1) := by decide +kernel
theorem dL_law_803 : decode cL_law 803 = .ok (.aload_n 1, 1) := by decide +kernel
theorem dL_law_804 : decode cL_law 804 = .ok (.invokevirtual 110, 3) := by decide +kernel
theorem dL_law_807 : decode cL_law 807 = .ok (.aload_n 2, 1) := by decide +kernel
theorem dL_law_808 : decode cL_law 808 = .ok (.invokevirtual 113, 3) := by decide +kernel
theorem dL_law_811 : decode cL_law 811 = .ok (.if_icmp .eq 272, 3) := by decide +kernel
theorem dL_law_814 : decode cL_law 814 = .ok (.iconst 0, 1) := by decide +kernel
theorem dL_law_815 : decode cL_law 815 = .ok (.ireturn, 1) := by decide +kernel
theorem dL_law_816 : decode cL_law 816 = .ok (.aload_n 1, 1) := by decide +kernel
theorem dL_law_817 : decode cL_law 817 = .ok (.aload_n 0, 1) := by decide +kernel
theorem dL_law_818 : decode cL_law 818 = .ok (.iload_n 3, 1) := by decide +kernel
theorem dL_law_819 : decode cL_law 819 = .ok (.iconst 1, 1) := by decide +kernel
theorem dL_law_820 : decode cL_law 820 = .ok (.iadd, 1) := by decide +kernel
theorem dL_law_821 : decode cL_law 821 = .ok (.iaload, 1) := by decide +kernel
theorem dL_law_822 : decode cL_law 822 = .ok (.invokevirtual 114, 3) := by decide +kernel
theorem dL_law_825 : decode cL_law 825 = .ok (.aload_n 2, 1) := by decide +kernel
theorem dL_law_826 : decode cL_law 826 = .ok (.aload_n 0, 1) := by decide +kernel
theorem dL_law_827 : decode cL_law 827 = .ok (.iload_n 3, 1) := by decide +kernel
theorem dL_law_828 : decode cL_law 828 = .ok (.iconst 1, 1) := by decide +kernel
theorem dL_law_829 : decode cL_law 829 = .ok (.iadd, 1) := by decide +kernel
theorem dL_law_830 : decode cL_law 830 = .ok (.iaload, 1) := by decide +kernel
theorem dL_law_831 : decode cL_law 831 = .ok (.invokevirtual 117, 3) := by decide +kernel
theorem dL_law_834 : decode cL_law 834 = .ok (.if_icmp .eq 249, 3) := by decide +kernel
theorem dL_law_837 : decode cL_law 837 = .ok (.iconst 0, 1) := by decide +kernel
theorem dL_law_838 : decode cL_law 838 = .ok (.ireturn, 1) := by decide +kernel
theorem dL_law_839 : decode cL_law 839 = .ok (.aload_n 1, 1) := by decide +kernel
theorem dL_law_840 : decode cL_law 840 = .ok (.invokevirtual 118, 3) := by decide +kernel
theorem dL_law_843 : decode cL_law 843 = .ok (.aload_n 2, 1) := by decide +kernel
theorem dL_law_844 : decode cL_law 844 = .ok (.invokevirtual 121, 3) := by decide +kernel
theorem dL_law_847 : decode cL_law 847 = .ok (.if_icmp .eq 236, 3) := by decide +kernel
theorem dL_law_850 : decode cL_law 850 = .ok (.iconst 0, 1) := by decide +kernel
theorem dL_law_851 : decode cL_law 851 = .ok (.ireturn, 1) := by decide +kernel
theorem dL_law_852 : decode cL_law 852 = .ok (.aload_n 1, 1) := by decide +kernel
theorem dL_law_853 : decode cL_law 853 = .ok (.aload_n 0, 1) := by decide +kernel
theorem dL_law_854 : decode cL_law 854 = .ok (.iload_n 3, 1) := by decide +kernel
theorem dL_law_855 : decode cL_law 855 = .ok (.iconst 1, 1) := by decide +kernel
theorem dL_law_856 : decode cL_law 856 = .ok (.iadd, 1) := by decide +kernel
theorem dL_law_857 : decode cL_law 857 = .ok (.iaload, 1) := by decide +kernel
theorem dL_law_858 : decode cL_law 858 = .ok (.invokevirtual 122, 3) := by decide +kernel
theorem dL_law_861 : decode cL_law 861 = .ok (.aload_n 2, 1) := by decide +kernel
theorem dL_law_862 : decode cL_law 862 = .ok (.aload_n 0, 1) := by decide +kernel
theorem dL_law_863 : decode cL_law 863 = .ok (.iload_n 3, 1) := by decide +kernel
theorem dL_law_864 : decode cL_law 864 = .ok (.iconst 1, 1) := by decide +kernel
theorem dL_law_865 : decode cL_law 865 = .ok (.iadd, 1) := by decide +kernel
theorem dL_law_866 : decode cL_law 866 = .ok (.iaload, 1) := by decide +kernel
theorem dL_law_867 : decode cL_law 867 = .ok (.invokevirtual 125, 3) := by decide +kernel
theorem dL_law_870 : decode cL_law 870 = .ok (.if_icmp .eq 213, 3) := by decide +kernel
theorem dL_law_873 : decode cL_law 873 = .ok (.iconst 0, 1) := by decide +kernel
theorem dL_law_874 : decode cL_law 874 = .ok (.ireturn, 1) := by decide +kernel
theorem dL_law_875 : decode cL_law 875 = .ok (.aload_n 1, 1) := by decide +kernel
theorem dL_law_876 : decode cL_law 876 = .ok (.aload_n 0, 1) := by decide +kernel
theorem dL_law_877 : decode cL_law 877 = .ok (.iload_n 3, 1) := by decide +kernel
theorem dL_law_878 : decode cL_law 878 = .ok (.iconst 1, 1) := by decide +kernel
theorem dL_law_879 : decode cL_law 879 = .ok (.iadd, 1) := by decide +kernel
theorem dL_law_880 : decode cL_law 880 = .ok (.iaload, 1) := by decide +kernel
theorem dL_law_881 : decode cL_law 881 = .ok (.aload_n 0, 1) := by decide +kernel
theorem dL_law_882 : decode cL_law 882 = .ok (.iload_n 3, 1) := by decide +kernel
theorem dL_law_883 : decode cL_law 883 = .ok (.iconst 2, 1) := by decide +kernel
theorem dL_law_884 : decode cL_law 884 = .ok (.iadd, 1) := by decide +kernel
theorem dL_law_885 : decode cL_law 885 = .ok (.iaload, 1) := by decide +kernel
theorem dL_law_886 : decode cL_law 886 = .ok (.ifCond .eq 7, 3) := by decide +kernel
theorem dL_law_889 : decode cL_law 889 = .ok (.iconst 1, 1) := by decide +kernel
theorem dL_law_890 : decode cL_law 890 = .ok (.goto 4, 3) := by decide +kernel
theorem dL_law_893 : decode cL_law 893 = .ok (.iconst 0, 1) := by decide +kernel
theorem dL_law_894 : decode cL_law 894 = .ok (.invokevirtual 126, 3) := by decide +kernel
theorem dL_law_897 : decode cL_law 897 = .ok (.aload_n 2, 1) := by decide +kernel
theorem dL_law_898 : decode cL_law 898 = .ok (.aload_n 0, 1) := by decide +kernel
theorem dL_law_899 : decode cL_law 899 = .ok (.iload_n 3, 1) := by decide +kernel
theorem dL_law_900 : decode cL_law 900 = .ok (.iconst 1, 1) := by decide +kernel
theorem dL_law_901 : decode cL_law 901 = .ok (.iadd, 1) := by decide +kernel
theorem dL_law_902 : decode cL_law 902 = .ok (.iaload, 1) := by decide +kernel
theorem dL_law_903 : decode cL_law 903 = .ok (.aload_n 0, 1) := by decide +kernel
theorem dL_law_904 : decode cL_law 904 = .ok (.iload_n 3, 1) := by decide +kernel
theorem dL_law_905 : decode cL_law 905 = .ok (.iconst 2, 1) := by decide +kernel
theorem dL_law_906 : decode cL_law 906 = .ok (.iadd, 1) := by decide +kernel
theorem dL_law_907 : decode cL_law 907 = .ok (.iaload, 1) := by decide +kernel
theorem dL_law_908 : decode cL_law 908 = .ok (.ifCond .eq 7, 3) := by decide +kernel
theorem dL_law_911 : decode cL_law 911 = .ok (.iconst 1, 1) := by decide +kernel
theorem dL_law_912 : decode cL_law 912 = .ok (.goto 4, 3) := by decide +kernel
theorem dL_law_915 : decode cL_law 915 = .ok (.iconst 0, 1) := by decide +kernel
theorem dL_law_916 : decode cL_law 916 = .ok (.invokevirtual 129, 3) := by decide +kernel
theorem dL_law_919 : decode cL_law 919 = .ok (.if_icmp .eq 164, 3) := by decide +kernel
theorem dL_law_922 : decode cL_law 922 = .ok (.iconst 0, 1) := by decide +kernel
theorem dL_law_923 : decode cL_law 923 = .ok (.ireturn, 1) := by decide +kernel
theorem dL_law_924 : decode cL_law 924 = .ok (.aload_n 1, 1) := by decide +kernel
theorem dL_law_925 : decode cL_law 925 = .ok (.aload_n 0, 1) := by decide +kernel
theorem dL_law_926 : decode cL_law 926 = .ok (.iload_n 3, 1) := by decide +kernel
theorem dL_law_927 : decode cL_law 927 = .ok (.iconst 1, 1) := by decide +kernel
theorem dL_law_928 : decode cL_law 928 = .ok (.iadd, 1) := by decide +kernel
theorem dL_law_929 : decode cL_law 929 = .ok (.iaload, 1) := by decide +kernel
theorem dL_law_930 : decode cL_law 930 = .ok (.invokevirtual 130, 3) := by decide +kernel
theorem dL_law_933 : decode cL_law 933 = .ok (.aload_n 2, 1) := by decide +kernel
theorem dL_law_934 : decode cL_law 934 = .ok (.aload_n 0, 1) := by decide +kernel
theorem dL_law_935 : decode cL_law 935 = .ok (.iload_n 3, 1) := by decide +kernel
theorem dL_law_936 : decode cL_law 936 = .ok (.iconst 1, 1) := by decide +kernel
theorem dL_law_937 : decode cL_law 937 = .ok (.iadd, 1) := by decide +kernel
theorem dL_law_938 : decode cL_law 938 = .ok (.iaload, 1) := by decide +kernel
theorem dL_law_939 : decode cL_law 939 = .ok (.invokevirtual 133, 3) := by decide +kernel
theorem dL_law_942 : decode cL_law 942 = .ok (.if_icmp .eq 141, 3) := by decide +kernel
theorem dL_law_945 : decode cL_law 945 = .ok (.iconst 0, 1) := by decide +kernel
theorem dL_law_946 : decode cL_law 946 = .ok (.ireturn, 1) := by decide +kernel
theorem dL_law_947 : decode cL_law 947 = .ok (.aload_n 1, 1) := by decide +kernel
theorem dL_law_948 : decode cL_law 948 = .ok (.invokevirtual 134, 3) := by decide +kernel
theorem dL_law_951 : decode cL_law 951 = .ok (.aload_n 2, 1) := by decide +kernel
theorem dL_law_952 : decode cL_law 952 = .ok (.invokevirtual 137, 3) := by decide +kernel
theorem dL_law_955 : decode cL_law 955 = .ok (.if_icmp .eq 128, 3) := by decide +kernel
theorem dL_law_958 : decode cL_law 958 = .ok (.iconst 0, 1) := by decide +kernel
theorem dL_law_959 : decode cL_law 959 = .ok (.ireturn, 1) := by decide +kernel
theorem dL_law_960 : decode cL_law 960 = .ok (.aload_n 1, 1) := by decide +kernel
theorem dL_law_961 : decode cL_law 961 = .ok (.invokevirtual 138, 3) := by decide +kernel
theorem dL_law_964 : decode cL_law 964 = .ok (.dstore 4, 2) := by decide +kernel
theorem dL_law_966 : decode cL_law 966 = .ok (.aload_n 2, 1) := by decide +kernel
theorem dL_law_967 : decode cL_law 967 = .ok (.invokevirtual 142, 3) := by decide +kernel
theorem dL_law_970 : decode cL_law 970 = .ok (.dstore 6, 2) := by decide +kernel
theorem dL_law_972 : decode cL_law 972 = .ok (.dload 4, 2) := by decide +kernel
theorem dL_law_974 : decode cL_law 974 = .ok (.dload 6, 2) := by decide +kernel
theorem dL_law_976 : decode cL_law 976 = .ok (.dcmp .l, 1) := by decide +kernel
theorem dL_law_977 : decode cL_law 977 = .ok (.ifCond .eq 21, 3) := by decide +kernel
theorem dL_law_980 : decode cL_law 980 = .ok (.dload 4, 2) := by decide +kernel
theorem dL_law_982 : decode cL_law 982 = .ok (.dload 4, 2) := by decide +kernel
theorem dL_law_984 : decode cL_law 984 = .ok (.dcmp .l, 1) := by decide +kernel
theorem dL_law_985 : decode cL_law 985 = .ok (.ifCond .eq 11, 3) := by decide +kernel
theorem dL_law_988 : decode cL_law 988 = .ok (.dload 6, 2) := by decide +kernel
theorem dL_law_990 : decode cL_law 990 = .ok (.dload 6, 2) := by decide +kernel
theorem dL_law_992 : decode cL_law 992 = .ok (.dcmp .l, 1) := by decide +kernel
theorem dL_law_993 : decode cL_law 993 = .ok (.ifCond .ne 5, 3) := by decide +kernel
theorem dL_law_996 : decode cL_law 996 = .ok (.iconst 0, 1) := by decide +kernel
theorem dL_law_997 : decode cL_law 997 = .ok (.ireturn, 1) := by decide +kernel
theorem dL_law_998 : decode cL_law 998 = .ok (.goto 85, 3) := by decide +kernel
theorem dL_law_1001 : decode cL_law 1001 = .ok (.aload_n 1, 1) := by decide +kernel
theorem dL_law_1002 : decode cL_law 1002 = .ok (.invokevirtual 143, 3) := by decide +kernel
theorem dL_law_1005 : decode cL_law 1005 = .ok (.f2d, 1) := by decide +kernel
theorem dL_law_1006 : decode cL_law 1006 = .ok (.dstore 4, 2) := by decide +kernel
theorem dL_law_1008 : decode cL_law 1008 = .ok (.aload_n 2, 1) := by decide +kernel
theorem dL_law_1009 : decode cL_law 1009 = .ok (.invokevirtual 147, 3) := by decide +kernel
theorem dL_law_1012 : decode cL_law 1012 = .ok (.f2d, 1) := by decide +kernel
theorem dL_law_1013 : decode cL_law 1013 = .ok (.dstore 6, 2) := by decide +kernel
theorem dL_law_1015 : decode cL_law 1015 = .ok (.dload 4, 2) := by decide +kernel
theorem dL_law_1017 : decode cL_law 1017 = .ok (.dload 6, 2) := by decide +kernel
theorem dL_law_1019 : decode cL_law 1019 = .ok (.dcmp .l, 1) := by decide +kernel
theorem dL_law_1020 : decode cL_law 1020 = .ok (.ifCond .eq 21, 3) := by decide +kernel
theorem dL_law_1023 : decode cL_law 1023 = .ok (.dload 4, 2) := by decide +kernel
theorem dL_law_1025 : decode cL_law 1025 = .ok (.dload 4, 2) := by decide +kernel
theorem dL_law_1027 : decode cL_law 1027 = .ok (.dcmp .l, 1) := by decide +kernel
theorem dL_law_1028 : decode cL_law 1028 = .ok (.ifCond .eq 11, 3) := by decide +kernel
theorem dL_law_1031 : decode cL_law 1031 = .ok (.dload 6, 2) := by decide +kernel
theorem dL_law_1033 : decode cL_law 1033 = .ok (.dload 6, 2) := by decide +kernel
theorem dL_law_1035 : decode cL_law 1035 = .ok (.dcmp .l, 1) := by decide +kernel
theorem dL_law_1036 : decode cL_law 1036 = .ok (.ifCond .ne 5, 3) := by decide +kernel
theorem dL_law_1039 : decode cL_law 1039 = .ok (.iconst 0, 1) := by decide +kernel
theorem dL_law_1040 : decode cL_law 1040 = .ok (.ireturn, 1) := by decide +kernel
theorem dL_law_1041 : decode cL_law 1041 = .ok (.goto 42, 3) := by decide +kernel
theorem dL_law_1044 : decode cL_law 1044 = .ok (.aload_n 1, 1) := by decide +kernel
theorem dL_law_1045 : decode cL_law 1045 = .ok (.invokevirtual 148, 3) := by decide +kernel
theorem dL_law_1048 : decode cL_law 1048 = .ok (.aload_n 2, 1) := by decide +kernel
theorem dL_law_1049 : decode cL_law 1049 = .ok (.invokevirtual 151, 3) := by decide +kernel
theorem dL_law_1052 : decode cL_law 1052 = .ok (.if_icmp .eq 31, 3) := by decide +kernel
theorem dL_law_1055 : decode cL_law 1055 = .ok (.iconst 0, 1) := by decide +kernel
theorem dL_law_1056 : decode cL_law 1056 = .ok (.ireturn, 1) := by decide +kernel
theorem dL_law_1057 : decode cL_law 1057 = .ok (.aload_n 1, 1) := by decide +kernel
theorem dL_law_1058 : decode cL_law 1058 = .ok (.invokevirtual 152, 3) := by decide +kernel
theorem dL_law_1061 : decode cL_law 1061 = .ok (.aload_n 2, 1) := by decide +kernel
theorem dL_law_1062 : decode cL_law 1062 = .ok (.invokevirtual 155, 3) := by decide +kernel
theorem dL_law_1065 : decode cL_law 1065 = .ok (.if_icmp .eq 18, 3) := by decide +kernel
theorem dL_law_1068 : decode cL_law 1068 = .ok (.iconst 0, 1) := by decide +kernel
theorem dL_law_1069 : decode cL_law 1069 = .ok (.ireturn, 1) := by decide +kernel
theorem dL_law_1070 : decode cL_law 1070 = .ok (.aload_n 1, 1) := by decide +kernel
theorem dL_law_1071 : decode cL_law 1071 = .ok (.invokevirtual 156, 3) := by decide +kernel
theorem dL_law_1074 : decode cL_law 1074 = .ok (.aload_n 2, 1) := by decide +kernel
theorem dL_law_1075 : decode cL_law 1075 = .ok (.invokevirtual 159, 3) := by decide +kernel
theorem dL_law_1078 : decode cL_law 1078 = .ok (.if_icmp .eq 5, 3) := by decide +kernel
theorem dL_law_1081 : decode cL_law 1081 = .ok (.iconst 0, 1) := by decide +kernel
theorem dL_law_1082 : decode cL_law 1082 = .ok (.ireturn, 1) := by decide +kernel
theorem dL_law_1083 : decode cL_law 1083 = .ok (.iinc 3 4, 3) := by decide +kernel
theorem dL_law_1086 : decode cL_law 1086 = .ok (.goto (-1068), 3) := by decide +kernel
theorem dL_law_1089 : decode cL_law 1089 = .ok (.iconst 1, 1) := by decide +kernel
theorem dL_law_1090 : decode cL_law 1090 = .ok (.ireturn, 1) := by decide +kernel
end
section
theorem dJ5_init_d00df_0 : decode cJ5_init_d00df 0 = .ok (.aload_n 0, 1) := by decide +kernel
theorem dJ5_init_d00df_1 : decode cJ5_init_d00df 1 = .ok (.invokespecial 3, 3) := by decide +kernel
theorem dJ5_init_d00df_4 : decode cJ5_init_d00df 4 = .ok (.getstatic 18, 3) := by decide +kernel
theorem dJ5_init_d00df_7 : decode cJ5_init_d00df 7 = .ok (.ifCond .eq 18, 3) := by decide +kernel
theorem dJ5_init_d00df_10 : decode cJ5_init_d00df 10 = .ok (.aload_n 0, 1) := by decide +kernel
theorem dJ5_init_d00df_11 : decode cJ5_init_d00df 11 = .ok (.iload_n 1, 1) := by decide +kernel
theorem dJ5_init_d00df_12 : decode cJ5_init_d00df 12 = .ok (.newarray .byte, 2) := by decide +kernel
theorem dJ5_init_d00df_14 : decode cJ5_init_d00df 14 = .ok (.putfield 15, 3) := by decide +kernel
theorem dJ5_init_d00df_17 : decode cJ5_init_d00df 17 = .ok (.aload_n 0, 1) := by decide +kernel
theorem dJ5_init_d00df_18 : decode cJ5_init_d00df 18 = .ok (.iconst 0, 1) := by decide +kernel
theorem dJ5_init_d00df_19 : decode cJ5_init_d00df 19 = .ok (.putfield 22, 3) := by decide +kernel
theorem dJ5_init_d00df_22 : decode cJ5_init_d00df 22 = .ok (.goto 16, 3) := by decide +kernel
theorem dJ5_init_d00df_25 : decode cJ5_init_d00df 25 = .ok (.aload_n 0, 1) := by decide +kernel
theorem dJ5_init_d00df_26 : decode cJ5_init_d00df 26 = .ok (.iload_n 1, 1) := by decide +kernel
theorem dJ5_init_d00df_27 : decode cJ5_init_d00df 27 = .ok (.invokestatic 26, 3) := by decide +kernel
theorem dJ5_init_d00df_30 : decode cJ5_init_d00df 30 = .ok (.putfield 15, 3) := by decide +kernel
theorem dJ5_init_d00df_33 : decode cJ5_init_d00df 33 = .ok (.aload_n 0, 1) := by decide +kernel
theorem dJ5_init_d00df_34 : decode cJ5_init_d00df 34 = .ok (.iconst 1, 1) := by decide +kernel
theorem dJ5_init_d00df_35 : decode cJ5_init_d00df 35 = .ok (.putfield 22, 3) := by decide +kernel
theorem dJ5_init_d00df_38 : decode cJ5_init_d00df 38 = .ok (.return_, 1) := by decide +kernel
theorem dJ5_length_8abf5_0 : decode cJ5_length_8abf5 0 = .ok (.aload_n 0, 1) := by decide +kernel
theorem dJ5_length_8abf5_1 : decode cJ5_length_8abf5 1 = .ok (.getfield 79, 3) := by decide +kernel
theorem dJ5_length_8abf5_4 : decode cJ5_length_8abf5 4 = .ok (.ireturn, 1) := by decide +kernel
theorem dJ5_ensureCapacityInternal_d00df_0 : decode cJ5_ensureCapacityInternal_d00df 0 = .ok (.aload_n 0, 1) := by decide +kernel
theorem dJ5_ensureCapacityInternal_d00df_1 : decode cJ5_ensureCapacityInternal_d00df 1 = .ok (.getfield 15, 3) := by decide +kernel
theorem dJ5_ensureCapacityInternal_d00df_4 : decode cJ5_ensureCapacityInternal_d00df 4 = .ok (.arraylength, 1) := by decide +kernel
theorem dJ5_ensureCapacityInternal_d00df_5 : decode cJ5_ensureCapacityInternal_d00df 5 = .ok (.aload_n 0, 1) := by decide +kernel
theorem dJ5_ensureCapacityInternal_d00df_6 : decode cJ5_ensureCapacityInternal_d00df 6 = .ok (.getfield 22, 3) := by decide +kernel
theorem dJ5_ensureCapacityInternal_d00df_9 : decode cJ5_ensureCapacityInternal_d00df 9 = .ok (.ishr, 1) := by decide +kernel
theorem dJ5_ensureCapacityInternal_d00df_10 : decode cJ5_ensureCapacityInternal_d00df 10 = .ok (.istore_n 2, 1) := by decide +kernel
theorem dJ5_ensureCapacityInternal_d00df_11 : decode cJ5_ensureCapacityInternal_d00df 11 = .ok (.iload_n 1, 1) := by decide +kernel
theorem dJ5_ensureCapacityInternal_d00df_12 : decode cJ5_ensureCapacityInternal_d00df 12 = .ok (.iload_n 2, 1) := by decide +kernel
theorem dJ5_ensureCapacityInternal_d00df_13 : decode cJ5_ensureCapacityInternal_d00df 13 = .ok (.isub, 1) := by decide +kernel
theorem dJ5_ensureCapacityInternal_d00df_14 : decode cJ5_ensureCapacityInternal_d00df 14 = .ok (.ifCond .le 24, 3) := by decide +kernel
theorem dJ5_ensureCapacityInternal_d00df_17 : decode cJ5_ensureCapacityInternal_d00df 17 = .ok (.aload_n 0, 1) := by decide +kernel
theorem dJ5_ensureCapacityInternal_d00df_18 : decode cJ5_ensureCapacityInternal_d00df 18 = .ok (.aload_n 0, 1) := by decide +kernel
theorem dJ5_ensureCapacityInternal_d00df_19 : decode cJ5_ensureCapacityInternal_d00df 19 = .ok (.getfield 15, 3) := by decide +kernel
theorem dJ5_ensureCapacityInternal_d00df_22 : decode cJ5_ensureCapacityInternal_d00df 22 = .ok (.aload_n 0, 1) := by decide +kernel
theorem dJ5_ensureCapacityInternal_d00df_23 : decode cJ5_ensureCapacityInternal_d00df 23 = .ok (.iload_n 1, 1) := by decide +kernel
theorem dJ5_ensureCapacityInternal_d00df_24 : decode cJ5_ensureCapacityInternal_d00df 24 = .ok (.invokevirtual 104, 3) := by decide +kernel
theorem dJ5_ensureCapacityInternal_d00df_27 : decode cJ5_ensureCapacityInternal_d00df 27 = .ok (.aload_n 0, 1) := by decide +kernel
theorem dJ5_ensureCapacityInternal_d00df_28 : decode cJ5_ensureCapacityInternal_d00df 28 = .ok (.getfield 22, 3) := by decide +kernel
theorem dJ5_ensureCapacityInternal_d00df_31 : decode cJ5_ensureCapacityInternal_d00df 31 = .ok (.ishl, 1) := by decide +kernel
theorem dJ5_ensureCapacityInternal_d00df_32 : decode cJ5_ensureCapacityInternal_d00df 32 = .ok (.invokestatic 108, 3) := by decide +kernel
theorem dJ5_ensureCapacityInternal_d00df_35 : decode cJ5_ensureCapacityInternal_d00df 35 = .ok (.putfield 15, 3) := by decide +kernel
theorem dJ5_ensureCapacityInternal_d00df_38 : decode cJ5_ensureCapacityInternal_d00df 38 = .ok (.return_, 1) := by decide +kernel
theorem dJ5_newCapacity_0f7a4_0 : decode cJ5_newCapacity_0f7a4 0 = .ok (.aload_n 0, 1) := by decide +kernel
theorem dJ5_newCapacity_0f7a4_1 : decode cJ5_newCapacity_0f7a4 1 = .ok (.getfield 15, 3) := by decide +kernel
theorem dJ5_newCapacity_0f7a4_4 : decode cJ5_newCapacity_0f7a4 4 = .ok (.arraylength, 1) := by decide +kernel
theorem dJ5_newCapacity_0f7a4_5 : decode cJ5_newCapacity_0f7a4 5 = .ok (.istore_n 2, 1) := by decide +kernel
theorem dJ5_newCapacity_0f7a4_6 : decode cJ5_newCapacity_0f7a4 6 = .ok (.iload_n 1, 1) := by decide +kernel
theorem dJ5_newCapacity_0f7a4_7 : decode cJ5_newCapacity_0f7a4 7 = .ok (.aload_n 0, 1) := by decide +kernel
theorem dJ5_newCapacity_0f7a4_8 : decode cJ5_newCapacity_0f7a4 8 = .ok (.getfield 22, 3) := by decide +kernel
theorem dJ5_newCapacity_0f7a4_11 : decode cJ5_newCapacity_0f7a4 11 = .ok (.ishl, 1) := by decide +kernel
theorem dJ5_newCapacity_0f7a4_12 : decode cJ5_newCapacity_0f7a4 12 = .ok (.istore_n 3, 1) := by decide +kernel
theorem dJ5_newCapacity_0f7a4_13 : decode cJ5_newCapacity_0f7a4 13 = .ok (.iload_n 3, 1) := by decide +kernel
theorem dJ5_newCapacity_0f7a4_14 : decode cJ5_newCapacity_0f7a4 14 = .ok (.iload_n 2, 1) := by decide +kernel
theorem dJ5_newCapacity_0f7a4_15 : decode cJ5_newCapacity_0f7a4 15 = .ok (.isub, 1) := by decide +kernel
theorem dJ5_newCapacity_0f7a4_16 : decode cJ5_newCapacity_0f7a4 16 = .ok (.istore 4, 2) := by decide +kernel
theorem dJ5_newCapacity_0f7a4_18 : decode cJ5_newCapacity_0f7a4 18 = .ok (.iload_n 2, 1) := by decide +kernel
theorem dJ5_newCapacity_0f7a4_19 : decode cJ5_newCapacity_0f7a4 19 = .ok (.iload 4, 2) := by decide +kernel
theorem dJ5_newCapacity_0f7a4_21 : decode cJ5_newCapacity_0f7a4 21 = .ok (.iload_n 2, 1) := by decide +kernel
theorem dJ5_newCapacity_0f7a4_22 : decode cJ5_newCapacity_0f7a4 22 = .ok (.iconst 2, 1) := by decide +kernel
theorem dJ5_newCapacity_0f7a4_23 : decode cJ5_newCapacity_0f7a4 23 = .ok (.aload_n 0, 1) := by decide +kernel
theorem dJ5_newCapacity_0f7a4_24 : decode cJ5_newCapacity_0f7a4 24 = .ok (.getfield 22, 3) := by decide +kernel
theorem dJ5_newCapacity_0f7a4_27 : decode cJ5_newCapacity_0f7a4 27 = .ok (.ishl, 1) := by decide +kernel
theorem dJ5_newCapacity_0f7a4_28 : decode cJ5_newCapacity_0f7a4 28 = .ok (.iadd, 1) := by decide +kernel
theorem dJ5_newCapacity_0f7a4_29 : decode cJ5_newCapacity_0f7a4 29 = .ok (.invokestatic 114, 3) := by decide +kernel
theorem dJ5_newCapacity_0f7a4_32 : decode cJ5_newCapacity_0f7a4 32 = .ok (.istore 5, 2) := by decide +kernel
theorem dJ5_newCapacity_0f7a4_34 : decode cJ5_newCapacity_0f7a4 34 = .ok (.iload 5, 2) := by decide +kernel
theorem dJ5_newCapacity_0f7a4_36 : decode cJ5_newCapacity_0f7a4 36 = .ok (.ldc 39, 2) := by decide +kernel
theorem dJ5_newCapacity_0f7a4_38 : decode cJ5_newCapacity_0f7a4 38 = .ok (.if_icmp .ne 13, 3) := by decide +kernel
theorem dJ5_newCapacity_0f7a4_41 : decode cJ5_newCapacity_0f7a4 41 = .ok (.new 120, 3) := by decide +kernel
theorem dJ5_newCapacity_0f7a4_44 : decode cJ5_newCapacity_0f7a4 44 = .ok (.dup, 1) := by decide +kernel
theorem dJ5_newCapacity_0f7a4_45 : decode cJ5_newCapacity_0f7a4 45 = .ok (.ldc 122, 2) := by decide +kernel
theorem dJ5_newCapacity_0f7a4_47 : decode cJ5_newCapacity_0f7a4 47 = .ok (.invokespecial 124, 3) := by decide +kernel
theorem dJ5_newCapacity_0f7a4_50 : decode cJ5_newCapacity_0f7a4 50 = .ok (.athrow, 1) := by decide +kernel
theorem dJ5_newCapacity_0f7a4_51 : decode cJ5_newCapacity_0f7a4 51 = .ok (.iload 5, 2) := by decide +kernel
theorem dJ5_newCapacity_0f7a4_53 : decode cJ5_newCapacity_0f7a4 53 = .ok (.aload_n 0, 1) := by decide +kernel
theorem dJ5_newCapacity_0f7a4_54 : decode cJ5_newCapacity_0f7a4 54 = .ok (.getfield 22, 3) := by decide +kernel
theorem dJ5_newCapacity_0f7a4_57 : decode cJ5_newCapacity_0f7a4 57 = .ok (.ishr, 1) := by decide +kernel
theorem dJ5_newCapacity_0f7a4_58 : decode cJ5_newCapacity_0f7a4 58 = .ok (.ireturn, 1) := by decide +kernel
theorem dJ5_inflate_da8c8_0 : decode cJ5_inflate_da8c8 0 = .ok (.aload_n 0, 1) := by decide +kernel
theorem dJ5_inflate_da8c8_1 : decode cJ5_inflate_da8c8 1 = .ok (.invokevirtual 83, 3) := by decide +kernel
theorem dJ5_inflate_da8c8_4 : decode cJ5_inflate_da8c8 4 = .ok (.ifCond .ne 4, 3) := by decide +kernel
theorem dJ5_inflate_da8c8_7 : decode cJ5_inflate_da8c8 7 = .ok (.return_, 1) := by decide +kernel
theorem dJ5_inflate_da8c8_8 : decode cJ5_inflate_da8c8 8 = .ok (.aload_n 0, 1) := by decide +kernel
theorem dJ5_inflate_da8c8_9 : decode cJ5_inflate_da8c8 9 = .ok (.getfield 15, 3) := by decide +kernel
theorem dJ5_inflate_da8c8_12 : decode cJ5_inflate_da8c8 12 = .ok (.arraylength, 1) := by decide +kernel
theorem dJ5_inflate_da8c8_13 : decode cJ5_inflate_da8c8 13 = .ok (.invokestatic 26, 3) := by decide +kernel
theorem dJ5_inflate_da8c8_16 : decode cJ5_inflate_da8c8 16 = .ok (.astore_n 1, 1) := by decide +kernel
theorem dJ5_inflate_da8c8_17 : decode cJ5_inflate_da8c8 17 = .ok (.aload_n 0, 1) := by decide +kernel
theorem dJ5_inflate_da8c8_18 : decode cJ5_inflate_da8c8 18 = .ok (.getfield 15, 3) := by decide +kernel
theorem dJ5_inflate_da8c8_21 : decode cJ5_inflate_da8c8 21 = .ok (.iconst 0, 1) := by decide +kernel
theorem dJ5_inflate_da8c8_22 : decode cJ5_inflate_da8c8 22 = .ok (.aload_n 1, 1) := by decide +kernel
theorem dJ5_inflate_da8c8_23 : decode cJ5_inflate_da8c8 23 = .ok (.iconst 0, 1) := by decide +kernel
theorem dJ5_inflate_da8c8_24 : decode cJ5_inflate_da8c8 24 = .ok (.aload_n 0, 1) := by decide +kernel
theorem dJ5_inflate_da8c8_25 : decode cJ5_inflate_da8c8 25 = .ok (.getfield 79, 3) := by decide +kernel
theorem dJ5_inflate_da8c8_28 : decode cJ5_inflate_da8c8 28 = .ok (.invokestatic 125, 3) := by decide +kernel
theorem dJ5_inflate_da8c8_31 : decode cJ5_inflate_da8c8 31 = .ok (.aload_n 0, 1) := by decide +kernel
theorem dJ5_inflate_da8c8_32 : decode cJ5_inflate_da8c8 32 = .ok (.aload_n 1, 1) := by decide +kernel
theorem dJ5_inflate_da8c8_33 : decode cJ5_inflate_da8c8 33 = .ok (.putfield 15, 3) := by decide +kernel
theorem dJ5_inflate_da8c8_36 : decode cJ5_inflate_da8c8 36 = .ok (.aload_n 0, 1) := by decide +kernel
theorem dJ5_inflate_da8c8_37 : decode cJ5_inflate_da8c8 37 = .ok (.iconst 1, 1) := by decide +kernel
theorem dJ5_inflate_da8c8_38 : decode cJ5_inflate_da8c8 38 = .ok (.putfield 22, 3) := by decide +kernel
theorem dJ5_inflate_da8c8_41 : decode cJ5_inflate_da8c8 41 = .ok (.return_, 1) := by decide +kernel
theorem dJ5_setLength_d00df_0 : decode cJ5_setLength_d00df 0 = .ok (.iload_n 1, 1) := by decide +kernel
theorem dJ5_setLength_d00df_1 : decode cJ5_setLength_d00df 1 = .ok (.ifCond .ge 12, 3) := by decide +kernel
theorem dJ5_setLength_d00df_4 : decode cJ5_setLength_d00df 4 = .ok (.new 129, 3) := by decide +kernel
theorem dJ5_setLength_d00df_7 : decode cJ5_setLength_d00df 7 = .ok (.dup, 1) := by decide +kernel
theorem dJ5_setLength_d00df_8 : decode cJ5_setLength_d00df 8 = .ok (.iload_n 1, 1) := by decide +kernel
theorem dJ5_setLength_d00df_9 : decode cJ5_setLength_d00df 9 = .ok (.invokespecial 131, 3) := by decide +kernel
theorem dJ5_setLength_d00df_12 : decode cJ5_setLength_d00df 12 = .ok (.athrow, 1) := by decide +kernel
theorem dJ5_setLength_d00df_13 : decode cJ5_setLength_d00df 13 = .ok (.aload_n 0, 1) := by decide +kernel
theorem dJ5_setLength_d00df_14 : decode cJ5_setLength_d00df 14 = .ok (.iload_n 1, 1) := by decide +kernel
theorem dJ5_setLength_d00df_15 : decode cJ5_setLength_d00df 15 = .ok (.invokevirtual 100, 3) := by decide +kernel
theorem dJ5_setLength_d00df_18 : decode cJ5_setLength_d00df 18 = .ok (.aload_n 0, 1) := by decide +kernel
theorem dJ5_setLength_d00df_19 : decode cJ5_setLength_d00df 19 = .ok (.getfield 79, 3) := by decide +kernel
theorem dJ5_setLength_d00df_22 : decode cJ5_setLength_d00df 22 = .ok (.iload_n 1, 1) := by decide +kernel
theorem dJ5_setLength_d00df_23 : decode cJ5_setLength_d00df 23 = .ok (.if_icmp .ge 40, 3) := by decide +kernel
theorem dJ5_setLength_d00df_26 : decode cJ5_setLength_d00df 26 = .ok (.aload_n 0, 1) := by decide +kernel
theorem dJ5_setLength_d00df_27 : decode cJ5_setLength_d00df 27 = .ok (.invokevirtual 83, 3) := by decide +kernel
theorem dJ5_setLength_d00df_30 : decode cJ5_setLength_d00df 30 = .ok (.ifCond .eq 18, 3) := by decide +kernel
theorem dJ5_setLength_d00df_33 : decode cJ5_setLength_d00df 33 = .ok (.aload_n 0, 1) := by decide +kernel
theorem dJ5_setLength_d00df_34 : decode cJ5_setLength_d00df 34 = .ok (.getfield 15, 3) := by decide +kernel
theorem dJ5_setLength_d00df_37 : decode cJ5_setLength_d00df 37 = .ok (.aload_n 0, 1) := by decide +kernel
theorem dJ5_setLength_d00df_38 : decode cJ5_setLength_d00df 38 = .ok (.getfield 79, 3) := by decide +kernel
theorem dJ5_setLength_d00df_41 : decode cJ5_setLength_d00df 41 = .ok (.iload_n 1, 1) := by decide +kernel
theorem dJ5_setLength_d00df_42 : decode cJ5_setLength_d00df 42 = .ok (.invokestatic 133, 3) := by decide +kernel
theorem dJ5_setLength_d00df_45 : decode cJ5_setLength_d00df 45 = .ok (.goto 31, 3) := by decide +kernel
theorem dJ5_setLength_d00df_48 : decode cJ5_setLength_d00df 48 = .ok (.aload_n 0, 1) := by decide +kernel
theorem dJ5_setLength_d00df_49 : decode cJ5_setLength_d00df 49 = .ok (.getfield 15, 3) := by decide +kernel
theorem dJ5_setLength_d00df_52 : decode cJ5_setLength_d00df 52 = .ok (.aload_n 0, 1) := by decide +kernel
theorem dJ5_setLength_d00df_53 : decode cJ5_setLength_d00df 53 = .ok (.getfield 79, 3) := by decide +kernel
theorem dJ5_setLength_d00df_56 : decode cJ5_setLength_d00df 56 = .ok (.iload_n 1, 1) := by decide +kernel
theorem dJ5_setLength_d00df_57 : decode cJ5_setLength_d00df 57 = .ok (.invokestatic 137, 3) := by decide +kernel
theorem dJ5_setLength_d00df_60 : decode cJ5_setLength_d00df 60 = .ok (.goto 16, 3) := by decide +kernel
theorem dJ5_setLength_d00df_63 : decode cJ5_setLength_d00df 63 = .ok (.aload_n 0, 1) := by decide +kernel
theorem dJ5_setLength_d00df_64 : decode cJ5_setLength_d00df 64 = .ok (.getfield 79, 3) := by decide +kernel
theorem dJ5_setLength_d00df_67 : decode cJ5_setLength_d00df 67 = .ok (.iload_n 1, 1) := by decide +kernel
theorem dJ5_setLength_d00df_68 : decode cJ5_setLength_d00df 68 = .ok (.if_icmp .le 8, 3) := by decide +kernel
theorem dJ5_setLength_d00df_71 : decode cJ5_setLength_d00df 71 = .ok (.aload_n 0, 1) := by decide +kernel
theorem dJ5_setLength_d00df_72 : decode cJ5_setLength_d00df 72 = .ok (.iconst 1, 1) := by decide +kernel
theorem dJ5_setLength_d00df_73 : decode cJ5_setLength_d00df 73 = .ok (.putfield 73, 3) := by decide +kernel
theorem dJ5_setLength_d00df_76 : decode cJ5_setLength_d00df 76 = .ok (.aload_n 0, 1) := by decide +kernel
theorem dJ5_setLength_d00df_77 : decode cJ5_setLength_d00df 77 = .ok (.iload_n 1, 1) := by decide +kernel
theorem dJ5_setLength_d00df_78 : decode cJ5_setLength_d00df 78 = .ok (.putfield 79, 3) := by decide +kernel
theorem dJ5_setLength_d00df_81 : decode cJ5_setLength_d00df 81 = .ok (.return_, 1) := by decide +kernel
theorem dJ5_charAt_5068e_0 : decode cJ5_charAt_5068e 0 = .ok (.aload_n 0, 1) := by decide +kernel
theorem dJ5_charAt_5068e_1 : decode cJ5_charAt_5068e 1 = .ok (.getfield 22, 3) := by decide +kernel
theorem dJ5_charAt_5068e_4 : decode cJ5_charAt_5068e 4 = .ok (.istore_n 2, 1) := by decide +kernel
theorem dJ5_charAt_5068e_5 : decode cJ5_charAt_5068e 5 = .ok (.aload_n 0, 1) := by decide +kernel
theorem dJ5_charAt_5068e_6 : decode cJ5_charAt_5068e 6 = .ok (.getfield 15, 3) := by decide +kernel
theorem dJ5_charAt_5068e_9 : decode cJ5_charAt_5068e 9 = .ok (.astore_n 3, 1) := by decide +kernel
theorem dJ5_charAt_5068e_10 : decode cJ5_charAt_5068e 10 = .ok (.aload_n 0, 1) := by decide +kernel
theorem dJ5_charAt_5068e_11 : decode cJ5_charAt_5068e 11 = .ok (.getfield 79, 3) := by decide +kernel
theorem dJ5_charAt_5068e_14 : decode cJ5_charAt_5068e 14 = .ok (.aload_n 3, 1) := by decide +kernel
theorem dJ5_charAt_5068e_15 : decode cJ5_charAt_5068e 15 = .ok (.arraylength, 1) := by decide +kernel
theorem dJ5_charAt_5068e_16 : decode cJ5_charAt_5068e 16 = .ok (.iload_n 2, 1) := by decide +kernel
theorem dJ5_charAt_5068e_17 : decode cJ5_charAt_5068e 17 = .ok (.ishr, 1) := by decide +kernel
theorem dJ5_charAt_5068e_18 : decode cJ5_charAt_5068e 18 = .ok (.invokestatic 138, 3) := by decide +kernel
theorem dJ5_charAt_5068e_21 : decode cJ5_charAt_5068e 21 = .ok (.istore 4, 2) := by decide +kernel
theorem dJ5_charAt_5068e_23 : decode cJ5_charAt_5068e 23 = .ok (.iload_n 1, 1) := by decide +kernel
theorem dJ5_charAt_5068e_24 : decode cJ5_charAt_5068e 24 = .ok (.iload 4, 2) := by decide +kernel
theorem dJ5_charAt_5068e_26 : decode cJ5_charAt_5068e 26 = .ok (.invokestatic 144, 3) := by decide +kernel
theorem dJ5_charAt_5068e_29 : decode cJ5_charAt_5068e 29 = .ok (.iload_n 2, 1) := by decide +kernel
theorem dJ5_charAt_5068e_30 : decode cJ5_charAt_5068e 30 = .ok (.ifCond .ne 12, 3) := by decide +kernel
theorem dJ5_charAt_5068e_33 : decode cJ5_charAt_5068e 33 = .ok (.aload_n 3, 1) := by decide +kernel
theorem dJ5_charAt_5068e_34 : decode cJ5_charAt_5068e 34 = .ok (.iload_n 1, 1) := by decide +kernel
theorem dJ5_charAt_5068e_35 : decode cJ5_charAt_5068e 35 = .ok (.baload, 1) := by decide +kernel
theorem dJ5_charAt_5068e_36 : decode cJ5_charAt_5068e 36 = .ok (.sipush 255, 3) := by decide +kernel
theorem dJ5_charAt_5068e_39 : decode cJ5_charAt_5068e 39 = .ok (.iand, 1) := by decide +kernel
theorem dJ5_charAt_5068e_40 : decode cJ5_charAt_5068e 40 = .ok (.i2c, 1) := by decide +kernel
theorem dJ5_charAt_5068e_41 : decode cJ5_charAt_5068e 41 = .ok (.ireturn, 1) := by decide +kernel
theorem dJ5_charAt_5068e_42 : decode cJ5_charAt_5068e 42 = .ok (.aload_n 3, 1) := by decide +kernel
theorem dJ5_charAt_5068e_43 : decode cJ5_charAt_5068e 43 = .ok (.iload_n 1, 1) := by decide +kernel
theorem dJ5_charAt_5068e_44 : decode cJ5_charAt_5068e 44 = .ok (.invokestatic 148, 3) := by decide +kernel
theorem dJ5_charAt_5068e_47 : decode cJ5_charAt_5068e 47 = .ok (.ireturn, 1) := by decide +kernel
theorem dJ5_append_3fe6f_0 : decode cJ5_append_3fe6f 0 = .ok (.aload_n 0, 1) := by decide +kernel
theorem dJ5_append_3fe6f_1 : decode cJ5_append_3fe6f 1 = .ok (.aload_n 0, 1) := by decide +kernel
theorem dJ5_append_3fe6f_2 : decode cJ5_append_3fe6f 2 = .ok (.getfield 79, 3) := by decide +kernel
theorem dJ5_append_3fe6f_5 : decode cJ5_append_3fe6f 5 = .ok (.iconst 1, 1) := by decide +kernel
theorem dJ5_append_3fe6f_6 : decode cJ5_append_3fe6f 6 = .ok (.iadd, 1) := by decide +kernel
theorem dJ5_append_3fe6f_7 : decode cJ5_append_3fe6f 7 = .ok (.invokevirtual 100, 3) := by decide +kernel
theorem dJ5_append_3fe6f_10 : decode cJ5_append_3fe6f 10 = .ok (.aload_n 0, 1) := by decide +kernel
theorem dJ5_append_3fe6f_11 : decode cJ5_append_3fe6f 11 = .ok (.invokevirtual 83, 3) := by decide +kernel
theorem dJ5_append_3fe6f_14 : decode cJ5_append_3fe6f 14 = .ok (.ifCond .eq 31, 3) := by decide +kernel
theorem dJ5_append_3fe6f_17 : decode cJ5_append_3fe6f 17 = .ok (.iload_n 1, 1) := by decide +kernel
theorem dJ5_append_3fe6f_18 : decode cJ5_append_3fe6f 18 = .ok (.invokestatic 191, 3) := by decide +kernel
theorem dJ5_append_3fe6f_21 : decode cJ5_append_3fe6f 21 = .ok (.ifCond .eq 24, 3) := by decide +kernel
theorem dJ5_append_3fe6f_24 : decode cJ5_append_3fe6f 24 = .ok (.aload_n 0, 1) := by decide +kernel
theorem dJ5_append_3fe6f_25 : decode cJ5_append_3fe6f 25 = .ok (.getfield 15, 3) := by decide +kernel
theorem dJ5_append_3fe6f_28 : decode cJ5_append_3fe6f 28 = .ok (.aload_n 0, 1) := by decide +kernel
theorem dJ5_append_3fe6f_29 : decode cJ5_append_3fe6f 29 = .ok (.dup, 1) := by decide +kernel
theorem dJ5_append_3fe6f_30 : decode cJ5_append_3fe6f 30 = .ok (.getfield 79, 3) := by decide +kernel
theorem dJ5_append_3fe6f_33 : decode cJ5_append_3fe6f 33 = .ok (.dup_x1, 1) := by decide +kernel
theorem dJ5_append_3fe6f_34 : decode cJ5_append_3fe6f 34 = .ok (.iconst 1, 1) := by decide +kernel
theorem dJ5_append_3fe6f_35 : decode cJ5_append_3fe6f 35 = .ok (.iadd, 1) := by decide +kernel
theorem dJ5_append_3fe6f_36 : decode cJ5_append_3fe6f 36 = .ok (.putfield 79, 3) := by decide +kernel
theorem dJ5_append_3fe6f_39 : decode cJ5_append_3fe6f 39 = .ok (.iload_n 1, 1) := by decide +kernel
theorem dJ5_append_3fe6f_40 : decode cJ5_append_3fe6f 40 = .ok (.i2b, 1) := by decide +kernel
theorem dJ5_append_3fe6f_41 : decode cJ5_append_3fe6f 41 = .ok (.bastore, 1) := by decide +kernel
theorem dJ5_append_3fe6f_42 : decode cJ5_append_3fe6f 42 = .ok (.goto 33, 3) := by decide +kernel
theorem dJ5_append_3fe6f_45 : decode cJ5_append_3fe6f 45 = .ok (.aload_n 0, 1) := by decide +kernel
theorem dJ5_append_3fe6f_46 : decode cJ5_append_3fe6f 46 = .ok (.invokevirtual 83, 3) := by decide +kernel
theorem dJ5_append_3fe6f_49 : decode cJ5_append_3fe6f 49 = .ok (.ifCond .eq 7, 3) := by decide +kernel
theorem dJ5_append_3fe6f_52 : decode cJ5_append_3fe6f 52 = .ok (.aload_n 0, 1) := by decide +kernel
theorem dJ5_append_3fe6f_53 : decode cJ5_append_3fe6f 53 = .ok (.invokevirtual 195, 3) := by decide +kernel
theorem dJ5_append_3fe6f_56 : decode cJ5_append_3fe6f 56 = .ok (.aload_n 0, 1) := by decide +kernel
theorem dJ5_append_3fe6f_57 : decode cJ5_append_3fe6f 57 = .ok (.getfield 15, 3) := by decide +kernel
theorem dJ5_append_3fe6f_60 : decode cJ5_append_3fe6f 60 = .ok (.aload_n 0, 1) := by decide +kernel
theorem dJ5_append_3fe6f_61 : decode cJ5_append_3fe6f 61 = .ok (.dup, 1) := by decide +kernel
theorem dJ5_append_3fe6f_62 : decode cJ5_append_3fe6f 62 = .ok (.getfield 79, 3) := by decide +kernel
theorem dJ5_append_3fe6f_65 : decode cJ5_append_3fe6f 65 = .ok (.dup_x1, 1) := by decide +kernel
theorem dJ5_append_3fe6f_66 : decode cJ5_append_3fe6f 66 = .ok (.iconst 1, 1) := by decide +kernel
theorem dJ5_append_3fe6f_67 : decode cJ5_append_3fe6f 67 = .ok (.iadd, 1) := by decide +kernel
theorem dJ5_append_3fe6f_68 : decode cJ5_append_3fe6f 68 = .ok (.putfield 79, 3) := by decide +kernel
theorem dJ5_append_3fe6f_71 : decode cJ5_append_3fe6f 71 = .ok (.iload_n 1, 1) := by decide +kernel
theorem dJ5_append_3fe6f_72 : decode cJ5_append_3fe6f 72 = .ok (.invokestatic 197, 3) := by decide +kernel
theorem dJ5_append_3fe6f_75 : decode cJ5_append_3fe6f 75 = .ok (.aload_n 0, 1) := by decide +kernel
theorem dJ5_append_3fe6f_76 : decode cJ5_append_3fe6f 76 = .ok (.areturn, 1) := by decide +kernel
theorem dJ5_append_c97b9_0 : decode cJ5_append_c97b9 0 = .ok (.aload_n 0, 1) := by decide +kernel
theorem dJ5_append_c97b9_1 : decode cJ5_append_c97b9 1 = .ok (.getfield 79, 3) := by decide +kernel
theorem dJ5_append_c97b9_4 : decode cJ5_append_c97b9 4 = .ok (.istore_n 2, 1) := by decide +kernel
theorem dJ5_append_c97b9_5 : decode cJ5_append_c97b9 5 = .ok (.iload_n 2, 1) := by decide +kernel
theorem dJ5_append_c97b9_6 : decode cJ5_append_c97b9 6 = .ok (.iload_n 1, 1) := by decide +kernel
theorem dJ5_append_c97b9_7 : decode cJ5_append_c97b9 7 = .ok (.invokestatic 245, 3) := by decide +kernel
theorem dJ5_append_c97b9_10 : decode cJ5_append_c97b9 10 = .ok (.iadd, 1) := by decide +kernel
theorem dJ5_append_c97b9_11 : decode cJ5_append_c97b9 11 = .ok (.istore_n 3, 1) := by decide +kernel
theorem dJ5_append_c97b9_12 : decode cJ5_append_c97b9 12 = .ok (.aload_n 0, 1) := by decide +kernel
theorem dJ5_append_c97b9_13 : decode cJ5_append_c97b9 13 = .ok (.iload_n 3, 1) := by decide +kernel
theorem dJ5_append_c97b9_14 : decode cJ5_append_c97b9 14 = .ok (.invokevirtual 100, 3) := by decide +kernel
theorem dJ5_append_c97b9_17 : decode cJ5_append_c97b9 17 = .ok (.aload_n 0, 1) := by decide +kernel
theorem dJ5_append_c97b9_18 : decode cJ5_append_c97b9 18 = .ok (.invokevirtual 83, 3) := by decide +kernel
theorem dJ5_append_c97b9_21 : decode cJ5_append_c97b9 21 = .ok (.ifCond .eq 16, 3) := by decide +kernel
theorem dJ5_append_c97b9_24 : decode cJ5_append_c97b9 24 = .ok (.iload_n 1, 1) := by decide +kernel
theorem dJ5_append_c97b9_25 : decode cJ5_append_c97b9 25 = .ok (.iload_n 3, 1) := by decide +kernel
theorem dJ5_append_c97b9_26 : decode cJ5_append_c97b9 26 = .ok (.aload_n 0, 1) := by decide +kernel
theorem dJ5_append_c97b9_27 : decode cJ5_append_c97b9 27 = .ok (.getfield 15, 3) := by decide +kernel
theorem dJ5_append_c97b9_30 : decode cJ5_append_c97b9 30 = .ok (.invokestatic 248, 3) := by decide +kernel
theorem dJ5_append_c97b9_33 : decode cJ5_append_c97b9 33 = .ok (.pop, 1) := by decide +kernel
theorem dJ5_append_c97b9_34 : decode cJ5_append_c97b9 34 = .ok (.goto 14, 3) := by decide +kernel
theorem dJ5_append_c97b9_37 : decode cJ5_append_c97b9 37 = .ok (.iload_n 1, 1) := by decide +kernel
theorem dJ5_append_c97b9_38 : decode cJ5_append_c97b9 38 = .ok (.iload_n 2, 1) := by decide +kernel
theorem dJ5_append_c97b9_39 : decode cJ5_append_c97b9 39 = .ok (.iload_n 3, 1) := by decide +kernel
theorem dJ5_append_c97b9_40 : decode cJ5_append_c97b9 40 = .ok (.aload_n 0, 1) := by decide +kernel
theorem dJ5_append_c97b9_41 : decode cJ5_append_c97b9 41 = .ok (.getfield 15, 3) := by decide +kernel
theorem dJ5_append_c97b9_44 : decode cJ5_append_c97b9 44 = .ok (.invokestatic 251, 3) := by decide +kernel
theorem dJ5_append_c97b9_47 : decode cJ5_append_c97b9 47 = .ok (.pop, 1) := by decide +kernel
theorem dJ5_append_c97b9_48 : decode cJ5_append_c97b9 48 = .ok (.aload_n 0, 1) := by decide +kernel
theorem dJ5_append_c97b9_49 : decode cJ5_append_c97b9 49 = .ok (.iload_n 3, 1) := by decide +kernel
theorem dJ5_append_c97b9_50 : decode cJ5_append_c97b9 50 = .ok (.putfield 79, 3) := by decide +kernel
theorem dJ5_append_c97b9_53 : decode cJ5_append_c97b9 53 = .ok (.aload_n 0, 1) := by decide +kernel
theorem dJ5_append_c97b9_54 : decode cJ5_append_c97b9 54 = .ok (.areturn, 1) := by decide +kernel
theorem dJ5_isLatin1_aae02_0 : decode cJ5_isLatin1_aae02 0 = .ok (.getstatic 18, 3) := by decide +kernel
theorem dJ5_isLatin1_aae02_3 : decode cJ5_isLatin1_aae02 3 = .ok (.ifCond .eq 14, 3) := by decide +kernel
theorem dJ5_isLatin1_aae02_6 : decode cJ5_isLatin1_aae02 6 = .ok (.aload_n 0, 1) := by decide +kernel
theorem dJ5_isLatin1_aae02_7 : decode cJ5_isLatin1_aae02 7 = .ok (.getfield 22, 3) := by decide +kernel
theorem dJ5_isLatin1_aae02_10 : decode cJ5_isLatin1_aae02 10 = .ok (.ifCond .ne 7, 3) := by decide +kernel
theorem dJ5_isLatin1_aae02_13 : decode cJ5_isLatin1_aae02 13 = .ok (.iconst 1, 1) := by decide +kernel
theorem dJ5_isLatin1_aae02_14 : decode cJ5_isLatin1_aae02 14 = .ok (.goto 4, 3) := by decide +kernel
theorem dJ5_isLatin1_aae02_17 : decode cJ5_isLatin1_aae02 17 = .ok (.iconst 0, 1) := by decide +kernel
theorem dJ5_isLatin1_aae02_18 : decode cJ5_isLatin1_aae02 18 = .ok (.ireturn, 1) := by decide +kernel
theorem dJ6_getChars_ba4f3_0 : decode cJ6_getChars_ba4f3 0 = .ok (.iload_n 1, 1) := by decide +kernel
theorem dJ6_getChars_ba4f3_1 : decode cJ6_getChars_ba4f3 1 = .ok (.istore 5, 2) := by decide +kernel
theorem dJ6_getChars_ba4f3_3 : decode cJ6_getChars_ba4f3 3 = .ok (.iload_n 0, 1) := by decide +kernel
theorem dJ6_getChars_ba4f3_4 : decode cJ6_getChars_ba4f3 4 = .ok (.ifCond .ge 7, 3) := by decide +kernel
theorem dJ6_getChars_ba4f3_7 : decode cJ6_getChars_ba4f3 7 = .ok (.iconst 1, 1) := by decide +kernel
theorem dJ6_getChars_ba4f3_8 : decode cJ6_getChars_ba4f3 8 = .ok (.goto 4, 3) := by decide +kernel
theorem dJ6_getChars_ba4f3_11 : decode cJ6_getChars_ba4f3 11 = .ok (.iconst 0, 1) := by decide +kernel
theorem dJ6_getChars_ba4f3_12 : decode cJ6_getChars_ba4f3 12 = .ok (.istore 6, 2) := by decide +kernel
theorem dJ6_getChars_ba4f3_14 : decode cJ6_getChars_ba4f3 14 = .ok (.iload 6, 2) := by decide +kernel
theorem dJ6_getChars_ba4f3_16 : decode cJ6_getChars_ba4f3 16 = .ok (.ifCond .ne 6, 3) := by decide +kernel
theorem dJ6_getChars_ba4f3_19 : decode cJ6_getChars_ba4f3 19 = .ok (.iload_n 0, 1) := by decide +kernel
theorem dJ6_getChars_ba4f3_20 : decode cJ6_getChars_ba4f3 20 = .ok (.ineg, 1) := by decide +kernel
theorem dJ6_getChars_ba4f3_21 : decode cJ6_getChars_ba4f3 21 = .ok (.istore_n 0, 1) := by decide +kernel
theorem dJ6_getChars_ba4f3_22 : decode cJ6_getChars_ba4f3 22 = .ok (.iload_n 0, 1) := by decide +kernel
theorem dJ6_getChars_ba4f3_23 : decode cJ6_getChars_ba4f3 23 = .ok (.bipush (-100), 2) := by decide +kernel
theorem dJ6_getChars_ba4f3_25 : decode cJ6_getChars_ba4f3 25 = .ok (.if_icmp .gt 47, 3) := by decide +kernel
theorem dJ6_getChars_ba4f3_28 : decode cJ6_getChars_ba4f3 28 = .ok (.iload_n 0, 1) := by decide +kernel
theorem dJ6_getChars_ba4f3_29 : decode cJ6_getChars_ba4f3 29 = .ok (.bipush 100, 2) := by decide +kernel
theorem dJ6_getChars_ba4f3_31 : decode cJ6_getChars_ba4f3 31 = .ok (.idiv, 1) := by decide +kernel
theorem dJ6_getChars_ba4f3_32 : decode cJ6_getChars_ba4f3 32 = .ok (.istore_n 3, 1) := by decide +kernel
theorem dJ6_getChars_ba4f3_33 : decode cJ6_getChars_ba4f3 33 = .ok (.iload_n 3, 1) := by decide +kernel
theorem dJ6_getChars_ba4f3_34 : decode cJ6_getChars_ba4f3 34 = .ok (.bipush 100, 2) := by decide +kernel
theorem dJ6_getChars_ba4f3_36 : decode cJ6_getChars_ba4f3 36 = .ok (.imul, 1) := by decide +kernel
theorem dJ6_getChars_ba4f3_37 : decode cJ6_getChars_ba4f3 37 = .ok (.iload_n 0, 1) := by decide +kernel
theorem dJ6_getChars_ba4f3_38 : decode cJ6_getChars_ba4f3 38 = .ok (.isub, 1) := by decide +kernel
theorem dJ6_getChars_ba4f3_39 : decode cJ6_getChars_ba4f3 39 = .ok (.istore 4, 2) := by decide +kernel
theorem dJ6_getChars_ba4f3_41 : decode cJ6_getChars_ba4f3 41 = .ok (.iload_n 3, 1) := by decide +kernel
theorem dJ6_getChars_ba4f3_42 : decode cJ6_getChars_ba4f3 42 = .ok (.istore_n 0, 1) := by decide +kernel
theorem dJ6_getChars_ba4f3_43 : decode cJ6_getChars_ba4f3 43 = .ok (.aload_n 2, 1) := by decide +kernel
theorem dJ6_getChars_ba4f3_44 : decode cJ6_getChars_ba4f3 44 = .ok (.iinc 5 (-1), 3) := by decide +kernel
theorem dJ6_getChars_ba4f3_47 : decode cJ6_getChars_ba4f3 47 = .ok (.iload 5, 2) := by decide +kernel
theorem dJ6_getChars_ba4f3_49 : decode cJ6_getChars_ba4f3 49 = .ok (.getstatic 83, 3) := by decide +kernel
theorem dJ6_getChars_ba4f3_52 : decode cJ6_getChars_ba4f3 52 = .ok (.iload 4, 2) := by decide +kernel
theorem dJ6_getChars_ba4f3_54 : decode cJ6_getChars_ba4f3 54 = .ok (.baload, 1) := by decide +kernel
theorem dJ6_getChars_ba4f3_55 : decode cJ6_getChars_ba4f3 55 = .ok (.bastore, 1) := by decide +kernel
theorem dJ6_getChars_ba4f3_56 : decode cJ6_getChars_ba4f3 56 = .ok (.aload_n 2, 1) := by decide +kernel
theorem dJ6_getChars_ba4f3_57 : decode cJ6_getChars_ba4f3 57 = .ok (.iinc 5 (-1), 3) := by decide +kernel
theorem dJ6_getChars_ba4f3_60 : decode cJ6_getChars_ba4f3 60 = .ok (.iload 5, 2) := by decide +kernel
theorem dJ6_getChars_ba4f3_62 : decode cJ6_getChars_ba4f3 62 = .ok (.getstatic 87, 3) := by decide +kernel
theorem dJ6_getChars_ba4f3_65 : decode cJ6_getChars_ba4f3 65 = .ok (.iload 4, 2) := by decide +kernel
theorem dJ6_getChars_ba4f3_67 : decode cJ6_getChars_ba4f3 67 = .ok (.baload, 1) := by decide +kernel
theorem dJ6_getChars_ba4f3_68 : decode cJ6_getChars_ba4f3 68 = .ok (.bastore, 1) := by decide +kernel
theorem dJ6_getChars_ba4f3_69 : decode cJ6_getChars_ba4f3 69 = .ok (.goto (-47), 3) := by decide +kernel
theorem dJ6_getChars_ba4f3_72 : decode cJ6_getChars_ba4f3 72 = .ok (.aload_n 2, 1) := by decide +kernel
theorem dJ6_getChars_ba4f3_73 : decode cJ6_getChars_ba4f3 73 = .ok (.iinc 5 (-1), 3) := by decide +kernel
theorem dJ6_getChars_ba4f3_76 : decode cJ6_getChars_ba4f3 76 = .ok (.iload 5, 2) := by decide +kernel
theorem dJ6_getChars_ba4f3_78 : decode cJ6_getChars_ba4f3 78 = .ok (.getstatic 83, 3) := by decide +kernel
theorem dJ6_getChars_ba4f3_81 : decode cJ6_getChars_ba4f3 81 = .ok (.iload_n 0, 1) := by decide +kernel
theorem dJ6_getChars_ba4f3_82 : decode cJ6_getChars_ba4f3 82 = .ok (.ineg, 1) := by decide +kernel
theorem dJ6_getChars_ba4f3_83 : decode cJ6_getChars_ba4f3 83 = .ok (.baload, 1) := by decide +kernel
theorem dJ6_getChars_ba4f3_84 : decode cJ6_getChars_ba4f3 84 = .ok (.bastore, 1) := by decide +kernel
theorem dJ6_getChars_ba4f3_85 : decode cJ6_getChars_ba4f3 85 = .ok (.iload_n 0, 1) := by decide +kernel
theorem dJ6_getChars_ba4f3_86 : decode cJ6_getChars_ba4f3 86 = .ok (.bipush (-9), 2) := by decide +kernel
theorem dJ6_getChars_ba4f3_88 : decode cJ6_getChars_ba4f3 88 = .ok (.if_icmp .ge 16, 3) := by decide +kernel
theorem dJ6_getChars_ba4f3_91 : decode cJ6_getChars_ba4f3 91 = .ok (.aload_n 2, 1) := by decide +kernel
theorem dJ6_getChars_ba4f3_92 : decode cJ6_getChars_ba4f3 92 = .ok (.iinc 5 (-1), 3) := by decide +kernel
theorem dJ6_getChars_ba4f3_95 : decode cJ6_getChars_ba4f3 95 = .ok (.iload 5, 2) := by decide +kernel
theorem dJ6_getChars_ba4f3_97 : decode cJ6_getChars_ba4f3 97 = .ok (.getstatic 87, 3) := by decide +kernel
theorem dJ6_getChars_ba4f3_100 : decode cJ6_getChars_ba4f3 100 = .ok (.iload_n 0, 1) := by decide +kernel
theorem dJ6_getChars_ba4f3_101 : decode cJ6_getChars_ba4f3 101 = .ok (.ineg, 1) := by decide +kernel
theorem dJ6_getChars_ba4f3_102 : decode cJ6_getChars_ba4f3 102 = .ok (.baload, 1) := by decide +kernel
theorem dJ6_getChars_ba4f3_103 : decode cJ6_getChars_ba4f3 103 = .ok (.bastore, 1) := by decide +kernel
theorem dJ6_getChars_ba4f3_104 : decode cJ6_getChars_ba4f3 104 = .ok (.iload 6, 2) := by decide +kernel
theorem dJ6_getChars_ba4f3_106 : decode cJ6_getChars_ba4f3 106 = .ok (.ifCond .eq 12, 3) := by decide +kernel
theorem dJ6_getChars_ba4f3_109 : decode cJ6_getChars_ba4f3 109 = .ok (.aload_n 2, 1) := by decide +kernel
theorem dJ6_getChars_ba4f3_110 : decode cJ6_getChars_ba4f3 110 = .ok (.iinc 5 (-1), 3) := by decide +kernel
theorem dJ6_getChars_ba4f3_113 : decode cJ6_getChars_ba4f3 113 = .ok (.iload 5, 2) := by decide +kernel
theorem dJ6_getChars_ba4f3_115 : decode cJ6_getChars_ba4f3 115 = .ok (.bipush 45, 2) := by decide +kernel
theorem dJ6_getChars_ba4f3_117 : decode cJ6_getChars_ba4f3 117 = .ok (.bastore, 1) := by decide +kernel
theorem dJ6_getChars_ba4f3_118 : decode cJ6_getChars_ba4f3 118 = .ok (.iload 5, 2) := by decide +kernel
theorem dJ6_getChars_ba4f3_120 : decode cJ6_getChars_ba4f3 120 = .ok (.ireturn, 1) := by decide +kernel
theorem dJ6_stringSize_0f7a4_0 : decode cJ6_stringSize_0f7a4 0 = .ok (.iconst 1, 1) := by decide +kernel
theorem dJ6_stringSize_0f7a4_1 : decode cJ6_stringSize_0f7a4 1 = .ok (.istore_n 1, 1) := by decide +kernel
theorem dJ6_stringSize_0f7a4_2 : decode cJ6_stringSize_0f7a4 2 = .ok (.iload_n 0, 1) := by decide +kernel
theorem dJ6_stringSize_0f7a4_3 : decode cJ6_stringSize_0f7a4 3 = .ok (.ifCond .lt 8, 3) := by decide +kernel
theorem dJ6_stringSize_0f7a4_6 : decode cJ6_stringSize_0f7a4 6 = .ok (.iconst 0, 1) := by decide +kernel
theorem dJ6_stringSize_0f7a4_7 : decode cJ6_stringSize_0f7a4 7 = .ok (.istore_n 1, 1) := by decide +kernel
theorem dJ6_stringSize_0f7a4_8 : decode cJ6_stringSize_0f7a4 8 = .ok (.iload_n 0, 1) := by decide +kernel
theorem dJ6_stringSize_0f7a4_9 : decode cJ6_stringSize_0f7a4 9 = .ok (.ineg, 1) := by decide +kernel
theorem dJ6_stringSize_0f7a4_10 : decode cJ6_stringSize_0f7a4 10 = .ok (.istore_n 0, 1) := by decide +kernel
theorem dJ6_stringSize_0f7a4_11 : decode cJ6_stringSize_0f7a4 11 = .ok (.bipush (-10), 2) := by decide +kernel
theorem dJ6_stringSize_0f7a4_13 : decode cJ6_stringSize_0f7a4 13 = .ok (.istore_n 2, 1) := by decide +kernel
theorem dJ6_stringSize_0f7a4_14 : decode cJ6_stringSize_0f7a4 14 = .ok (.iconst 1, 1) := by decide +kernel
theorem dJ6_stringSize_0f7a4_15 : decode cJ6_stringSize_0f7a4 15 = .ok (.istore_n 3, 1) := by decide +kernel
theorem dJ6_stringSize_0f7a4_16 : decode cJ6_stringSize_0f7a4 16 = .ok (.iload_n 3, 1) := by decide +kernel
theorem dJ6_stringSize_0f7a4_17 : decode cJ6_stringSize_0f7a4 17 = .ok (.bipush 10, 2) := by decide +kernel
theorem dJ6_stringSize_0f7a4_19 : decode cJ6_stringSize_0f7a4 19 = .ok (.if_icmp .ge 23, 3) := by decide +kernel
theorem dJ6_stringSize_0f7a4_22 : decode cJ6_stringSize_0f7a4 22 = .ok (.iload_n 0, 1) := by decide +kernel
theorem dJ6_stringSize_0f7a4_23 : decode cJ6_stringSize_0f7a4 23 = .ok (.iload_n 2, 1) := by decide +kernel
theorem dJ6_stringSize_0f7a4_24 : decode cJ6_stringSize_0f7a4 24 = .ok (.if_icmp .le 7, 3) := by decide +kernel
theorem dJ6_stringSize_0f7a4_27 : decode cJ6_stringSize_0f7a4 27 = .ok (.iload_n 3, 1) := by decide +kernel
theorem dJ6_stringSize_0f7a4_28 : decode cJ6_stringSize_0f7a4 28 = .ok (.iload_n 1, 1) := by decide +kernel
theorem dJ6_stringSize_0f7a4_29 : decode cJ6_stringSize_0f7a4 29 = .ok (.iadd, 1) := by decide +kernel
theorem dJ6_stringSize_0f7a4_30 : decode cJ6_stringSize_0f7a4 30 = .ok (.ireturn, 1) := by decide +kernel
theorem dJ6_stringSize_0f7a4_31 : decode cJ6_stringSize_0f7a4 31 = .ok (.bipush 10, 2) := by decide +kernel
theorem dJ6_stringSize_0f7a4_33 : decode cJ6_stringSize_0f7a4 33 = .ok (.iload_n 2, 1) := by decide +kernel
theorem dJ6_stringSize_0f7a4_34 : decode cJ6_stringSize_0f7a4 34 = .ok (.imul, 1) := by decide +kernel
theorem dJ6_stringSize_0f7a4_35 : decode cJ6_stringSize_0f7a4 35 = .ok (.istore_n 2, 1) := by decide +kernel
theorem dJ6_stringSize_0f7a4_36 : decode cJ6_stringSize_0f7a4 36 = .ok (.iinc 3 1, 3) := by decide +kernel
theorem dJ6_stringSize_0f7a4_39 : decode cJ6_stringSize_0f7a4 39 = .ok (.goto (-23), 3) := by decide +kernel
theorem dJ6_stringSize_0f7a4_42 : decode cJ6_stringSize_0f7a4 42 = .ok (.bipush 10, 2) := by decide +kernel
theorem dJ6_stringSize_0f7a4_44 : decode cJ6_stringSize_0f7a4 44 = .ok (.iload_n 1, 1) := by decide +kernel
theorem dJ6_stringSize_0f7a4_45 : decode cJ6_stringSize_0f7a4 45 = .ok (.iadd, 1) := by decide +kernel
theorem dJ6_stringSize_0f7a4_46 : decode cJ6_stringSize_0f7a4 46 = .ok (.ireturn, 1) := by decide +kernel
theorem dJ6_compare_7cf53_0 : decode cJ6_compare_7cf53 0 = .ok (.iload_n 0, 1) := by decide +kernel
theorem dJ6_compare_7cf53_1 : decode cJ6_compare_7cf53 1 = .ok (.iload_n 1, 1) := by decide +kernel
theorem dJ6_compare_7cf53_2 : decode cJ6_compare_7cf53 2 = .ok (.if_icmp .ge 7, 3) := by decide +kernel
theorem dJ6_compare_7cf53_5 : decode cJ6_compare_7cf53 5 = .ok (.iconst (-1), 1) := by decide +kernel
theorem dJ6_compare_7cf53_6 : decode cJ6_compare_7cf53 6 = .ok (.goto 13, 3) := by decide +kernel
theorem dJ6_compare_7cf53_9 : decode cJ6_compare_7cf53 9 = .ok (.iload_n 0, 1) := by decide +kernel
theorem dJ6_compare_7cf53_10 : decode cJ6_compare_7cf53 10 = .ok (.iload_n 1, 1) := by decide +kernel
theorem dJ6_compare_7cf53_11 : decode cJ6_compare_7cf53 11 = .ok (.if_icmp .ne 7, 3) := by decide +kernel
theorem dJ6_compare_7cf53_14 : decode cJ6_compare_7cf53 14 = .ok (.iconst 0, 1) := by decide +kernel
theorem dJ6_compare_7cf53_15 : decode cJ6_compare_7cf53 15 = .ok (.goto 4, 3) := by decide +kernel
theorem dJ6_compare_7cf53_18 : decode cJ6_compare_7cf53 18 = .ok (.iconst 1, 1) := by decide +kernel
theorem dJ6_compare_7cf53_19 : decode cJ6_compare_7cf53 19 = .ok (.ireturn, 1) := by decide +kernel
theorem dJ6_bitCount_0f7a4_0 : decode cJ6_bitCount_0f7a4 0 = .ok (.iload_n 0, 1) := by decide +kernel
theorem dJ6_bitCount_0f7a4_1 : decode cJ6_bitCount_0f7a4 1 = .ok (.iload_n 0, 1) := by decide +kernel
theorem dJ6_bitCount_0f7a4_2 : decode cJ6_bitCount_0f7a4 2 = .ok (.iconst 1, 1) := by decide +kernel
theorem dJ6_bitCount_0f7a4_3 : decode cJ6_bitCount_0f7a4 3 = .ok (.iushr, 1) := by decide +kernel
theorem dJ6_bitCount_0f7a4_4 : decode cJ6_bitCount_0f7a4 4 = .ok (.ldc_w 265, 3) := by decide +kernel
theorem dJ6_bitCount_0f7a4_7 : decode cJ6_bitCount_0f7a4 7 = .ok (.iand, 1) := by decide +kernel
theorem dJ6_bitCount_0f7a4_8 : decode cJ6_bitCount_0f7a4 8 = .ok (.isub, 1) := by decide +kernel
theorem dJ6_bitCount_0f7a4_9 : decode cJ6_bitCount_0f7a4 9 = .ok (.istore_n 0, 1) := by decide +kernel
theorem dJ6_bitCount_0f7a4_10 : decode cJ6_bitCount_0f7a4 10 = .ok (.iload_n 0, 1) := by decide +kernel
theorem dJ6_bitCount_0f7a4_11 : decode cJ6_bitCount_0f7a4 11 = .ok (.ldc_w 266, 3) := by decide +kernel
theorem dJ6_bitCount_0f7a4_14 : decode cJ6_bitCount_0f7a4 14 = .ok (.iand, 1) := by decide +kernel
theorem dJ6_bitCount_0f7a4_15 : decode cJ6_bitCount_0f7a4 15 = .ok (.iload_n 0, 1) := by decide +kernel
theorem dJ6_bitCount_0f7a4_16 : decode cJ6_bitCount_0f7a4 16 = .ok (.iconst 2, 1) := by decide +kernel
theorem dJ6_bitCount_0f7a4_17 : decode cJ6_bitCount_0f7a4 17 = .ok (.iushr, 1) := by decide +kernel
theorem dJ6_bitCount_0f7a4_18 : decode cJ6_bitCount_0f7a4 18 = .ok (.ldc_w 266, 3) := by decide +kernel
theorem dJ6_bitCount_0f7a4_21 : decode cJ6_bitCount_0f7a4 21 = .ok (.iand, 1) := by decide +kernel
theorem dJ6_bitCount_0f7a4_22 : decode cJ6_bitCount_0f7a4 22 = .ok (.iadd, 1) := by decide +kernel
theorem dJ6_bitCount_0f7a4_23 : decode cJ6_bitCount_0f7a4 23 = .ok (.istore_n 0, 1) := by decide +kernel
theorem dJ6_bitCount_0f7a4_24 : decode cJ6_bitCount_0f7a4 24 = .ok (.iload_n 0, 1) := by decide +kernel
theorem dJ6_bitCount_0f7a4_25 : decode cJ6_bitCount_0f7a4 25 = .ok (.iload_n 0, 1) := by decide +kernel
theorem dJ6_bitCount_0f7a4_26 : decode cJ6_bitCount_0f7a4 26 = .ok (.iconst 4, 1) := by decide +kernel
theorem dJ6_bitCount_0f7a4_27 : decode cJ6_bitCount_0f7a4 27 = .ok (.iushr, 1) := by decide +kernel
theorem dJ6_bitCount_0f7a4_28 : decode cJ6_bitCount_0f7a4 28 = .ok (.iadd, 1) := by decide +kernel
theorem dJ6_bitCount_0f7a4_29 : decode cJ6_bitCount_0f7a4 29 = .ok (.ldc_w 267, 3) := by decide +kernel
theorem dJ6_bitCount_0f7a4_32 : decode cJ6_bitCount_0f7a4 32 = .ok (.iand, 1) := by decide +kernel
theorem dJ6_bitCount_0f7a4_33 : decode cJ6_bitCount_0f7a4 33 = .ok (.istore_n 0, 1) := by decide +kernel
theorem dJ6_bitCount_0f7a4_34 : decode cJ6_bitCount_0f7a4 34 = .ok (.iload_n 0, 1) := by decide +kernel
theorem dJ6_bitCount_0f7a4_35 : decode cJ6_bitCount_0f7a4 35 = .ok (.iload_n 0, 1) := by decide +kernel
theorem dJ6_bitCount_0f7a4_36 : decode cJ6_bitCount_0f7a4 36 = .ok (.bipush 8, 2) := by decide +kernel
theorem dJ6_bitCount_0f7a4_38 : decode cJ6_bitCount_0f7a4 38 = .ok (.iushr, 1) := by decide +kernel
theorem dJ6_bitCount_0f7a4_39 : decode cJ6_bitCount_0f7a4 39 = .ok (.iadd, 1) := by decide +kernel
theorem dJ6_bitCount_0f7a4_40 : decode cJ6_bitCount_0f7a4 40 = .ok (.istore_n 0, 1) := by decide +kernel
theorem dJ6_bitCount_0f7a4_41 : decode cJ6_bitCount_0f7a4 41 = .ok (.iload_n 0, 1) := by decide +kernel
theorem dJ6_bitCount_0f7a4_42 : decode cJ6_bitCount_0f7a4 42 = .ok (.iload_n 0, 1) := by decide +kernel
theorem dJ6_bitCount_0f7a4_43 : decode cJ6_bitCount_0f7a4 43 = .ok (.bipush 16, 2) := by decide +kernel
theorem dJ6_bitCount_0f7a4_45 : decode cJ6_bitCount_0f7a4 45 = .ok (.iushr, 1) := by decide +kernel
theorem dJ6_bitCount_0f7a4_46 : decode cJ6_bitCount_0f7a4 46 = .ok (.iadd, 1) := by decide +kernel
theorem dJ6_bitCount_0f7a4_47 : decode cJ6_bitCount_0f7a4 47 = .ok (.istore_n 0, 1) := by decide +kernel
theorem dJ6_bitCount_0f7a4_48 : decode cJ6_bitCount_0f7a4 48 = .ok (.iload_n 0, 1) := by decide +kernel
theorem dJ6_bitCount_0f7a4_49 : decode cJ6_bitCount_0f7a4 49 = .ok (.bipush 63, 2) := by decide +kernel
theorem dJ6_bitCount_0f7a4_51 : decode cJ6_bitCount_0f7a4 51 = .ok (.iand, 1) := by decide +kernel
theorem dJ6_bitCount_0f7a4_52 : decode cJ6_bitCount_0f7a4 52 = .ok (.ireturn, 1) := by decide +kernel
theorem dJ9_abs_0f7a4_0 : decode cJ9_abs_0f7a4 0 = .ok (.iload_n 0, 1) := by decide +kernel
theorem dJ9_abs_0f7a4_1 : decode cJ9_abs_0f7a4 1 = .ok (.ifCond .ge 8, 3) := by decide +kernel
theorem dJ9_abs_0f7a4_4 : decode cJ9_abs_0f7a4 4 = .ok (.iload_n 0, 1) := by decide +kernel
theorem dJ9_abs_0f7a4_5 : decode cJ9_abs_0f7a4 5 = .ok (.ineg, 1) := by decide +kernel
theorem dJ9_abs_0f7a4_6 : decode cJ9_abs_0f7a4 6 = .ok (.goto 4, 3) := by decide +kernel
theorem dJ9_abs_0f7a4_9 : decode cJ9_abs_0f7a4 9 = .ok (.iload_n 0, 1) := by decide +kernel
theorem dJ9_abs_0f7a4_10 : decode cJ9_abs_0f7a4 10 = .ok (.ireturn, 1) := by decide +kernel
theorem dJ9_max_7cf53_0 : decode cJ9_max_7cf53 0 = .ok (.iload_n 0, 1) := by decide +kernel
theorem dJ9_max_7cf53_1 : decode cJ9_max_7cf53 1 = .ok (.iload_n 1, 1) := by decide +kernel
theorem dJ9_max_7cf53_2 : decode cJ9_max_7cf53 2 = .ok (.if_icmp .lt 7, 3) := by decide +kernel
theorem dJ9_max_7cf53_5 : decode cJ9_max_7cf53 5 = .ok (.iload_n 0, 1) := by decide +kernel
theorem dJ9_max_7cf53_6 : decode cJ9_max_7cf53 6 = .ok (.goto 4, 3) := by decide +kernel
theorem dJ9_max_7cf53_9 : decode cJ9_max_7cf53 9 = .ok (.iload_n 1, 1) := by decide +kernel
theorem dJ9_max_7cf53_10 : decode cJ9_max_7cf53 10 = .ok (.ireturn, 1) := by decide +kernel
theorem dJ9_min_7cf53_0 : decode cJ9_min_7cf53 0 = .ok (.iload_n 0, 1) := by decide +kernel
theorem dJ9_min_7cf53_1 : decode cJ9_min_7cf53 1 = .ok (.iload_n 1, 1) := by decide +kernel
theorem dJ9_min_7cf53_2 : decode cJ9_min_7cf53 2 = .ok (.if_icmp .gt 7, 3) := by decide +kernel
theorem dJ9_min_7cf53_5 : decode cJ9_min_7cf53 5 = .ok (.iload_n 0, 1) := by decide +kernel
theorem dJ9_min_7cf53_6 : decode cJ9_min_7cf53 6 = .ok (.goto 4, 3) := by decide +kernel
theorem dJ9_min_7cf53_9 : decode cJ9_min_7cf53 9 = .ok (.iload_n 1, 1) := by decide +kernel
theorem dJ9_min_7cf53_10 : decode cJ9_min_7cf53 10 = .ok (.ireturn, 1) := by decide +kernel
theorem dJ0_length_8abf5_0 : decode cJ0_length_8abf5 0 = .ok (.aload_n 0, 1) := by decide +kernel
theorem dJ0_length_8abf5_1 : decode cJ0_length_8abf5 1 = .ok (.getfield 9, 3) := by decide +kernel
theorem dJ0_length_8abf5_4 : decode cJ0_length_8abf5 4 = .ok (.arraylength, 1) := by decide +kernel
theorem dJ0_length_8abf5_5 : decode cJ0_length_8abf5 5 = .ok (.aload_n 0, 1) := by decide +kernel
theorem dJ0_length_8abf5_6 : decode cJ0_length_8abf5 6 = .ok (.invokevirtual 335, 3) := by decide +kernel
theorem dJ0_length_8abf5_9 : decode cJ0_length_8abf5 9 = .ok (.ishr, 1) := by decide +kernel
theorem dJ0_length_8abf5_10 : decode cJ0_length_8abf5 10 = .ok (.ireturn, 1) := by decide +kernel
theorem dJ0_charAt_5068e_0 : decode cJ0_charAt_5068e 0 = .ok (.aload_n 0, 1) := by decide +kernel
theorem dJ0_charAt_5068e_1 : decode cJ0_charAt_5068e 1 = .ok (.invokevirtual 492, 3) := by decide +kernel
theorem dJ0_charAt_5068e_4 : decode cJ0_charAt_5068e 4 = .ok (.ifCond .eq 12, 3) := by decide +kernel
theorem dJ0_charAt_5068e_7 : decode cJ0_charAt_5068e 7 = .ok (.aload_n 0, 1) := by decide +kernel
theorem dJ0_charAt_5068e_8 : decode cJ0_charAt_5068e 8 = .ok (.getfield 9, 3) := by decide +kernel
theorem dJ0_charAt_5068e_11 : decode cJ0_charAt_5068e 11 = .ok (.iload_n 1, 1) := by decide +kernel
theorem dJ0_charAt_5068e_12 : decode cJ0_charAt_5068e 12 = .ok (.invokestatic 495, 3) := by decide +kernel
theorem dJ0_charAt_5068e_15 : decode cJ0_charAt_5068e 15 = .ok (.ireturn, 1) := by decide +kernel
theorem dJ0_charAt_5068e_16 : decode cJ0_charAt_5068e 16 = .ok (.aload_n 0, 1) := by decide +kernel
theorem dJ0_charAt_5068e_17 : decode cJ0_charAt_5068e 17 = .ok (.getfield 9, 3) := by decide +kernel
theorem dJ0_charAt_5068e_20 : decode cJ0_charAt_5068e 20 = .ok (.iload_n 1, 1) := by decide +kernel
theorem dJ0_charAt_5068e_21 : decode cJ0_charAt_5068e 21 = .ok (.invokestatic 498, 3) := by decide +kernel
theorem dJ0_charAt_5068e_24 : decode cJ0_charAt_5068e 24 = .ok (.ireturn, 1) := by decide +kernel
theorem dJ0_coder_7d493_0 : decode cJ0_coder_7d493 0 = .ok (.getstatic 38, 3) := by decide +kernel
theorem dJ0_coder_7d493_3 : decode cJ0_coder_7d493 3 = .ok (.ifCond .eq 10, 3) := by decide +kernel
theorem dJ0_coder_7d493_6 : decode cJ0_coder_7d493 6 = .ok (.aload_n 0, 1) := by decide +kernel
theorem dJ0_coder_7d493_7 : decode cJ0_coder_7d493 7 = .ok (.getfield 15, 3) := by decide +kernel
theorem dJ0_coder_7d493_10 : decode cJ0_coder_7d493 10 = .ok (.goto 4, 3) := by decide +kernel
theorem dJ0_coder_7d493_13 : decode cJ0_coder_7d493 13 = .ok (.iconst 1, 1) := by decide +kernel
theorem dJ0_coder_7d493_14 : decode cJ0_coder_7d493 14 = .ok (.ireturn, 1) := by decide +kernel
theorem dJ0_isLatin1_aae02_0 : decode cJ0_isLatin1_aae02 0 = .ok (.getstatic 38, 3) := by decide +kernel
theorem dJ0_isLatin1_aae02_3 : decode cJ0_isLatin1_aae02 3 = .ok (.ifCond .eq 14, 3) := by decide +kernel
theorem dJ0_isLatin1_aae02_6 : decode cJ0_isLatin1_aae02 6 = .ok (.aload_n 0, 1) := by decide +kernel
theorem dJ0_isLatin1_aae02_7 : decode cJ0_isLatin1_aae02 7 = .ok (.getfield 15, 3) := by decide +kernel
theorem dJ0_isLatin1_aae02_10 : decode cJ0_isLatin1_aae02 10 = .ok (.ifCond .ne 7, 3) := by decide +kernel
theorem dJ0_isLatin1_aae02_13 : decode cJ0_isLatin1_aae02 13 = .ok (.iconst 1, 1) := by decide +kernel
theorem dJ0_isLatin1_aae02_14 : decode cJ0_isLatin1_aae02 14 = .ok (.goto 4, 3) := by decide +kernel
theorem dJ0_isLatin1_aae02_17 : decode cJ0_isLatin1_aae02 17 = .ok (.iconst 0, 1) := by decide +kernel
theorem dJ0_isLatin1_aae02_18 : decode cJ0_isLatin1_aae02 18 = .ok (.ireturn, 1) := by decide +kernel
theorem dJ0_checkIndex_df160_0 : decode cJ0_checkIndex_df160 0 = .ok (.iload_n 0, 1) := by decide +kernel
theorem dJ0_checkIndex_df160_1 : decode cJ0_checkIndex_df160 1 = .ok (.iload_n 1, 1) := by decide +kernel
theorem dJ0_checkIndex_df160_2 : decode cJ0_checkIndex_df160 2 = .ok (.getstatic 1053, 3) := by decide +kernel
theorem dJ0_checkIndex_df160_5 : decode cJ0_checkIndex_df160 5 = .ok (.invokestatic 1059, 3) := by decide +kernel
theorem dJ0_checkIndex_df160_8 : decode cJ0_checkIndex_df160 8 = .ok (.pop, 1) := by decide +kernel
theorem dJ0_checkIndex_df160_9 : decode cJ0_checkIndex_df160 9 = .ok (.return_, 1) := by decide +kernel
theorem dJ0_checkBoundsOffCount_cabcc_0 : decode cJ0_checkBoundsOffCount_cabcc 0 = .ok (.iload_n 0, 1) := by decide +kernel
theorem dJ0_checkBoundsOffCount_cabcc_1 : decode cJ0_checkBoundsOffCount_cabcc 1 = .ok (.iload_n 1, 1) := by decide +kernel
theorem dJ0_checkBoundsOffCount_cabcc_2 : decode cJ0_checkBoundsOffCount_cabcc 2 = .ok (.iload_n 2, 1) := by decide +kernel
theorem dJ0_checkBoundsOffCount_cabcc_3 : decode cJ0_checkBoundsOffCount_cabcc 3 = .ok (.getstatic 1053, 3) := by decide +kernel
theorem dJ0_checkBoundsOffCount_cabcc_6 : decode cJ0_checkBoundsOffCount_cabcc 6 = .ok (.invokestatic 1065, 3) := by decide +kernel
theorem dJ0_checkBoundsOffCount_cabcc_9 : decode cJ0_checkBoundsOffCount_cabcc 9 = .ok (.ireturn, 1) := by decide +kernel
theorem dJ0_checkBoundsBeginEnd_23922_0 : decode cJ0_checkBoundsBeginEnd_23922 0 = .ok (.iload_n 0, 1) := by decide +kernel
theorem dJ0_checkBoundsBeginEnd_23922_1 : decode cJ0_checkBoundsBeginEnd_23922 1 = .ok (.iload_n 1, 1) := by decide +kernel
theorem dJ0_checkBoundsBeginEnd_23922_2 : decode cJ0_checkBoundsBeginEnd_23922 2 = .ok (.iload_n 2, 1) := by decide +kernel
theorem dJ0_checkBoundsBeginEnd_23922_3 : decode cJ0_checkBoundsBeginEnd_23922 3 = .ok (.getstatic 1053, 3) := by decide +kernel
theorem dJ0_checkBoundsBeginEnd_23922_6 : decode cJ0_checkBoundsBeginEnd_23922 6 = .ok (.invokestatic 1062, 3) := by decide +kernel
theorem dJ0_checkBoundsBeginEnd_23922_9 : decode cJ0_checkBoundsBeginEnd_23922 9 = .ok (.pop, 1) := by decide +kernel
theorem dJ0_checkBoundsBeginEnd_23922_10 : decode cJ0_checkBoundsBeginEnd_23922 10 = .ok (.return_, 1) := by decide +kernel
theorem dJ4_init_da8c8_0 : decode cJ4_init_da8c8 0 = .ok (.aload_n 0, 1) := by decide +kernel
theorem dJ4_init_da8c8_1 : decode cJ4_init_da8c8 1 = .ok (.bipush 16, 2) := by decide +kernel
theorem dJ4_init_da8c8_3 : decode cJ4_init_da8c8 3 = .ok (.invokespecial 1, 3) := by decide +kernel
theorem dJ4_init_da8c8_6 : decode cJ4_init_da8c8 6 = .ok (.return_, 1) := by decide +kernel
theorem dJ4_append_cf468_0 : decode cJ4_append_cf468 0 = .ok (.aload_n 0, 1) := by decide +kernel
theorem dJ4_append_cf468_1 : decode cJ4_append_cf468 1 = .ok (.iload_n 1, 1) := by decide +kernel
theorem dJ4_append_cf468_2 : decode cJ4_append_cf468 2 = .ok (.invokespecial 50, 3) := by decide +kernel
theorem dJ4_append_cf468_5 : decode cJ4_append_cf468 5 = .ok (.pop, 1) := by decide +kernel
theorem dJ4_append_cf468_6 : decode cJ4_append_cf468 6 = .ok (.aload_n 0, 1) := by decide +kernel
theorem dJ4_append_cf468_7 : decode cJ4_append_cf468 7 = .ok (.areturn, 1) := by decide +kernel
theorem dJ4_append_bf812_0 : decode cJ4_append_bf812 0 = .ok (.aload_n 0, 1) := by decide +kernel
theorem dJ4_append_bf812_1 : decode cJ4_append_bf812 1 = .ok (.iload_n 1, 1) := by decide +kernel
theorem dJ4_append_bf812_2 : decode cJ4_append_bf812 2 = .ok (.invokespecial 53, 3) := by decide +kernel
theorem dJ4_append_bf812_5 : decode cJ4_append_bf812 5 = .ok (.pop, 1) := by decide +kernel
theorem dJ4_append_bf812_6 : decode cJ4_append_bf812 6 = .ok (.aload_n 0, 1) := by decide +kernel
theorem dJ4_append_bf812_7 : decode cJ4_append_bf812 7 = .ok (.areturn, 1) := by decide +kernel
theorem dJ4_charAt_5068e_0 : decode cJ4_charAt_5068e 0 = .ok (.aload_n 0, 1) := by decide +kernel
theorem dJ4_charAt_5068e_1 : decode cJ4_charAt_5068e 1 = .ok (.iload_n 1, 1) := by decide +kernel
theorem dJ4_charAt_5068e_2 : decode cJ4_charAt_5068e 2 = .ok (.invokespecial 329, 3) := by decide +kernel
theorem dJ4_charAt_5068e_5 : decode cJ4_charAt_5068e 5 = .ok (.ireturn, 1) := by decide +kernel
theorem dJ4_setLength_d00df_0 : decode cJ4_setLength_d00df 0 = .ok (.aload_n 0, 1) := by decide +kernel
theorem dJ4_setLength_d00df_1 : decode cJ4_setLength_d00df 1 = .ok (.iload_n 1, 1) := by decide +kernel
theorem dJ4_setLength_d00df_2 : decode cJ4_setLength_d00df 2 = .ok (.invokespecial 333, 3) := by decide +kernel
theorem dJ4_setLength_d00df_5 : decode cJ4_setLength_d00df 5 = .ok (.return_, 1) := by decide +kernel
theorem dJ4_length_8abf5_0 : decode cJ4_length_8abf5 0 = .ok (.aload_n 0, 1) := by decide +kernel
theorem dJ4_length_8abf5_1 : decode cJ4_length_8abf5 1 = .ok (.invokespecial 343, 3) := by decide +kernel
theorem dJ4_length_8abf5_4 : decode cJ4_length_8abf5 4 = .ok (.ireturn, 1) := by decide +kernel
theorem dJ1_charAt_3b067_0 : decode cJ1_charAt_3b067 0 = .ok (.iload_n 1, 1) := by decide +kernel
theorem dJ1_charAt_3b067_1 : decode cJ1_charAt_3b067 1 = .ok (.aload_n 0, 1) := by decide +kernel
theorem dJ1_charAt_3b067_2 : decode cJ1_charAt_3b067 2 = .ok (.arraylength, 1) := by decide +kernel
theorem dJ1_charAt_3b067_3 : decode cJ1_charAt_3b067 3 = .ok (.invokestatic 9, 3) := by decide +kernel
theorem dJ1_charAt_3b067_6 : decode cJ1_charAt_3b067 6 = .ok (.aload_n 0, 1) := by decide +kernel
theorem dJ1_charAt_3b067_7 : decode cJ1_charAt_3b067 7 = .ok (.iload_n 1, 1) := by decide +kernel
theorem dJ1_charAt_3b067_8 : decode cJ1_charAt_3b067 8 = .ok (.baload, 1) := by decide +kernel
theorem dJ1_charAt_3b067_9 : decode cJ1_charAt_3b067 9 = .ok (.sipush 255, 3) := by decide +kernel
theorem dJ1_charAt_3b067_12 : decode cJ1_charAt_3b067 12 = .ok (.iand, 1) := by decide +kernel
theorem dJ1_charAt_3b067_13 : decode cJ1_charAt_3b067 13 = .ok (.i2c, 1) := by decide +kernel
theorem dJ1_charAt_3b067_14 : decode cJ1_charAt_3b067 14 = .ok (.ireturn, 1) := by decide +kernel
theorem dJ1_canEncode_fc78d_0 : decode cJ1_canEncode_fc78d 0 = .ok (.iload_n 0, 1) := by decide +kernel
theorem dJ1_canEncode_fc78d_1 : decode cJ1_canEncode_fc78d 1 = .ok (.sipush 255, 3) := by decide +kernel
theorem dJ1_canEncode_fc78d_4 : decode cJ1_canEncode_fc78d 4 = .ok (.if_icmp .gt 7, 3) := by decide +kernel
theorem dJ1_canEncode_fc78d_7 : decode cJ1_canEncode_fc78d 7 = .ok (.iconst 1, 1) := by decide +kernel
theorem dJ1_canEncode_fc78d_8 : decode cJ1_canEncode_fc78d 8 = .ok (.goto 4, 3) := by decide +kernel
theorem dJ1_canEncode_fc78d_11 : decode cJ1_canEncode_fc78d 11 = .ok (.iconst 0, 1) := by decide +kernel
theorem dJ1_canEncode_fc78d_12 : decode cJ1_canEncode_fc78d 12 = .ok (.ireturn, 1) := by decide +kernel
theorem dJ1_fillNull_b72d1_0 : decode cJ1_fillNull_b72d1 0 = .ok (.aload_n 0, 1) := by decide +kernel
theorem dJ1_fillNull_b72d1_1 : decode cJ1_fillNull_b72d1 1 = .ok (.iload_n 1, 1) := by decide +kernel
theorem dJ1_fillNull_b72d1_2 : decode cJ1_fillNull_b72d1 2 = .ok (.iload_n 2, 1) := by decide +kernel
theorem dJ1_fillNull_b72d1_3 : decode cJ1_fillNull_b72d1 3 = .ok (.iconst 0, 1) := by decide +kernel
theorem dJ1_fillNull_b72d1_4 : decode cJ1_fillNull_b72d1 4 = .ok (.invokestatic 236, 3) := by decide +kernel
theorem dJ1_fillNull_b72d1_7 : decode cJ1_fillNull_b72d1 7 = .ok (.return_, 1) := by decide +kernel
theorem dJ1_inflate_0e8fd_0 : decode cJ1_inflate_0e8fd 0 = .ok (.aload_n 0, 1) := by decide +kernel
theorem dJ1_inflate_0e8fd_1 : decode cJ1_inflate_0e8fd 1 = .ok (.iload_n 1, 1) := by decide +kernel
theorem dJ1_inflate_0e8fd_2 : decode cJ1_inflate_0e8fd 2 = .ok (.aload_n 2, 1) := by decide +kernel
theorem dJ1_inflate_0e8fd_3 : decode cJ1_inflate_0e8fd 3 = .ok (.iload_n 3, 1) := by decide +kernel
theorem dJ1_inflate_0e8fd_4 : decode cJ1_inflate_0e8fd 4 = .ok (.iload 4, 2) := by decide +kernel
theorem dJ1_inflate_0e8fd_6 : decode cJ1_inflate_0e8fd 6 = .ok (.invokestatic 240, 3) := by decide +kernel
theorem dJ1_inflate_0e8fd_9 : decode cJ1_inflate_0e8fd 9 = .ok (.return_, 1) := by decide +kernel
theorem dJ2_newBytesFor_77867_0 : decode cJ2_newBytesFor_77867 0 = .ok (.iload_n 0, 1) := by decide +kernel
theorem dJ2_newBytesFor_77867_1 : decode cJ2_newBytesFor_77867 1 = .ok (.invokestatic 11, 3) := by decide +kernel
theorem dJ2_newBytesFor_77867_4 : decode cJ2_newBytesFor_77867 4 = .ok (.newarray .byte, 2) := by decide +kernel
theorem dJ2_newBytesFor_77867_6 : decode cJ2_newBytesFor_77867 6 = .ok (.areturn, 1) := by decide +kernel
theorem dJ2_newBytesLength_0f7a4_0 : decode cJ2_newBytesLength_0f7a4 0 = .ok (.iload_n 0, 1) := by decide +kernel
theorem dJ2_newBytesLength_0f7a4_1 : decode cJ2_newBytesLength_0f7a4 1 = .ok (.ifCond .ge 11, 3) := by decide +kernel
theorem dJ2_newBytesLength_0f7a4_4 : decode cJ2_newBytesLength_0f7a4 4 = .ok (.new 17, 3) := by decide +kernel
theorem dJ2_newBytesLength_0f7a4_7 : decode cJ2_newBytesLength_0f7a4 7 = .ok (.dup, 1) := by decide +kernel
theorem dJ2_newBytesLength_0f7a4_8 : decode cJ2_newBytesLength_0f7a4 8 = .ok (.invokespecial 19, 3) := by decide +kernel
theorem dJ2_newBytesLength_0f7a4_11 : decode cJ2_newBytesLength_0f7a4 11 = .ok (.athrow, 1) := by decide +kernel
theorem dJ2_newBytesLength_0f7a4_12 : decode cJ2_newBytesLength_0f7a4 12 = .ok (.iload_n 0, 1) := by decide +kernel
theorem dJ2_newBytesLength_0f7a4_13 : decode cJ2_newBytesLength_0f7a4 13 = .ok (.ldc 20, 2) := by decide +kernel
theorem dJ2_newBytesLength_0f7a4_15 : decode cJ2_newBytesLength_0f7a4 15 = .ok (.if_icmp .lt 40, 3) := by decide +kernel
theorem dJ2_newBytesLength_0f7a4_18 : decode cJ2_newBytesLength_0f7a4 18 = .ok (.new 21, 3) := by decide +kernel
theorem dJ2_newBytesLength_0f7a4_21 : decode cJ2_newBytesLength_0f7a4 21 = .ok (.dup, 1) := by decide +kernel
theorem dJ2_newBytesLength_0f7a4_22 : decode cJ2_newBytesLength_0f7a4 22 = .ok (.new 23, 3) := by decide +kernel
theorem dJ2_newBytesLength_0f7a4_25 : decode cJ2_newBytesLength_0f7a4 25 = .ok (.dup, 1) := by decide +kernel
theorem dJ2_newBytesLength_0f7a4_26 : decode cJ2_newBytesLength_0f7a4 26 = .ok (.invokespecial 25, 3) := by decide +kernel
theorem dJ2_newBytesLength_0f7a4_29 : decode cJ2_newBytesLength_0f7a4 29 = .ok (.ldc 26, 2) := by decide +kernel
theorem dJ2_newBytesLength_0f7a4_31 : decode cJ2_newBytesLength_0f7a4 31 = .ok (.invokevirtual 28, 3) := by decide +kernel
theorem dJ2_newBytesLength_0f7a4_34 : decode cJ2_newBytesLength_0f7a4 34 = .ok (.iload_n 0, 1) := by decide +kernel
theorem dJ2_newBytesLength_0f7a4_35 : decode cJ2_newBytesLength_0f7a4 35 = .ok (.invokevirtual 32, 3) := by decide +kernel
theorem dJ2_newBytesLength_0f7a4_38 : decode cJ2_newBytesLength_0f7a4 38 = .ok (.ldc 35, 2) := by decide +kernel
theorem dJ2_newBytesLength_0f7a4_40 : decode cJ2_newBytesLength_0f7a4 40 = .ok (.invokevirtual 28, 3) := by decide +kernel
theorem dJ2_newBytesLength_0f7a4_43 : decode cJ2_newBytesLength_0f7a4 43 = .ok (.ldc 20, 2) := by decide +kernel
theorem dJ2_newBytesLength_0f7a4_45 : decode cJ2_newBytesLength_0f7a4 45 = .ok (.invokevirtual 32, 3) := by decide +kernel
theorem dJ2_newBytesLength_0f7a4_48 : decode cJ2_newBytesLength_0f7a4 48 = .ok (.invokevirtual 37, 3) := by decide +kernel
theorem dJ2_newBytesLength_0f7a4_51 : decode cJ2_newBytesLength_0f7a4 51 = .ok (.invokespecial 41, 3) := by decide +kernel
theorem dJ2_newBytesLength_0f7a4_54 : decode cJ2_newBytesLength_0f7a4 54 = .ok (.athrow, 1) := by decide +kernel
theorem dJ2_newBytesLength_0f7a4_55 : decode cJ2_newBytesLength_0f7a4 55 = .ok (.iload_n 0, 1) := by decide +kernel
theorem dJ2_newBytesLength_0f7a4_56 : decode cJ2_newBytesLength_0f7a4 56 = .ok (.iconst 1, 1) := by decide +kernel
theorem dJ2_newBytesLength_0f7a4_57 : decode cJ2_newBytesLength_0f7a4 57 = .ok (.ishl, 1) := by decide +kernel
theorem dJ2_newBytesLength_0f7a4_58 : decode cJ2_newBytesLength_0f7a4 58 = .ok (.ireturn, 1) := by decide +kernel
theorem dJ2_putChar_b72d1_0 : decode cJ2_putChar_b72d1 0 = .ok (.getstatic 44, 3) := by decide +kernel
theorem dJ2_putChar_b72d1_3 : decode cJ2_putChar_b72d1 3 = .ok (.ifCond .ne 25, 3) := by decide +kernel
theorem dJ2_putChar_b72d1_6 : decode cJ2_putChar_b72d1 6 = .ok (.iload_n 1, 1) := by decide +kernel
theorem dJ2_putChar_b72d1_7 : decode cJ2_putChar_b72d1 7 = .ok (.ifCond .lt 11, 3) := by decide +kernel
theorem dJ2_putChar_b72d1_10 : decode cJ2_putChar_b72d1 10 = .ok (.iload_n 1, 1) := by decide +kernel
theorem dJ2_putChar_b72d1_11 : decode cJ2_putChar_b72d1 11 = .ok (.aload_n 0, 1) := by decide +kernel
theorem dJ2_putChar_b72d1_12 : decode cJ2_putChar_b72d1 12 = .ok (.invokestatic 48, 3) := by decide +kernel
theorem dJ2_putChar_b72d1_15 : decode cJ2_putChar_b72d1 15 = .ok (.if_icmp .lt 13, 3) := by decide +kernel
theorem dJ2_putChar_b72d1_18 : decode cJ2_putChar_b72d1 18 = .ok (.new 52, 3) := by decide +kernel
theorem dJ2_putChar_b72d1_21 : decode cJ2_putChar_b72d1 21 = .ok (.dup, 1) := by decide +kernel
theorem dJ2_putChar_b72d1_22 : decode cJ2_putChar_b72d1 22 = .ok (.ldc 54, 2) := by decide +kernel
theorem dJ2_putChar_b72d1_24 : decode cJ2_putChar_b72d1 24 = .ok (.invokespecial 56, 3) := by decide +kernel
theorem dJ2_putChar_b72d1_27 : decode cJ2_putChar_b72d1 27 = .ok (.athrow, 1) := by decide +kernel
theorem dJ2_putChar_b72d1_28 : decode cJ2_putChar_b72d1 28 = .ok (.iload_n 1, 1) := by decide +kernel
theorem dJ2_putChar_b72d1_29 : decode cJ2_putChar_b72d1 29 = .ok (.iconst 1, 1) := by decide +kernel
theorem dJ2_putChar_b72d1_30 : decode cJ2_putChar_b72d1 30 = .ok (.ishl, 1) := by decide +kernel
theorem dJ2_putChar_b72d1_31 : decode cJ2_putChar_b72d1 31 = .ok (.istore_n 1, 1) := by decide +kernel
theorem dJ2_putChar_b72d1_32 : decode cJ2_putChar_b72d1 32 = .ok (.aload_n 0, 1) := by decide +kernel
theorem dJ2_putChar_b72d1_33 : decode cJ2_putChar_b72d1 33 = .ok (.iload_n 1, 1) := by decide +kernel
theorem dJ2_putChar_b72d1_34 : decode cJ2_putChar_b72d1 34 = .ok (.iinc 1 1, 3) := by decide +kernel
theorem dJ2_putChar_b72d1_37 : decode cJ2_putChar_b72d1 37 = .ok (.iload_n 2, 1) := by decide +kernel
theorem dJ2_putChar_b72d1_38 : decode cJ2_putChar_b72d1 38 = .ok (.getstatic 59, 3) := by decide +kernel
theorem dJ2_putChar_b72d1_41 : decode cJ2_putChar_b72d1 41 = .ok (.ishr, 1) := by decide +kernel
theorem dJ2_putChar_b72d1_42 : decode cJ2_putChar_b72d1 42 = .ok (.i2b, 1) := by decide +kernel
theorem dJ2_putChar_b72d1_43 : decode cJ2_putChar_b72d1 43 = .ok (.bastore, 1) := by decide +kernel
theorem dJ2_putChar_b72d1_44 : decode cJ2_putChar_b72d1 44 = .ok (.aload_n 0, 1) := by decide +kernel
theorem dJ2_putChar_b72d1_45 : decode cJ2_putChar_b72d1 45 = .ok (.iload_n 1, 1) := by decide +kernel
theorem dJ2_putChar_b72d1_46 : decode cJ2_putChar_b72d1 46 = .ok (.iload_n 2, 1) := by decide +kernel
theorem dJ2_putChar_b72d1_47 : decode cJ2_putChar_b72d1 47 = .ok (.getstatic 63, 3) := by decide +kernel
theorem dJ2_putChar_b72d1_50 : decode cJ2_putChar_b72d1 50 = .ok (.ishr, 1) := by decide +kernel
theorem dJ2_putChar_b72d1_51 : decode cJ2_putChar_b72d1 51 = .ok (.i2b, 1) := by decide +kernel
theorem dJ2_putChar_b72d1_52 : decode cJ2_putChar_b72d1 52 = .ok (.bastore, 1) := by decide +kernel
theorem dJ2_putChar_b72d1_53 : decode cJ2_putChar_b72d1 53 = .ok (.return_, 1) := by decide +kernel
theorem dJ2_getChar_3b067_0 : decode cJ2_getChar_3b067 0 = .ok (.getstatic 44, 3) := by decide +kernel
theorem dJ2_getChar_3b067_3 : decode cJ2_getChar_3b067 3 = .ok (.ifCond .ne 25, 3) := by decide +kernel
theorem dJ2_getChar_3b067_6 : decode cJ2_getChar_3b067 6 = .ok (.iload_n 1, 1) := by decide +kernel
theorem dJ2_getChar_3b067_7 : decode cJ2_getChar_3b067 7 = .ok (.ifCond .lt 11, 3) := by decide +kernel
theorem dJ2_getChar_3b067_10 : decode cJ2_getChar_3b067 10 = .ok (.iload_n 1, 1) := by decide +kernel
theorem dJ2_getChar_3b067_11 : decode cJ2_getChar_3b067 11 = .ok (.aload_n 0, 1) := by decide +kernel
theorem dJ2_getChar_3b067_12 : decode cJ2_getChar_3b067 12 = .ok (.invokestatic 48, 3) := by decide +kernel
theorem dJ2_getChar_3b067_15 : decode cJ2_getChar_3b067 15 = .ok (.if_icmp .lt 13, 3) := by decide +kernel
theorem dJ2_getChar_3b067_18 : decode cJ2_getChar_3b067 18 = .ok (.new 52, 3) := by decide +kernel
theorem dJ2_getChar_3b067_21 : decode cJ2_getChar_3b067 21 = .ok (.dup, 1) := by decide +kernel
theorem dJ2_getChar_3b067_22 : decode cJ2_getChar_3b067 22 = .ok (.ldc 54, 2) := by decide +kernel
theorem dJ2_getChar_3b067_24 : decode cJ2_getChar_3b067 24 = .ok (.invokespecial 56, 3) := by decide +kernel
theorem dJ2_getChar_3b067_27 : decode cJ2_getChar_3b067 27 = .ok (.athrow, 1) := by decide +kernel
theorem dJ2_getChar_3b067_28 : decode cJ2_getChar_3b067 28 = .ok (.iload_n 1, 1) := by decide +kernel
theorem dJ2_getChar_3b067_29 : decode cJ2_getChar_3b067 29 = .ok (.iconst 1, 1) := by decide +kernel
theorem dJ2_getChar_3b067_30 : decode cJ2_getChar_3b067 30 = .ok (.ishl, 1) := by decide +kernel
theorem dJ2_getChar_3b067_31 : decode cJ2_getChar_3b067 31 = .ok (.istore_n 1, 1) := by decide +kernel
theorem dJ2_getChar_3b067_32 : decode cJ2_getChar_3b067 32 = .ok (.aload_n 0, 1) := by decide +kernel
theorem dJ2_getChar_3b067_33 : decode cJ2_getChar_3b067 33 = .ok (.iload_n 1, 1) := by decide +kernel
theorem dJ2_getChar_3b067_34 : decode cJ2_getChar_3b067 34 = .ok (.iinc 1 1, 3) := by decide +kernel
theorem dJ2_getChar_3b067_37 : decode cJ2_getChar_3b067 37 = .ok (.baload, 1) := by decide +kernel
theorem dJ2_getChar_3b067_38 : decode cJ2_getChar_3b067 38 = .ok (.sipush 255, 3) := by decide +kernel
theorem dJ2_getChar_3b067_41 : decode cJ2_getChar_3b067 41 = .ok (.iand, 1) := by decide +kernel
theorem dJ2_getChar_3b067_42 : decode cJ2_getChar_3b067 42 = .ok (.getstatic 59, 3) := by decide +kernel
theorem dJ2_getChar_3b067_45 : decode cJ2_getChar_3b067 45 = .ok (.ishl, 1) := by decide +kernel
theorem dJ2_getChar_3b067_46 : decode cJ2_getChar_3b067 46 = .ok (.aload_n 0, 1) := by decide +kernel
theorem dJ2_getChar_3b067_47 : decode cJ2_getChar_3b067 47 = .ok (.iload_n 1, 1) := by decide +kernel
theorem dJ2_getChar_3b067_48 : decode cJ2_getChar_3b067 48 = .ok (.baload, 1) := by decide +kernel
theorem dJ2_getChar_3b067_49 : decode cJ2_getChar_3b067 49 = .ok (.sipush 255, 3) := by decide +kernel
theorem dJ2_getChar_3b067_52 : decode cJ2_getChar_3b067 52 = .ok (.iand, 1) := by decide +kernel
theorem dJ2_getChar_3b067_53 : decode cJ2_getChar_3b067 53 = .ok (.getstatic 63, 3) := by decide +kernel
theorem dJ2_getChar_3b067_56 : decode cJ2_getChar_3b067 56 = .ok (.ishl, 1) := by decide +kernel
theorem dJ2_getChar_3b067_57 : decode cJ2_getChar_3b067 57 = .ok (.ior, 1) := by decide +kernel
theorem dJ2_getChar_3b067_58 : decode cJ2_getChar_3b067 58 = .ok (.i2c, 1) := by decide +kernel
theorem dJ2_getChar_3b067_59 : decode cJ2_getChar_3b067 59 = .ok (.ireturn, 1) := by decide +kernel
theorem dJ2_length_9d52b_0 : decode cJ2_length_9d52b 0 = .ok (.aload_n 0, 1) := by decide +kernel
theorem dJ2_length_9d52b_1 : decode cJ2_length_9d52b 1 = .ok (.arraylength, 1) := by decide +kernel
theorem dJ2_length_9d52b_2 : decode cJ2_length_9d52b 2 = .ok (.iconst 1, 1) := by decide +kernel
theorem dJ2_length_9d52b_3 : decode cJ2_length_9d52b 3 = .ok (.ishr, 1) := by decide +kernel
theorem dJ2_length_9d52b_4 : decode cJ2_length_9d52b 4 = .ok (.ireturn, 1) := by decide +kernel
theorem dJ2_fillNull_b72d1_0 : decode cJ2_fillNull_b72d1 0 = .ok (.aload_n 0, 1) := by decide +kernel
theorem dJ2_fillNull_b72d1_1 : decode cJ2_fillNull_b72d1 1 = .ok (.iload_n 1, 1) := by decide +kernel
theorem dJ2_fillNull_b72d1_2 : decode cJ2_fillNull_b72d1 2 = .ok (.iconst 1, 1) := by decide +kernel
theorem dJ2_fillNull_b72d1_3 : decode cJ2_fillNull_b72d1 3 = .ok (.ishl, 1) := by decide +kernel
theorem dJ2_fillNull_b72d1_4 : decode cJ2_fillNull_b72d1 4 = .ok (.iload_n 2, 1) := by decide +kernel
theorem dJ2_fillNull_b72d1_5 : decode cJ2_fillNull_b72d1 5 = .ok (.iconst 1, 1) := by decide +kernel
theorem dJ2_fillNull_b72d1_6 : decode cJ2_fillNull_b72d1 6 = .ok (.ishl, 1) := by decide +kernel
theorem dJ2_fillNull_b72d1_7 : decode cJ2_fillNull_b72d1 7 = .ok (.iconst 0, 1) := by decide +kernel
theorem dJ2_fillNull_b72d1_8 : decode cJ2_fillNull_b72d1 8 = .ok (.invokestatic 380, 3) := by decide +kernel
theorem dJ2_fillNull_b72d1_11 : decode cJ2_fillNull_b72d1 11 = .ok (.return_, 1) := by decide +kernel
theorem dJ2_putCharSB_b72d1_0 : decode cJ2_putCharSB_b72d1 0 = .ok (.iload_n 1, 1) := by decide +kernel
theorem dJ2_putCharSB_b72d1_1 : decode cJ2_putCharSB_b72d1 1 = .ok (.aload_n 0, 1) := by decide +kernel
theorem dJ2_putCharSB_b72d1_2 : decode cJ2_putCharSB_b72d1 2 = .ok (.invokestatic 67, 3) := by decide +kernel
theorem dJ2_putCharSB_b72d1_5 : decode cJ2_putCharSB_b72d1 5 = .ok (.aload_n 0, 1) := by decide +kernel
theorem dJ2_putCharSB_b72d1_6 : decode cJ2_putCharSB_b72d1 6 = .ok (.iload_n 1, 1) := by decide +kernel
theorem dJ2_putCharSB_b72d1_7 : decode cJ2_putCharSB_b72d1 7 = .ok (.iload_n 2, 1) := by decide +kernel
theorem dJ2_putCharSB_b72d1_8 : decode cJ2_putCharSB_b72d1 8 = .ok (.invokestatic 111, 3) := by decide +kernel
theorem dJ2_putCharSB_b72d1_11 : decode cJ2_putCharSB_b72d1 11 = .ok (.return_, 1) := by decide +kernel
theorem dJ2_getChars_46870_0 : decode cJ2_getChars_46870 0 = .ok (.iload_n 1, 1) := by decide +kernel
theorem dJ2_getChars_46870_1 : decode cJ2_getChars_46870 1 = .ok (.iload_n 2, 1) := by decide +kernel
theorem dJ2_getChars_46870_2 : decode cJ2_getChars_46870 2 = .ok (.aload_n 3, 1) := by decide +kernel
theorem dJ2_getChars_46870_3 : decode cJ2_getChars_46870 3 = .ok (.invokestatic 96, 3) := by decide +kernel
theorem dJ2_getChars_46870_6 : decode cJ2_getChars_46870 6 = .ok (.iload_n 0, 1) := by decide +kernel
theorem dJ2_getChars_46870_7 : decode cJ2_getChars_46870 7 = .ok (.iload_n 2, 1) := by decide +kernel
theorem dJ2_getChars_46870_8 : decode cJ2_getChars_46870 8 = .ok (.aload_n 3, 1) := by decide +kernel
theorem dJ2_getChars_46870_9 : decode cJ2_getChars_46870 9 = .ok (.invokestatic 393, 3) := by decide +kernel
theorem dJ2_getChars_46870_12 : decode cJ2_getChars_46870 12 = .ok (.istore 4, 2) := by decide +kernel
theorem dJ2_getChars_46870_14 : decode cJ2_getChars_46870 14 = .ok (.getstatic 44, 3) := by decide +kernel
theorem dJ2_getChars_46870_17 : decode cJ2_getChars_46870 17 = .ok (.ifCond .ne 17, 3) := by decide +kernel
theorem dJ2_getChars_46870_20 : decode cJ2_getChars_46870 20 = .ok (.iload_n 1, 1) := by decide +kernel
theorem dJ2_getChars_46870_21 : decode cJ2_getChars_46870 21 = .ok (.iload 4, 2) := by decide +kernel
theorem dJ2_getChars_46870_23 : decode cJ2_getChars_46870 23 = .ok (.if_icmp .eq 11, 3) := by decide +kernel
theorem dJ2_getChars_46870_26 : decode cJ2_getChars_46870 26 = .ok (.new 52, 3) := by decide +kernel
theorem dJ2_getChars_46870_29 : decode cJ2_getChars_46870 29 = .ok (.dup, 1) := by decide +kernel
theorem dJ2_getChars_46870_30 : decode cJ2_getChars_46870 30 = .ok (.invokespecial 66, 3) := by decide +kernel
theorem dJ2_getChars_46870_33 : decode cJ2_getChars_46870 33 = .ok (.athrow, 1) := by decide +kernel
theorem dJ2_getChars_46870_34 : decode cJ2_getChars_46870 34 = .ok (.iload 4, 2) := by decide +kernel
theorem dJ2_getChars_46870_36 : decode cJ2_getChars_46870 36 = .ok (.ireturn, 1) := by decide +kernel
theorem dJ2_charAt_3b067_0 : decode cJ2_charAt_3b067 0 = .ok (.iload_n 1, 1) := by decide +kernel
theorem dJ2_charAt_3b067_1 : decode cJ2_charAt_3b067 1 = .ok (.aload_n 0, 1) := by decide +kernel
theorem dJ2_charAt_3b067_2 : decode cJ2_charAt_3b067 2 = .ok (.invokestatic 67, 3) := by decide +kernel
theorem dJ2_charAt_3b067_5 : decode cJ2_charAt_3b067 5 = .ok (.aload_n 0, 1) := by decide +kernel
theorem dJ2_charAt_3b067_6 : decode cJ2_charAt_3b067 6 = .ok (.iload_n 1, 1) := by decide +kernel
theorem dJ2_charAt_3b067_7 : decode cJ2_charAt_3b067 7 = .ok (.invokestatic 71, 3) := by decide +kernel
theorem dJ2_charAt_3b067_10 : decode cJ2_charAt_3b067 10 = .ok (.ireturn, 1) := by decide +kernel
theorem dJ2_inflate_0e8fd_0 : decode cJ2_inflate_0e8fd 0 = .ok (.iload_n 3, 1) := by decide +kernel
theorem dJ2_inflate_0e8fd_1 : decode cJ2_inflate_0e8fd 1 = .ok (.iload 4, 2) := by decide +kernel
theorem dJ2_inflate_0e8fd_3 : decode cJ2_inflate_0e8fd 3 = .ok (.aload_n 2, 1) := by decide +kernel
theorem dJ2_inflate_0e8fd_4 : decode cJ2_inflate_0e8fd 4 = .ok (.invokestatic 173, 3) := by decide +kernel
theorem dJ2_inflate_0e8fd_7 : decode cJ2_inflate_0e8fd 7 = .ok (.iconst 0, 1) := by decide +kernel
theorem dJ2_inflate_0e8fd_8 : decode cJ2_inflate_0e8fd 8 = .ok (.istore 5, 2) := by decide +kernel
theorem dJ2_inflate_0e8fd_10 : decode cJ2_inflate_0e8fd 10 = .ok (.iload 5, 2) := by decide +kernel
theorem dJ2_inflate_0e8fd_12 : decode cJ2_inflate_0e8fd 12 = .ok (.iload 4, 2) := by decide +kernel
theorem dJ2_inflate_0e8fd_14 : decode cJ2_inflate_0e8fd 14 = .ok (.if_icmp .ge 27, 3) := by decide +kernel
theorem dJ2_inflate_0e8fd_17 : decode cJ2_inflate_0e8fd 17 = .ok (.aload_n 2, 1) := by decide +kernel
theorem dJ2_inflate_0e8fd_18 : decode cJ2_inflate_0e8fd 18 = .ok (.iload_n 3, 1) := by decide +kernel
theorem dJ2_inflate_0e8fd_19 : decode cJ2_inflate_0e8fd 19 = .ok (.iinc 3 1, 3) := by decide +kernel
theorem dJ2_inflate_0e8fd_22 : decode cJ2_inflate_0e8fd 22 = .ok (.aload_n 0, 1) := by decide +kernel
theorem dJ2_inflate_0e8fd_23 : decode cJ2_inflate_0e8fd 23 = .ok (.iload_n 1, 1) := by decide +kernel
theorem dJ2_inflate_0e8fd_24 : decode cJ2_inflate_0e8fd 24 = .ok (.iinc 1 1, 3) := by decide +kernel
theorem dJ2_inflate_0e8fd_27 : decode cJ2_inflate_0e8fd 27 = .ok (.baload, 1) := by decide +kernel
theorem dJ2_inflate_0e8fd_28 : decode cJ2_inflate_0e8fd 28 = .ok (.sipush 255, 3) := by decide +kernel
theorem dJ2_inflate_0e8fd_31 : decode cJ2_inflate_0e8fd 31 = .ok (.iand, 1) := by decide +kernel
theorem dJ2_inflate_0e8fd_32 : decode cJ2_inflate_0e8fd 32 = .ok (.invokestatic 111, 3) := by decide +kernel
theorem dJ2_inflate_0e8fd_35 : decode cJ2_inflate_0e8fd 35 = .ok (.iinc 5 1, 3) := by decide +kernel
theorem dJ2_inflate_0e8fd_38 : decode cJ2_inflate_0e8fd 38 = .ok (.goto (-28), 3) := by decide +kernel
theorem dJ2_inflate_0e8fd_41 : decode cJ2_inflate_0e8fd 41 = .ok (.return_, 1) := by decide +kernel
theorem dJ2_getChars_ba4f3_0 : decode cJ2_getChars_ba4f3 0 = .ok (.iload_n 1, 1) := by decide +kernel
theorem dJ2_getChars_ba4f3_1 : decode cJ2_getChars_ba4f3 1 = .ok (.istore 5, 2) := by decide +kernel
theorem dJ2_getChars_ba4f3_3 : decode cJ2_getChars_ba4f3 3 = .ok (.iload_n 0, 1) := by decide +kernel
theorem dJ2_getChars_ba4f3_4 : decode cJ2_getChars_ba4f3 4 = .ok (.ifCond .ge 7, 3) := by decide +kernel
theorem dJ2_getChars_ba4f3_7 : decode cJ2_getChars_ba4f3 7 = .ok (.iconst 1, 1) := by decide +kernel
theorem dJ2_getChars_ba4f3_8 : decode cJ2_getChars_ba4f3 8 = .ok (.goto 4, 3) := by decide +kernel
theorem dJ2_getChars_ba4f3_11 : decode cJ2_getChars_ba4f3 11 = .ok (.iconst 0, 1) := by decide +kernel
theorem dJ2_getChars_ba4f3_12 : decode cJ2_getChars_ba4f3 12 = .ok (.istore 6, 2) := by decide +kernel
theorem dJ2_getChars_ba4f3_14 : decode cJ2_getChars_ba4f3 14 = .ok (.iload 6, 2) := by decide +kernel
theorem dJ2_getChars_ba4f3_16 : decode cJ2_getChars_ba4f3 16 = .ok (.ifCond .ne 6, 3) := by decide +kernel
theorem dJ2_getChars_ba4f3_19 : decode cJ2_getChars_ba4f3 19 = .ok (.iload_n 0, 1) := by decide +kernel
theorem dJ2_getChars_ba4f3_20 : decode cJ2_getChars_ba4f3 20 = .ok (.ineg, 1) := by decide +kernel
theorem dJ2_getChars_ba4f3_21 : decode cJ2_getChars_ba4f3 21 = .ok (.istore_n 0, 1) := by decide +kernel
theorem dJ2_getChars_ba4f3_22 : decode cJ2_getChars_ba4f3 22 = .ok (.iload_n 0, 1) := by decide +kernel
theorem dJ2_getChars_ba4f3_23 : decode cJ2_getChars_ba4f3 23 = .ok (.bipush (-100), 2) := by decide +kernel
theorem dJ2_getChars_ba4f3_25 : decode cJ2_getChars_ba4f3 25 = .ok (.if_icmp .gt 51, 3) := by decide +kernel
theorem dJ2_getChars_ba4f3_28 : decode cJ2_getChars_ba4f3 28 = .ok (.iload_n 0, 1) := by decide +kernel
theorem dJ2_getChars_ba4f3_29 : decode cJ2_getChars_ba4f3 29 = .ok (.bipush 100, 2) := by decide +kernel
theorem dJ2_getChars_ba4f3_31 : decode cJ2_getChars_ba4f3 31 = .ok (.idiv, 1) := by decide +kernel
theorem dJ2_getChars_ba4f3_32 : decode cJ2_getChars_ba4f3 32 = .ok (.istore_n 3, 1) := by decide +kernel
theorem dJ2_getChars_ba4f3_33 : decode cJ2_getChars_ba4f3 33 = .ok (.iload_n 3, 1) := by decide +kernel
theorem dJ2_getChars_ba4f3_34 : decode cJ2_getChars_ba4f3 34 = .ok (.bipush 100, 2) := by decide +kernel
theorem dJ2_getChars_ba4f3_36 : decode cJ2_getChars_ba4f3 36 = .ok (.imul, 1) := by decide +kernel
theorem dJ2_getChars_ba4f3_37 : decode cJ2_getChars_ba4f3 37 = .ok (.iload_n 0, 1) := by decide +kernel
theorem dJ2_getChars_ba4f3_38 : decode cJ2_getChars_ba4f3 38 = .ok (.isub, 1) := by decide +kernel
theorem dJ2_getChars_ba4f3_39 : decode cJ2_getChars_ba4f3 39 = .ok (.istore 4, 2) := by decide +kernel
theorem dJ2_getChars_ba4f3_41 : decode cJ2_getChars_ba4f3 41 = .ok (.iload_n 3, 1) := by decide +kernel
theorem dJ2_getChars_ba4f3_42 : decode cJ2_getChars_ba4f3 42 = .ok (.istore_n 0, 1) := by decide +kernel
theorem dJ2_getChars_ba4f3_43 : decode cJ2_getChars_ba4f3 43 = .ok (.aload_n 2, 1) := by decide +kernel
theorem dJ2_getChars_ba4f3_44 : decode cJ2_getChars_ba4f3 44 = .ok (.iinc 5 (-1), 3) := by decide +kernel
theorem dJ2_getChars_ba4f3_47 : decode cJ2_getChars_ba4f3 47 = .ok (.iload 5, 2) := by decide +kernel
theorem dJ2_getChars_ba4f3_49 : decode cJ2_getChars_ba4f3 49 = .ok (.getstatic 403, 3) := by decide +kernel
theorem dJ2_getChars_ba4f3_52 : decode cJ2_getChars_ba4f3 52 = .ok (.iload 4, 2) := by decide +kernel
theorem dJ2_getChars_ba4f3_54 : decode cJ2_getChars_ba4f3 54 = .ok (.baload, 1) := by decide +kernel
theorem dJ2_getChars_ba4f3_55 : decode cJ2_getChars_ba4f3 55 = .ok (.invokestatic 111, 3) := by decide +kernel
theorem dJ2_getChars_ba4f3_58 : decode cJ2_getChars_ba4f3 58 = .ok (.aload_n 2, 1) := by decide +kernel
theorem dJ2_getChars_ba4f3_59 : decode cJ2_getChars_ba4f3 59 = .ok (.iinc 5 (-1), 3) := by decide +kernel
theorem dJ2_getChars_ba4f3_62 : decode cJ2_getChars_ba4f3 62 = .ok (.iload 5, 2) := by decide +kernel
theorem dJ2_getChars_ba4f3_64 : decode cJ2_getChars_ba4f3 64 = .ok (.getstatic 407, 3) := by decide +kernel
theorem dJ2_getChars_ba4f3_67 : decode cJ2_getChars_ba4f3 67 = .ok (.iload 4, 2) := by decide +kernel
theorem dJ2_getChars_ba4f3_69 : decode cJ2_getChars_ba4f3 69 = .ok (.baload, 1) := by decide +kernel
theorem dJ2_getChars_ba4f3_70 : decode cJ2_getChars_ba4f3 70 = .ok (.invokestatic 111, 3) := by decide +kernel
theorem dJ2_getChars_ba4f3_73 : decode cJ2_getChars_ba4f3 73 = .ok (.goto (-51), 3) := by decide +kernel
theorem dJ2_getChars_ba4f3_76 : decode cJ2_getChars_ba4f3 76 = .ok (.aload_n 2, 1) := by decide +kernel
theorem dJ2_getChars_ba4f3_77 : decode cJ2_getChars_ba4f3 77 = .ok (.iinc 5 (-1), 3) := by decide +kernel
theorem dJ2_getChars_ba4f3_80 : decode cJ2_getChars_ba4f3 80 = .ok (.iload 5, 2) := by decide +kernel
theorem dJ2_getChars_ba4f3_82 : decode cJ2_getChars_ba4f3 82 = .ok (.getstatic 403, 3) := by decide +kernel
theorem dJ2_getChars_ba4f3_85 : decode cJ2_getChars_ba4f3 85 = .ok (.iload_n 0, 1) := by decide +kernel
theorem dJ2_getChars_ba4f3_86 : decode cJ2_getChars_ba4f3 86 = .ok (.ineg, 1) := by decide +kernel
theorem dJ2_getChars_ba4f3_87 : decode cJ2_getChars_ba4f3 87 = .ok (.baload, 1) := by decide +kernel
theorem dJ2_getChars_ba4f3_88 : decode cJ2_getChars_ba4f3 88 = .ok (.invokestatic 111, 3) := by decide +kernel
theorem dJ2_getChars_ba4f3_91 : decode cJ2_getChars_ba4f3 91 = .ok (.iload_n 0, 1) := by decide +kernel
theorem dJ2_getChars_ba4f3_92 : decode cJ2_getChars_ba4f3 92 = .ok (.bipush (-9), 2) := by decide +kernel
theorem dJ2_getChars_ba4f3_94 : decode cJ2_getChars_ba4f3 94 = .ok (.if_icmp .ge 18, 3) := by decide +kernel
theorem dJ2_getChars_ba4f3_97 : decode cJ2_getChars_ba4f3 97 = .ok (.aload_n 2, 1) := by decide +kernel
theorem dJ2_getChars_ba4f3_98 : decode cJ2_getChars_ba4f3 98 = .ok (.iinc 5 (-1), 3) := by decide +kernel
theorem dJ2_getChars_ba4f3_101 : decode cJ2_getChars_ba4f3 101 = .ok (.iload 5, 2) := by decide +kernel
theorem dJ2_getChars_ba4f3_103 : decode cJ2_getChars_ba4f3 103 = .ok (.getstatic 407, 3) := by decide +kernel
theorem dJ2_getChars_ba4f3_106 : decode cJ2_getChars_ba4f3 106 = .ok (.iload_n 0, 1) := by decide +kernel
theorem dJ2_getChars_ba4f3_107 : decode cJ2_getChars_ba4f3 107 = .ok (.ineg, 1) := by decide +kernel
theorem dJ2_getChars_ba4f3_108 : decode cJ2_getChars_ba4f3 108 = .ok (.baload, 1) := by decide +kernel
theorem dJ2_getChars_ba4f3_109 : decode cJ2_getChars_ba4f3 109 = .ok (.invokestatic 111, 3) := by decide +kernel
theorem dJ2_getChars_ba4f3_112 : decode cJ2_getChars_ba4f3 112 = .ok (.iload 6, 2) := by decide +kernel
theorem dJ2_getChars_ba4f3_114 : decode cJ2_getChars_ba4f3 114 = .ok (.ifCond .eq 14, 3) := by decide +kernel
theorem dJ2_getChars_ba4f3_117 : decode cJ2_getChars_ba4f3 117 = .ok (.aload_n 2, 1) := by decide +kernel
theorem dJ2_getChars_ba4f3_118 : decode cJ2_getChars_ba4f3 118 = .ok (.iinc 5 (-1), 3) := by decide +kernel
theorem dJ2_getChars_ba4f3_121 : decode cJ2_getChars_ba4f3 121 = .ok (.iload 5, 2) := by decide +kernel
theorem dJ2_getChars_ba4f3_123 : decode cJ2_getChars_ba4f3 123 = .ok (.bipush 45, 2) := by decide +kernel
theorem dJ2_getChars_ba4f3_125 : decode cJ2_getChars_ba4f3 125 = .ok (.invokestatic 111, 3) := by decide +kernel
theorem dJ2_getChars_ba4f3_128 : decode cJ2_getChars_ba4f3 128 = .ok (.iload 5, 2) := by decide +kernel
theorem dJ2_getChars_ba4f3_130 : decode cJ2_getChars_ba4f3 130 = .ok (.ireturn, 1) := by decide +kernel
theorem dJ2_checkIndex_2214a_0 : decode cJ2_checkIndex_2214a 0 = .ok (.iload_n 0, 1) := by decide +kernel
theorem dJ2_checkIndex_2214a_1 : decode cJ2_checkIndex_2214a 1 = .ok (.aload_n 1, 1) := by decide +kernel
theorem dJ2_checkIndex_2214a_2 : decode cJ2_checkIndex_2214a 2 = .ok (.invokestatic 48, 3) := by decide +kernel
theorem dJ2_checkIndex_2214a_5 : decode cJ2_checkIndex_2214a 5 = .ok (.invokestatic 414, 3) := by decide +kernel
theorem dJ2_checkIndex_2214a_8 : decode cJ2_checkIndex_2214a 8 = .ok (.return_, 1) := by decide +kernel
theorem dJ2_checkBoundsBeginEnd_d044e_0 : decode cJ2_checkBoundsBeginEnd_d044e 0 = .ok (.iload_n 0, 1) := by decide +kernel
theorem dJ2_checkBoundsBeginEnd_d044e_1 : decode cJ2_checkBoundsBeginEnd_d044e 1 = .ok (.iload_n 1, 1) := by decide +kernel
theorem dJ2_checkBoundsBeginEnd_d044e_2 : decode cJ2_checkBoundsBeginEnd_d044e 2 = .ok (.aload_n 2, 1) := by decide +kernel
theorem dJ2_checkBoundsBeginEnd_d044e_3 : decode cJ2_checkBoundsBeginEnd_d044e 3 = .ok (.invokestatic 48, 3) := by decide +kernel
theorem dJ2_checkBoundsBeginEnd_d044e_6 : decode cJ2_checkBoundsBeginEnd_d044e 6 = .ok (.invokestatic 241, 3) := by decide +kernel
theorem dJ2_checkBoundsBeginEnd_d044e_9 : decode cJ2_checkBoundsBeginEnd_d044e 9 = .ok (.return_, 1) := by decide +kernel
theorem dJ2_checkBoundsOffCount_d044e_0 : decode cJ2_checkBoundsOffCount_d044e 0 = .ok (.iload_n 0, 1) := by decide +kernel
theorem dJ2_checkBoundsOffCount_d044e_1 : decode cJ2_checkBoundsOffCount_d044e 1 = .ok (.iload_n 1, 1) := by decide +kernel
theorem dJ2_checkBoundsOffCount_d044e_2 : decode cJ2_checkBoundsOffCount_d044e 2 = .ok (.aload_n 2, 1) := by decide +kernel
theorem dJ2_checkBoundsOffCount_d044e_3 : decode cJ2_checkBoundsOffCount_d044e 3 = .ok (.invokestatic 48, 3) := by decide +kernel
theorem dJ2_checkBoundsOffCount_d044e_6 : decode cJ2_checkBoundsOffCount_d044e 6 = .ok (.invokestatic 419, 3) := by decide +kernel
theorem dJ2_checkBoundsOffCount_d044e_9 : decode cJ2_checkBoundsOffCount_d044e 9 = .ok (.pop, 1) := by decide +kernel
theorem dJ2_checkBoundsOffCount_d044e_10 : decode cJ2_checkBoundsOffCount_d044e 10 = .ok (.return_, 1) := by decide +kernel
theorem dJ7_rangeCheck_23922_0 : decode cJ7_rangeCheck_23922 0 = .ok (.iload_n 1, 1) := by decide +kernel
theorem dJ7_rangeCheck_23922_1 : decode cJ7_rangeCheck_23922 1 = .ok (.iload_n 2, 1) := by decide +kernel
theorem dJ7_rangeCheck_23922_2 : decode cJ7_rangeCheck_23922 2 = .ok (.if_icmp .le 44, 3) := by decide +kernel
theorem dJ7_rangeCheck_23922_5 : decode cJ7_rangeCheck_23922 5 = .ok (.new 43, 3) := by decide +kernel
theorem dJ7_rangeCheck_23922_8 : decode cJ7_rangeCheck_23922 8 = .ok (.dup, 1) := by decide +kernel
theorem dJ7_rangeCheck_23922_9 : decode cJ7_rangeCheck_23922 9 = .ok (.new 45, 3) := by decide +kernel
theorem dJ7_rangeCheck_23922_12 : decode cJ7_rangeCheck_23922 12 = .ok (.dup, 1) := by decide +kernel
theorem dJ7_rangeCheck_23922_13 : decode cJ7_rangeCheck_23922 13 = .ok (.invokespecial 47, 3) := by decide +kernel
theorem dJ7_rangeCheck_23922_16 : decode cJ7_rangeCheck_23922 16 = .ok (.ldc 48, 2) := by decide +kernel
theorem dJ7_rangeCheck_23922_18 : decode cJ7_rangeCheck_23922 18 = .ok (.invokevirtual 50, 3) := by decide +kernel
theorem dJ7_rangeCheck_23922_21 : decode cJ7_rangeCheck_23922 21 = .ok (.iload_n 1, 1) := by decide +kernel
theorem dJ7_rangeCheck_23922_22 : decode cJ7_rangeCheck_23922 22 = .ok (.invokevirtual 54, 3) := by decide +kernel
theorem dJ7_rangeCheck_23922_25 : decode cJ7_rangeCheck_23922 25 = .ok (.ldc 57, 2) := by decide +kernel
theorem dJ7_rangeCheck_23922_27 : decode cJ7_rangeCheck_23922 27 = .ok (.invokevirtual 50, 3) := by decide +kernel
theorem dJ7_rangeCheck_23922_30 : decode cJ7_rangeCheck_23922 30 = .ok (.iload_n 2, 1) := by decide +kernel
theorem dJ7_rangeCheck_23922_31 : decode cJ7_rangeCheck_23922 31 = .ok (.invokevirtual 54, 3) := by decide +kernel
theorem dJ7_rangeCheck_23922_34 : decode cJ7_rangeCheck_23922 34 = .ok (.ldc 59, 2) := by decide +kernel
theorem dJ7_rangeCheck_23922_36 : decode cJ7_rangeCheck_23922 36 = .ok (.invokevirtual 50, 3) := by decide +kernel
theorem dJ7_rangeCheck_23922_39 : decode cJ7_rangeCheck_23922 39 = .ok (.invokevirtual 61, 3) := by decide +kernel
theorem dJ7_rangeCheck_23922_42 : decode cJ7_rangeCheck_23922 42 = .ok (.invokespecial 65, 3) := by decide +kernel
theorem dJ7_rangeCheck_23922_45 : decode cJ7_rangeCheck_23922 45 = .ok (.athrow, 1) := by decide +kernel
theorem dJ7_rangeCheck_23922_46 : decode cJ7_rangeCheck_23922 46 = .ok (.iload_n 1, 1) := by decide +kernel
theorem dJ7_rangeCheck_23922_47 : decode cJ7_rangeCheck_23922 47 = .ok (.ifCond .ge 12, 3) := by decide +kernel
theorem dJ7_rangeCheck_23922_50 : decode cJ7_rangeCheck_23922 50 = .ok (.new 68, 3) := by decide +kernel
theorem dJ7_rangeCheck_23922_53 : decode cJ7_rangeCheck_23922 53 = .ok (.dup, 1) := by decide +kernel
theorem dJ7_rangeCheck_23922_54 : decode cJ7_rangeCheck_23922 54 = .ok (.iload_n 1, 1) := by decide +kernel
theorem dJ7_rangeCheck_23922_55 : decode cJ7_rangeCheck_23922 55 = .ok (.invokespecial 70, 3) := by decide +kernel
theorem dJ7_rangeCheck_23922_58 : decode cJ7_rangeCheck_23922 58 = .ok (.athrow, 1) := by decide +kernel
theorem dJ7_rangeCheck_23922_59 : decode cJ7_rangeCheck_23922 59 = .ok (.iload_n 2, 1) := by decide +kernel
theorem dJ7_rangeCheck_23922_60 : decode cJ7_rangeCheck_23922 60 = .ok (.iload_n 0, 1) := by decide +kernel
theorem dJ7_rangeCheck_23922_61 : decode cJ7_rangeCheck_23922 61 = .ok (.if_icmp .le 12, 3) := by decide +kernel
theorem dJ7_rangeCheck_23922_64 : decode cJ7_rangeCheck_23922 64 = .ok (.new 68, 3) := by decide +kernel
theorem dJ7_rangeCheck_23922_67 : decode cJ7_rangeCheck_23922 67 = .ok (.dup, 1) := by decide +kernel
theorem dJ7_rangeCheck_23922_68 : decode cJ7_rangeCheck_23922 68 = .ok (.iload_n 2, 1) := by decide +kernel
theorem dJ7_rangeCheck_23922_69 : decode cJ7_rangeCheck_23922 69 = .ok (.invokespecial 70, 3) := by decide +kernel
theorem dJ7_rangeCheck_23922_72 : decode cJ7_rangeCheck_23922 72 = .ok (.athrow, 1) := by decide +kernel
theorem dJ7_rangeCheck_23922_73 : decode cJ7_rangeCheck_23922 73 = .ok (.return_, 1) := by decide +kernel
theorem dJ7_fill_53178_0 : decode cJ7_fill_53178 0 = .ok (.iconst 0, 1) := by decide +kernel
theorem dJ7_fill_53178_1 : decode cJ7_fill_53178 1 = .ok (.istore_n 2, 1) := by decide +kernel
theorem dJ7_fill_53178_2 : decode cJ7_fill_53178 2 = .ok (.aload_n 0, 1) := by decide +kernel
theorem dJ7_fill_53178_3 : decode cJ7_fill_53178 3 = .ok (.arraylength, 1) := by decide +kernel
theorem dJ7_fill_53178_4 : decode cJ7_fill_53178 4 = .ok (.istore_n 3, 1) := by decide +kernel
theorem dJ7_fill_53178_5 : decode cJ7_fill_53178 5 = .ok (.iload_n 2, 1) := by decide +kernel
theorem dJ7_fill_53178_6 : decode cJ7_fill_53178 6 = .ok (.iload_n 3, 1) := by decide +kernel
theorem dJ7_fill_53178_7 : decode cJ7_fill_53178 7 = .ok (.if_icmp .ge 13, 3) := by decide +kernel
theorem dJ7_fill_53178_10 : decode cJ7_fill_53178 10 = .ok (.aload_n 0, 1) := by decide +kernel
theorem dJ7_fill_53178_11 : decode cJ7_fill_53178 11 = .ok (.iload_n 2, 1) := by decide +kernel
theorem dJ7_fill_53178_12 : decode cJ7_fill_53178 12 = .ok (.iload_n 1, 1) := by decide +kernel
theorem dJ7_fill_53178_13 : decode cJ7_fill_53178 13 = .ok (.iastore, 1) := by decide +kernel
theorem dJ7_fill_53178_14 : decode cJ7_fill_53178 14 = .ok (.iinc 2 1, 3) := by decide +kernel
theorem dJ7_fill_53178_17 : decode cJ7_fill_53178 17 = .ok (.goto (-12), 3) := by decide +kernel
theorem dJ7_fill_53178_20 : decode cJ7_fill_53178 20 = .ok (.return_, 1) := by decide +kernel
theorem dJ7_fill_eb02e_0 : decode cJ7_fill_eb02e 0 = .ok (.aload_n 0, 1) := by decide +kernel
theorem dJ7_fill_eb02e_1 : decode cJ7_fill_eb02e 1 = .ok (.arraylength, 1) := by decide +kernel
theorem dJ7_fill_eb02e_2 : decode cJ7_fill_eb02e 2 = .ok (.iload_n 1, 1) := by decide +kernel
theorem dJ7_fill_eb02e_3 : decode cJ7_fill_eb02e 3 = .ok (.iload_n 2, 1) := by decide +kernel
theorem dJ7_fill_eb02e_4 : decode cJ7_fill_eb02e 4 = .ok (.invokestatic 13, 3) := by decide +kernel
theorem dJ7_fill_eb02e_7 : decode cJ7_fill_eb02e 7 = .ok (.iload_n 1, 1) := by decide +kernel
theorem dJ7_fill_eb02e_8 : decode cJ7_fill_eb02e 8 = .ok (.istore 4, 2) := by decide +kernel
theorem dJ7_fill_eb02e_10 : decode cJ7_fill_eb02e 10 = .ok (.iload 4, 2) := by decide +kernel
theorem dJ7_fill_eb02e_12 : decode cJ7_fill_eb02e 12 = .ok (.iload_n 2, 1) := by decide +kernel
theorem dJ7_fill_eb02e_13 : decode cJ7_fill_eb02e 13 = .ok (.if_icmp .ge 14, 3) := by decide +kernel
theorem dJ7_fill_eb02e_16 : decode cJ7_fill_eb02e 16 = .ok (.aload_n 0, 1) := by decide +kernel
theorem dJ7_fill_eb02e_17 : decode cJ7_fill_eb02e 17 = .ok (.iload 4, 2) := by decide +kernel
theorem dJ7_fill_eb02e_19 : decode cJ7_fill_eb02e 19 = .ok (.iload_n 3, 1) := by decide +kernel
theorem dJ7_fill_eb02e_20 : decode cJ7_fill_eb02e 20 = .ok (.bastore, 1) := by decide +kernel
theorem dJ7_fill_eb02e_21 : decode cJ7_fill_eb02e 21 = .ok (.iinc 4 1, 3) := by decide +kernel
theorem dJ7_fill_eb02e_24 : decode cJ7_fill_eb02e 24 = .ok (.goto (-14), 3) := by decide +kernel
theorem dJ7_fill_eb02e_27 : decode cJ7_fill_eb02e 27 = .ok (.return_, 1) := by decide +kernel
theorem dJ7_copyOf_9075b_0 : decode cJ7_copyOf_9075b 0 = .ok (.iload_n 1, 1) := by decide +kernel
theorem dJ7_copyOf_9075b_1 : decode cJ7_copyOf_9075b 1 = .ok (.aload_n 0, 1) := by decide +kernel
theorem dJ7_copyOf_9075b_2 : decode cJ7_copyOf_9075b 2 = .ok (.arraylength, 1) := by decide +kernel
theorem dJ7_copyOf_9075b_3 : decode cJ7_copyOf_9075b 3 = .ok (.if_icmp .ne 11, 3) := by decide +kernel
theorem dJ7_copyOf_9075b_6 : decode cJ7_copyOf_9075b 6 = .ok (.aload_n 0, 1) := by decide +kernel
theorem dJ7_copyOf_9075b_7 : decode cJ7_copyOf_9075b 7 = .ok (.invokevirtual 310, 3) := by decide +kernel
theorem dJ7_copyOf_9075b_10 : decode cJ7_copyOf_9075b 10 = .ok (.checkcast 311, 3) := by decide +kernel
theorem dJ7_copyOf_9075b_13 : decode cJ7_copyOf_9075b 13 = .ok (.areturn, 1) := by decide +kernel
theorem dJ7_copyOf_9075b_14 : decode cJ7_copyOf_9075b 14 = .ok (.iload_n 1, 1) := by decide +kernel
theorem dJ7_copyOf_9075b_15 : decode cJ7_copyOf_9075b 15 = .ok (.newarray .byte, 2) := by decide +kernel
theorem dJ7_copyOf_9075b_17 : decode cJ7_copyOf_9075b 17 = .ok (.astore_n 2, 1) := by decide +kernel
theorem dJ7_copyOf_9075b_18 : decode cJ7_copyOf_9075b 18 = .ok (.aload_n 0, 1) := by decide +kernel
theorem dJ7_copyOf_9075b_19 : decode cJ7_copyOf_9075b 19 = .ok (.iconst 0, 1) := by decide +kernel
theorem dJ7_copyOf_9075b_20 : decode cJ7_copyOf_9075b 20 = .ok (.aload_n 2, 1) := by decide +kernel
theorem dJ7_copyOf_9075b_21 : decode cJ7_copyOf_9075b 21 = .ok (.iconst 0, 1) := by decide +kernel
theorem dJ7_copyOf_9075b_22 : decode cJ7_copyOf_9075b 22 = .ok (.aload_n 0, 1) := by decide +kernel
theorem dJ7_copyOf_9075b_23 : decode cJ7_copyOf_9075b 23 = .ok (.arraylength, 1) := by decide +kernel
theorem dJ7_copyOf_9075b_24 : decode cJ7_copyOf_9075b 24 = .ok (.iload_n 1, 1) := by decide +kernel
theorem dJ7_copyOf_9075b_25 : decode cJ7_copyOf_9075b 25 = .ok (.invokestatic 304, 3) := by decide +kernel
theorem dJ7_copyOf_9075b_28 : decode cJ7_copyOf_9075b 28 = .ok (.invokestatic 150, 3) := by decide +kernel
theorem dJ7_copyOf_9075b_31 : decode cJ7_copyOf_9075b 31 = .ok (.aload_n 2, 1) := by decide +kernel
theorem dJ7_copyOf_9075b_32 : decode cJ7_copyOf_9075b 32 = .ok (.areturn, 1) := by decide +kernel
theorem dJ8_newLength_cabcc_0 : decode cJ8_newLength_cabcc 0 = .ok (.iload_n 0, 1) := by decide +kernel
theorem dJ8_newLength_cabcc_1 : decode cJ8_newLength_cabcc 1 = .ok (.iload_n 1, 1) := by decide +kernel
theorem dJ8_newLength_cabcc_2 : decode cJ8_newLength_cabcc 2 = .ok (.iload_n 2, 1) := by decide +kernel
theorem dJ8_newLength_cabcc_3 : decode cJ8_newLength_cabcc 3 = .ok (.invokestatic 194, 3) := by decide +kernel
theorem dJ8_newLength_cabcc_6 : decode cJ8_newLength_cabcc 6 = .ok (.iadd, 1) := by decide +kernel
theorem dJ8_newLength_cabcc_7 : decode cJ8_newLength_cabcc 7 = .ok (.istore_n 3, 1) := by decide +kernel
theorem dJ8_newLength_cabcc_8 : decode cJ8_newLength_cabcc 8 = .ok (.iconst 0, 1) := by decide +kernel
theorem dJ8_newLength_cabcc_9 : decode cJ8_newLength_cabcc 9 = .ok (.iload_n 3, 1) := by decide +kernel
theorem dJ8_newLength_cabcc_10 : decode cJ8_newLength_cabcc 10 = .ok (.if_icmp .ge 11, 3) := by decide +kernel
theorem dJ8_newLength_cabcc_13 : decode cJ8_newLength_cabcc 13 = .ok (.iload_n 3, 1) := by decide +kernel
theorem dJ8_newLength_cabcc_14 : decode cJ8_newLength_cabcc 14 = .ok (.ldc 200, 2) := by decide +kernel
theorem dJ8_newLength_cabcc_16 : decode cJ8_newLength_cabcc 16 = .ok (.if_icmp .gt 5, 3) := by decide +kernel
theorem dJ8_newLength_cabcc_19 : decode cJ8_newLength_cabcc 19 = .ok (.iload_n 3, 1) := by decide +kernel
theorem dJ8_newLength_cabcc_20 : decode cJ8_newLength_cabcc 20 = .ok (.ireturn, 1) := by decide +kernel
theorem dJ8_newLength_cabcc_21 : decode cJ8_newLength_cabcc 21 = .ok (.iload_n 0, 1) := by decide +kernel
theorem dJ8_newLength_cabcc_22 : decode cJ8_newLength_cabcc 22 = .ok (.iload_n 1, 1) := by decide +kernel
theorem dJ8_newLength_cabcc_23 : decode cJ8_newLength_cabcc 23 = .ok (.invokestatic 201, 3) := by decide +kernel
theorem dJ8_newLength_cabcc_26 : decode cJ8_newLength_cabcc 26 = .ok (.ireturn, 1) := by decide +kernel
theorem dJ8_hugeLength_7cf53_0 : decode cJ8_hugeLength_7cf53 0 = .ok (.iload_n 0, 1) := by decide +kernel
theorem dJ8_hugeLength_7cf53_1 : decode cJ8_hugeLength_7cf53 1 = .ok (.iload_n 1, 1) := by decide +kernel
theorem dJ8_hugeLength_7cf53_2 : decode cJ8_hugeLength_7cf53 2 = .ok (.iadd, 1) := by decide +kernel
theorem dJ8_hugeLength_7cf53_3 : decode cJ8_hugeLength_7cf53 3 = .ok (.istore_n 2, 1) := by decide +kernel
theorem dJ8_hugeLength_7cf53_4 : decode cJ8_hugeLength_7cf53 4 = .ok (.iload_n 2, 1) := by decide +kernel
theorem dJ8_hugeLength_7cf53_5 : decode cJ8_hugeLength_7cf53 5 = .ok (.ifCond .ge 44, 3) := by decide +kernel
theorem dJ8_hugeLength_7cf53_8 : decode cJ8_hugeLength_7cf53 8 = .ok (.new 204, 3) := by decide +kernel
theorem dJ8_hugeLength_7cf53_11 : decode cJ8_hugeLength_7cf53 11 = .ok (.dup, 1) := by decide +kernel
theorem dJ8_hugeLength_7cf53_12 : decode cJ8_hugeLength_7cf53 12 = .ok (.new 89, 3) := by decide +kernel
theorem dJ8_hugeLength_7cf53_15 : decode cJ8_hugeLength_7cf53 15 = .ok (.dup, 1) := by decide +kernel
theorem dJ8_hugeLength_7cf53_16 : decode cJ8_hugeLength_7cf53 16 = .ok (.invokespecial 91, 3) := by decide +kernel
theorem dJ8_hugeLength_7cf53_19 : decode cJ8_hugeLength_7cf53 19 = .ok (.ldc 206, 2) := by decide +kernel
theorem dJ8_hugeLength_7cf53_21 : decode cJ8_hugeLength_7cf53 21 = .ok (.invokevirtual 94, 3) := by decide +kernel
theorem dJ8_hugeLength_7cf53_24 : decode cJ8_hugeLength_7cf53 24 = .ok (.iload_n 0, 1) := by decide +kernel
theorem dJ8_hugeLength_7cf53_25 : decode cJ8_hugeLength_7cf53 25 = .ok (.invokevirtual 98, 3) := by decide +kernel
theorem dJ8_hugeLength_7cf53_28 : decode cJ8_hugeLength_7cf53 28 = .ok (.ldc 208, 2) := by decide +kernel
theorem dJ8_hugeLength_7cf53_30 : decode cJ8_hugeLength_7cf53 30 = .ok (.invokevirtual 94, 3) := by decide +kernel
theorem dJ8_hugeLength_7cf53_33 : decode cJ8_hugeLength_7cf53 33 = .ok (.iload_n 1, 1) := by decide +kernel
theorem dJ8_hugeLength_7cf53_34 : decode cJ8_hugeLength_7cf53 34 = .ok (.invokevirtual 98, 3) := by decide +kernel
theorem dJ8_hugeLength_7cf53_37 : decode cJ8_hugeLength_7cf53 37 = .ok (.ldc 210, 2) := by decide +kernel
theorem dJ8_hugeLength_7cf53_39 : decode cJ8_hugeLength_7cf53 39 = .ok (.invokevirtual 94, 3) := by decide +kernel
theorem dJ8_hugeLength_7cf53_42 : decode cJ8_hugeLength_7cf53 42 = .ok (.invokevirtual 101, 3) := by decide +kernel
theorem dJ8_hugeLength_7cf53_45 : decode cJ8_hugeLength_7cf53 45 = .ok (.invokespecial 212, 3) := by decide +kernel
theorem dJ8_hugeLength_7cf53_48 : decode cJ8_hugeLength_7cf53 48 = .ok (.athrow, 1) := by decide +kernel
theorem dJ8_hugeLength_7cf53_49 : decode cJ8_hugeLength_7cf53 49 = .ok (.iload_n 2, 1) := by decide +kernel
theorem dJ8_hugeLength_7cf53_50 : decode cJ8_hugeLength_7cf53 50 = .ok (.ldc 200, 2) := by decide +kernel
theorem dJ8_hugeLength_7cf53_52 : decode cJ8_hugeLength_7cf53 52 = .ok (.if_icmp .gt 6, 3) := by decide +kernel
theorem dJ8_hugeLength_7cf53_55 : decode cJ8_hugeLength_7cf53 55 = .ok (.ldc 200, 2) := by decide +kernel
theorem dJ8_hugeLength_7cf53_57 : decode cJ8_hugeLength_7cf53 57 = .ok (.ireturn, 1) := by decide +kernel
theorem dJ8_hugeLength_7cf53_58 : decode cJ8_hugeLength_7cf53 58 = .ok (.iload_n 2, 1) := by decide +kernel
theorem dJ8_hugeLength_7cf53_59 : decode cJ8_hugeLength_7cf53 59 = .ok (.ireturn, 1) := by decide +kernel
theorem dJ3_checkIndex_8e157_0 : decode cJ3_checkIndex_8e157 0 = .ok (.iload_n 0, 1) := by decide +kernel
theorem dJ3_checkIndex_8e157_1 : decode cJ3_checkIndex_8e157 1 = .ok (.ifCond .lt 8, 3) := by decide +kernel
theorem dJ3_checkIndex_8e157_4 : decode cJ3_checkIndex_8e157 4 = .ok (.iload_n 0, 1) := by decide +kernel
theorem dJ3_checkIndex_8e157_5 : decode cJ3_checkIndex_8e157 5 = .ok (.iload_n 1, 1) := by decide +kernel
theorem dJ3_checkIndex_8e157_6 : decode cJ3_checkIndex_8e157 6 = .ok (.if_icmp .lt 10, 3) := by decide +kernel
theorem dJ3_checkIndex_8e157_9 : decode cJ3_checkIndex_8e157 9 = .ok (.aload_n 2, 1) := by decide +kernel
theorem dJ3_checkIndex_8e157_10 : decode cJ3_checkIndex_8e157 10 = .ok (.iload_n 0, 1) := by decide +kernel
theorem dJ3_checkIndex_8e157_11 : decode cJ3_checkIndex_8e157 11 = .ok (.iload_n 1, 1) := by decide +kernel
theorem dJ3_checkIndex_8e157_12 : decode cJ3_checkIndex_8e157 12 = .ok (.invokestatic 95, 3) := by decide +kernel
theorem dJ3_checkIndex_8e157_15 : decode cJ3_checkIndex_8e157 15 = .ok (.athrow, 1) := by decide +kernel
theorem dJ3_checkIndex_8e157_16 : decode cJ3_checkIndex_8e157 16 = .ok (.iload_n 0, 1) := by decide +kernel
theorem dJ3_checkIndex_8e157_17 : decode cJ3_checkIndex_8e157 17 = .ok (.ireturn, 1) := by decide +kernel
theorem dJ3_checkFromToIndex_8c36e_0 : decode cJ3_checkFromToIndex_8c36e 0 = .ok (.iload_n 0, 1) := by decide +kernel
theorem dJ3_checkFromToIndex_8c36e_1 : decode cJ3_checkFromToIndex_8c36e 1 = .ok (.ifCond .lt 13, 3) := by decide +kernel
theorem dJ3_checkFromToIndex_8c36e_4 : decode cJ3_checkFromToIndex_8c36e 4 = .ok (.iload_n 0, 1) := by decide +kernel
theorem dJ3_checkFromToIndex_8c36e_5 : decode cJ3_checkFromToIndex_8c36e 5 = .ok (.iload_n 1, 1) := by decide +kernel
theorem dJ3_checkFromToIndex_8c36e_6 : decode cJ3_checkFromToIndex_8c36e 6 = .ok (.if_icmp .gt 8, 3) := by decide +kernel
theorem dJ3_checkFromToIndex_8c36e_9 : decode cJ3_checkFromToIndex_8c36e 9 = .ok (.iload_n 1, 1) := by decide +kernel
theorem dJ3_checkFromToIndex_8c36e_10 : decode cJ3_checkFromToIndex_8c36e 10 = .ok (.iload_n 2, 1) := by decide +kernel
theorem dJ3_checkFromToIndex_8c36e_11 : decode cJ3_checkFromToIndex_8c36e 11 = .ok (.if_icmp .le 11, 3) := by decide +kernel
theorem dJ3_checkFromToIndex_8c36e_14 : decode cJ3_checkFromToIndex_8c36e 14 = .ok (.aload_n 3, 1) := by decide +kernel
theorem dJ3_checkFromToIndex_8c36e_15 : decode cJ3_checkFromToIndex_8c36e 15 = .ok (.iload_n 0, 1) := by decide +kernel
theorem dJ3_checkFromToIndex_8c36e_16 : decode cJ3_checkFromToIndex_8c36e 16 = .ok (.iload_n 1, 1) := by decide +kernel
theorem dJ3_checkFromToIndex_8c36e_17 : decode cJ3_checkFromToIndex_8c36e 17 = .ok (.iload_n 2, 1) := by decide +kernel
theorem dJ3_checkFromToIndex_8c36e_18 : decode cJ3_checkFromToIndex_8c36e 18 = .ok (.invokestatic 99, 3) := by decide +kernel
theorem dJ3_checkFromToIndex_8c36e_21 : decode cJ3_checkFromToIndex_8c36e 21 = .ok (.athrow, 1) := by decide +kernel
theorem dJ3_checkFromToIndex_8c36e_22 : decode cJ3_checkFromToIndex_8c36e 22 = .ok (.iload_n 0, 1) := by decide +kernel
theorem dJ3_checkFromToIndex_8c36e_23 : decode cJ3_checkFromToIndex_8c36e 23 = .ok (.ireturn, 1) := by decide +kernel
theorem dJ3_checkFromIndexSize_8c36e_0 : decode cJ3_checkFromIndexSize_8c36e 0 = .ok (.iload_n 2, 1) := by decide +kernel
theorem dJ3_checkFromIndexSize_8c36e_1 : decode cJ3_checkFromIndexSize_8c36e 1 = .ok (.iload_n 0, 1) := by decide +kernel
theorem dJ3_checkFromIndexSize_8c36e_2 : decode cJ3_checkFromIndexSize_8c36e 2 = .ok (.ior, 1) := by decide +kernel
theorem dJ3_checkFromIndexSize_8c36e_3 : decode cJ3_checkFromIndexSize_8c36e 3 = .ok (.iload_n 1, 1) := by decide +kernel
theorem dJ3_checkFromIndexSize_8c36e_4 : decode cJ3_checkFromIndexSize_8c36e 4 = .ok (.ior, 1) := by decide +kernel
theorem dJ3_checkFromIndexSize_8c36e_5 : decode cJ3_checkFromIndexSize_8c36e 5 = .ok (.ifCond .lt 10, 3) := by decide +kernel
theorem dJ3_checkFromIndexSize_8c36e_8 : decode cJ3_checkFromIndexSize_8c36e 8 = .ok (.iload_n 1, 1) := by decide +kernel
theorem dJ3_checkFromIndexSize_8c36e_9 : decode cJ3_checkFromIndexSize_8c36e 9 = .ok (.iload_n 2, 1) := by decide +kernel
theorem dJ3_checkFromIndexSize_8c36e_10 : decode cJ3_checkFromIndexSize_8c36e 10 = .ok (.iload_n 0, 1) := by decide +kernel
theorem dJ3_checkFromIndexSize_8c36e_11 : decode cJ3_checkFromIndexSize_8c36e 11 = .ok (.isub, 1) := by decide +kernel
theorem dJ3_checkFromIndexSize_8c36e_12 : decode cJ3_checkFromIndexSize_8c36e 12 = .ok (.if_icmp .le 11, 3) := by decide +kernel
theorem dJ3_checkFromIndexSize_8c36e_15 : decode cJ3_checkFromIndexSize_8c36e 15 = .ok (.aload_n 3, 1) := by decide +kernel
theorem dJ3_checkFromIndexSize_8c36e_16 : decode cJ3_checkFromIndexSize_8c36e 16 = .ok (.iload_n 0, 1) := by decide +kernel
theorem dJ3_checkFromIndexSize_8c36e_17 : decode cJ3_checkFromIndexSize_8c36e 17 = .ok (.iload_n 1, 1) := by decide +kernel
theorem dJ3_checkFromIndexSize_8c36e_18 : decode cJ3_checkFromIndexSize_8c36e 18 = .ok (.iload_n 2, 1) := by decide +kernel
theorem dJ3_checkFromIndexSize_8c36e_19 : decode cJ3_checkFromIndexSize_8c36e 19 = .ok (.invokestatic 103, 3) := by decide +kernel
theorem dJ3_checkFromIndexSize_8c36e_22 : decode cJ3_checkFromIndexSize_8c36e 22 = .ok (.athrow, 1) := by decide +kernel
theorem dJ3_checkFromIndexSize_8c36e_23 : decode cJ3_checkFromIndexSize_8c36e 23 = .ok (.iload_n 0, 1) := by decide +kernel
theorem dJ3_checkFromIndexSize_8c36e_24 : decode cJ3_checkFromIndexSize_8c36e 24 = .ok (.ireturn, 1) := by decide +kernel
end
section
theorem zz_last : True := trivial
end
