section
-- ===== PART A: goes FIRST, ahead of the names: the tables' words, and 'selects' of the private methods out of them =====
/-- a private method of a class that the tables say can be made, by its rows of tables_1 -/
def lw_okq (q : MethodName × Nat) : Prop := (q.1.cls ≠ "java/lang/invoke/MethodHandle" ∧ q.1.cls ≠ "java/lang/invoke/VarHandle") ∧ Cond.instantiable q.1.cls q.2 ∈ tables_1 ∧ Cond.privateMethod q.1 ∈ tables_1 ∧ Cond.instanceMethod q.1 ∈ tables_1
theorem lw_p0 : lw_okq (⟨"KettleGuild", "isKettle", "(I)Z"⟩, 7) := ⟨⟨by decide +kernel, by decide +kernel⟩, List.mem_of_getElem? (i := 19) (by decide +kernel), List.mem_of_getElem? (i := 239) (by decide +kernel), List.mem_of_getElem? (i := 240) (by decide +kernel)⟩
theorem lw_p1 : lw_okq (⟨"KettleGuild", "countAheadOfMember", "(I)I"⟩, 7) := ⟨⟨by decide +kernel, by decide +kernel⟩, List.mem_of_getElem? (i := 19) (by decide +kernel), List.mem_of_getElem? (i := 356) (by decide +kernel), List.mem_of_getElem? (i := 357) (by decide +kernel)⟩
theorem lw_p2 : lw_okq (⟨"KettleGuild", "isMemberAhead", "(II)Z"⟩, 7) := ⟨⟨by decide +kernel, by decide +kernel⟩, List.mem_of_getElem? (i := 19) (by decide +kernel), List.mem_of_getElem? (i := 360) (by decide +kernel), List.mem_of_getElem? (i := 361) (by decide +kernel)⟩
theorem lw_p3 : lw_okq (⟨"KettleGuild", "countAheadOfKettle", "(I)I"⟩, 7) := ⟨⟨by decide +kernel, by decide +kernel⟩, List.mem_of_getElem? (i := 19) (by decide +kernel), List.mem_of_getElem? (i := 371) (by decide +kernel), List.mem_of_getElem? (i := 372) (by decide +kernel)⟩
theorem lw_p4 : lw_okq (⟨"KettleGuild", "isKettleAhead", "(II)Z"⟩, 7) := ⟨⟨by decide +kernel, by decide +kernel⟩, List.mem_of_getElem? (i := 19) (by decide +kernel), List.mem_of_getElem? (i := 375) (by decide +kernel), List.mem_of_getElem? (i := 376) (by decide +kernel)⟩
theorem lw_p5 : lw_okq (⟨"KettleGuild", "tellSigns", "(I)V"⟩, 7) := ⟨⟨by decide +kernel, by decide +kernel⟩, List.mem_of_getElem? (i := 19) (by decide +kernel), List.mem_of_getElem? (i := 528) (by decide +kernel), List.mem_of_getElem? (i := 529) (by decide +kernel)⟩
theorem lw_p6 : lw_okq (⟨"KettleGuild", "isBoilingSame", "()Z"⟩, 7) := ⟨⟨by decide +kernel, by decide +kernel⟩, List.mem_of_getElem? (i := 19) (by decide +kernel), List.mem_of_getElem? (i := 576) (by decide +kernel), List.mem_of_getElem? (i := 577) (by decide +kernel)⟩
theorem lw_p7 : lw_okq (⟨"KettleGuild", "takePitch", "(II)I"⟩, 7) := ⟨⟨by decide +kernel, by decide +kernel⟩, List.mem_of_getElem? (i := 19) (by decide +kernel), List.mem_of_getElem? (i := 619) (by decide +kernel), List.mem_of_getElem? (i := 620) (by decide +kernel)⟩
theorem lw_p8 : lw_okq (⟨"KettleGuild", "refuse", "(II)I"⟩, 7) := ⟨⟨by decide +kernel, by decide +kernel⟩, List.mem_of_getElem? (i := 19) (by decide +kernel), List.mem_of_getElem? (i := 623) (by decide +kernel), List.mem_of_getElem? (i := 624) (by decide +kernel)⟩
theorem lw_p9 : lw_okq (⟨"KettleGuild", "settle", "(I)I"⟩, 7) := ⟨⟨by decide +kernel, by decide +kernel⟩, List.mem_of_getElem? (i := 19) (by decide +kernel), List.mem_of_getElem? (i := 632) (by decide +kernel), List.mem_of_getElem? (i := 633) (by decide +kernel)⟩
theorem lw_p10 : lw_okq (⟨"KettleGuild", "bringKettle", "(III)I"⟩, 7) := ⟨⟨by decide +kernel, by decide +kernel⟩, List.mem_of_getElem? (i := 19) (by decide +kernel), List.mem_of_getElem? (i := 648) (by decide +kernel), List.mem_of_getElem? (i := 649) (by decide +kernel)⟩
theorem lw_p11 : lw_okq (⟨"KettleGuild", "turnStove", "(II)I"⟩, 7) := ⟨⟨by decide +kernel, by decide +kernel⟩, List.mem_of_getElem? (i := 19) (by decide +kernel), List.mem_of_getElem? (i := 660) (by decide +kernel), List.mem_of_getElem? (i := 661) (by decide +kernel)⟩
theorem lw_p12 : lw_okq (⟨"KettleGuild", "putOnStove", "(II)I"⟩, 7) := ⟨⟨by decide +kernel, by decide +kernel⟩, List.mem_of_getElem? (i := 19) (by decide +kernel), List.mem_of_getElem? (i := 668) (by decide +kernel), List.mem_of_getElem? (i := 669) (by decide +kernel)⟩
theorem lw_p13 : lw_okq (⟨"KettleGuild", "refuseStove", "(III)I"⟩, 7) := ⟨⟨by decide +kernel, by decide +kernel⟩, List.mem_of_getElem? (i := 19) (by decide +kernel), List.mem_of_getElem? (i := 672) (by decide +kernel), List.mem_of_getElem? (i := 673) (by decide +kernel)⟩
theorem lw_p14 : lw_okq (⟨"KettleGuild", "takeOffStove", "(I)I"⟩, 7) := ⟨⟨by decide +kernel, by decide +kernel⟩, List.mem_of_getElem? (i := 19) (by decide +kernel), List.mem_of_getElem? (i := 687) (by decide +kernel), List.mem_of_getElem? (i := 688) (by decide +kernel)⟩
theorem lw_p15 : lw_okq (⟨"KettleGuild", "pourWater", "(II)I"⟩, 7) := ⟨⟨by decide +kernel, by decide +kernel⟩, List.mem_of_getElem? (i := 19) (by decide +kernel), List.mem_of_getElem? (i := 695) (by decide +kernel), List.mem_of_getElem? (i := 696) (by decide +kernel)⟩
def lw_privs_1 : List (MethodName × Nat) := [(⟨"KettleGuild", "isKettle", "(I)Z"⟩, 7), (⟨"KettleGuild", "countAheadOfMember", "(I)I"⟩, 7), (⟨"KettleGuild", "isMemberAhead", "(II)Z"⟩, 7), (⟨"KettleGuild", "countAheadOfKettle", "(I)I"⟩, 7), (⟨"KettleGuild", "isKettleAhead", "(II)Z"⟩, 7), (⟨"KettleGuild", "tellSigns", "(I)V"⟩, 7), (⟨"KettleGuild", "isBoilingSame", "()Z"⟩, 7), (⟨"KettleGuild", "takePitch", "(II)I"⟩, 7), (⟨"KettleGuild", "refuse", "(II)I"⟩, 7), (⟨"KettleGuild", "settle", "(I)I"⟩, 7), (⟨"KettleGuild", "bringKettle", "(III)I"⟩, 7), (⟨"KettleGuild", "turnStove", "(II)I"⟩, 7), (⟨"KettleGuild", "putOnStove", "(II)I"⟩, 7), (⟨"KettleGuild", "refuseStove", "(III)I"⟩, 7), (⟨"KettleGuild", "takeOffStove", "(I)I"⟩, 7), (⟨"KettleGuild", "pourWater", "(II)I"⟩, 7)]
theorem lw_r1 : ∀ q ∈ lw_privs_1, lw_okq q := List.forall_mem_cons.mpr ⟨lw_p0, List.forall_mem_cons.mpr ⟨lw_p1, List.forall_mem_cons.mpr ⟨lw_p2, List.forall_mem_cons.mpr ⟨lw_p3, List.forall_mem_cons.mpr ⟨lw_p4, List.forall_mem_cons.mpr ⟨lw_p5, List.forall_mem_cons.mpr ⟨lw_p6, List.forall_mem_cons.mpr ⟨lw_p7, List.forall_mem_cons.mpr ⟨lw_p8, List.forall_mem_cons.mpr ⟨lw_p9, List.forall_mem_cons.mpr ⟨lw_p10, List.forall_mem_cons.mpr ⟨lw_p11, List.forall_mem_cons.mpr ⟨lw_p12, List.forall_mem_cons.mpr ⟨lw_p13, List.forall_mem_cons.mpr ⟨lw_p14, List.forall_mem_cons.mpr ⟨lw_p15, fun _ h => absurd h List.not_mem_nil⟩⟩⟩⟩⟩⟩⟩⟩⟩⟩⟩⟩⟩⟩⟩⟩
theorem lw_p16 : lw_okq (⟨"KettleGuild", "moveLid", "(II)I"⟩, 7) := ⟨⟨by decide +kernel, by decide +kernel⟩, List.mem_of_getElem? (i := 19) (by decide +kernel), List.mem_of_getElem? (i := 703) (by decide +kernel), List.mem_of_getElem? (i := 704) (by decide +kernel)⟩
theorem lw_p17 : lw_okq (⟨"KettleGuild", "makeAppeal", "(II)I"⟩, 7) := ⟨⟨by decide +kernel, by decide +kernel⟩, List.mem_of_getElem? (i := 19) (by decide +kernel), List.mem_of_getElem? (i := 711) (by decide +kernel), List.mem_of_getElem? (i := 712) (by decide +kernel)⟩
theorem lw_p18 : lw_okq (⟨"KettleGuild", "passMinutes", "(I)I"⟩, 7) := ⟨⟨by decide +kernel, by decide +kernel⟩, List.mem_of_getElem? (i := 19) (by decide +kernel), List.mem_of_getElem? (i := 723) (by decide +kernel), List.mem_of_getElem? (i := 724) (by decide +kernel)⟩
theorem lw_p19 : lw_okq (⟨"KettleGuild$State", "passMinuteOver", "(I)Z"⟩, 18) := ⟨⟨by decide +kernel, by decide +kernel⟩, List.mem_of_getElem? (i := 27) (by decide +kernel), List.mem_of_getElem? (i := 731) (by decide +kernel), List.mem_of_getElem? (i := 732) (by decide +kernel)⟩
theorem lw_p20 : lw_okq (⟨"KettleGuild$State", "boilDry", "(I)V"⟩, 18) := ⟨⟨by decide +kernel, by decide +kernel⟩, List.mem_of_getElem? (i := 27) (by decide +kernel), List.mem_of_getElem? (i := 735) (by decide +kernel), List.mem_of_getElem? (i := 736) (by decide +kernel)⟩
theorem lw_p21 : lw_okq (⟨"KettleGuild$State", "changeTemperature", "(I)V"⟩, 18) := ⟨⟨by decide +kernel, by decide +kernel⟩, List.mem_of_getElem? (i := 27) (by decide +kernel), List.mem_of_getElem? (i := 739) (by decide +kernel), List.mem_of_getElem? (i := 740) (by decide +kernel)⟩
def lw_privs_2 : List (MethodName × Nat) := [(⟨"KettleGuild", "moveLid", "(II)I"⟩, 7), (⟨"KettleGuild", "makeAppeal", "(II)I"⟩, 7), (⟨"KettleGuild", "passMinutes", "(I)I"⟩, 7), (⟨"KettleGuild$State", "passMinuteOver", "(I)Z"⟩, 18), (⟨"KettleGuild$State", "boilDry", "(I)V"⟩, 18), (⟨"KettleGuild$State", "changeTemperature", "(I)V"⟩, 18)]
theorem lw_r2 : ∀ q ∈ lw_privs_2, lw_okq q := List.forall_mem_cons.mpr ⟨lw_p16, List.forall_mem_cons.mpr ⟨lw_p17, List.forall_mem_cons.mpr ⟨lw_p18, List.forall_mem_cons.mpr ⟨lw_p19, List.forall_mem_cons.mpr ⟨lw_p20, List.forall_mem_cons.mpr ⟨lw_p21, fun _ h => absurd h List.not_mem_nil⟩⟩⟩⟩⟩⟩
def lw_privs : List (MethodName × Nat) := lw_privs_1 ++ (lw_privs_2)
def lw_tbl : List Cond := k2_sels lw_privs ++ tables_1
theorem lw_privs_ok : ∀ q ∈ lw_privs, lw_okq q := by
  show ∀ q ∈ lw_privs_1 ++ (lw_privs_2), lw_okq q
  exact List.forall_mem_append.mpr ⟨lw_r1, lw_r2⟩
/-- the streams that the claim lets the run draw from -/
abbrev lw_cs : List Choice := [Jvm.Choice.named "NaN.bits"]
theorem lw_bits : nanBits ∈ lw_cs := by first | decide | exact List.mem_cons_self | simp [lw_cs, nanBits]
end
section
def RX0 : String := "KettleGuild$History"
def TX0 : u_T := fun k => match k with
  | 0 => ("KettleGuild$History", "states", "[LKettleGuild$State;", true)
  | 1 => ("KettleGuild$History", "begun", "I", false)
  | _ => ("KettleGuild$History", "count", "I", false)
def tyX0 : Nat → FieldType := fun k => match k with
  | 0 => .array (.object "KettleGuild$State")
  | 1 => .int
  | _ => .int
abbrev wsX00 : List Cond := u_ws RX0 TX0 3
theorem nmX0 : ∀ a, a < 3 → ∀ b, b < 3 → a ≠ b → (TX0 a).2.1 ≠ (TX0 b).2.1 := by decide +kernel
theorem tyX0_ok : ∀ k, k < 3 → parseFieldDescriptor (TX0 k).2.2.1 = some (tyX0 k) := by decide +kernel
abbrev cX0_init : ByteArray := prog_2_method_1_code
def yX0_init : MethodName := ⟨RX0, "<init>", "()V"⟩
abbrev cX0_begin : ByteArray := prog_2_method_2_code
def yX0_begin : MethodName := ⟨RX0, "begin", "(LKettleGuild$State;)V"⟩
abbrev cX0_keepBegun : ByteArray := prog_2_method_3_code
def yX0_keepBegun : MethodName := ⟨RX0, "keepBegun", "()V"⟩
def RX1 : String := "KettleGuild$Orders"
def TX1 : u_T := fun k => match k with
  | 0 => ("KettleGuild$Orders", "text", "[C", true)
  | 1 => ("KettleGuild$Orders", "kinds", "[I", true)
  | 2 => ("KettleGuild$Orders", "numbers", "[I", true)
  | 3 => ("KettleGuild$Orders", "place", "I", false)
  | 4 => ("KettleGuild$Orders", "length", "I", false)
  | _ => ("KettleGuild$Orders", "count", "I", false)
def tyX1 : Nat → FieldType := fun k => match k with
  | 0 => .array .char
  | 1 => .array .int
  | 2 => .array .int
  | 3 => .int
  | 4 => .int
  | _ => .int
abbrev wsX10 : List Cond := u_ws RX1 TX1 6
theorem nmX1 : ∀ a, a < 6 → ∀ b, b < 6 → a ≠ b → (TX1 a).2.1 ≠ (TX1 b).2.1 := by decide +kernel
theorem tyX1_ok : ∀ k, k < 6 → parseFieldDescriptor (TX1 k).2.2.1 = some (tyX1 k) := by decide +kernel
abbrev cX1_init : ByteArray := prog_3_method_1_code
def yX1_init : MethodName := ⟨RX1, "<init>", "()V"⟩
def RX2 : String := "KettleGuild$Reasons"
def TX2 : u_T := fun k => match k with
  | 0 => ("KettleGuild$Reasons", "numbers", "[I", true)
  | 1 => ("KettleGuild$Reasons", "details", "[I", true)
  | _ => ("KettleGuild$Reasons", "count", "I", false)
def tyX2 : Nat → FieldType := fun k => match k with
  | 0 => .array .int
  | 1 => .array .int
  | _ => .int
abbrev wsX20 : List Cond := u_ws RX2 TX2 3
theorem nmX2 : ∀ a, a < 3 → ∀ b, b < 3 → a ≠ b → (TX2 a).2.1 ≠ (TX2 b).2.1 := by decide +kernel
theorem tyX2_ok : ∀ k, k < 3 → parseFieldDescriptor (TX2 k).2.2.1 = some (tyX2 k) := by decide +kernel
abbrev cX2_init : ByteArray := prog_4_method_1_code
def yX2_init : MethodName := ⟨RX2, "<init>", "()V"⟩
abbrev cX2_putAhead : ByteArray := prog_4_method_2_code
def yX2_putAhead : MethodName := ⟨RX2, "putAhead", "(II)V"⟩
def RX3 : String := "KettleGuild$State"
def TX3 : u_T := fun k => match k with
  | 0 => ("KettleGuild$State", "owners", "[I", true)
  | 1 => ("KettleGuild$State", "points", "[I", true)
  | 2 => ("KettleGuild$State", "boiledDry", "[I", true)
  | 3 => ("KettleGuild$State", "appealsMade", "[I", true)
  | 4 => ("KettleGuild$State", "heats", "[I", true)
  | 5 => ("KettleGuild$State", "members", "[I", true)
  | 6 => ("KettleGuild$State", "pitches", "[I", true)
  | 7 => ("KettleGuild$State", "waters", "[I", true)
  | 8 => ("KettleGuild$State", "temperatures", "[I", true)
  | 9 => ("KettleGuild$State", "stoves", "[I", true)
  | 10 => ("KettleGuild$State", "bans", "[I", true)
  | 11 => ("KettleGuild$State", "lids", "[I", true)
  | 12 => ("KettleGuild$State", "bars", "[I", true)
  | 13 => ("KettleGuild$State", "appealers", "[I", true)
  | 14 => ("KettleGuild$State", "kettles", "I", false)
  | 15 => ("KettleGuild$State", "minutes", "I", false)
  | 16 => ("KettleGuild$State", "waterCome", "I", false)
  | _ => ("KettleGuild$State", "waterGone", "I", false)
def tyX3 : Nat → FieldType := fun k => match k with
  | 0 => .array .int
  | 1 => .array .int
  | 2 => .array .int
  | 3 => .array .int
  | 4 => .array .int
  | 5 => .array .int
  | 6 => .array .int
  | 7 => .array .int
  | 8 => .array .int
  | 9 => .array .int
  | 10 => .array .int
  | 11 => .array .int
  | 12 => .array .int
  | 13 => .array .int
  | 14 => .int
  | 15 => .int
  | 16 => .int
  | _ => .int
abbrev wsX30 : List Cond := u_ws RX3 TX3 18
theorem nmX3 : ∀ a, a < 18 → ∀ b, b < 18 → a ≠ b → (TX3 a).2.1 ≠ (TX3 b).2.1 := by decide +kernel
theorem tyX3_ok : ∀ k, k < 18 → parseFieldDescriptor (TX3 k).2.2.1 = some (tyX3 k) := by decide +kernel
abbrev cX3_init : ByteArray := prog_5_method_1_code
def yX3_init : MethodName := ⟨RX3, "<init>", "()V"⟩
abbrev cX3_copyFrom : ByteArray := prog_5_method_2_code
def yX3_copyFrom : MethodName := ⟨RX3, "copyFrom", "(LKettleGuild$State;)V"⟩
abbrev cX3_copyRow : ByteArray := prog_5_method_3_code
def yX3_copyRow : MethodName := ⟨RX3, "copyRow", "([I[I)V"⟩
abbrev cX3_addKettle : ByteArray := prog_5_method_4_code
def yX3_addKettle : MethodName := ⟨RX3, "addKettle", "(III)I"⟩
abbrev cX3_barLid : ByteArray := prog_5_method_5_code
def yX3_barLid : MethodName := ⟨RX3, "barLid", "(I)V"⟩
abbrev cX3_passMinute : ByteArray := prog_5_method_6_code
def yX3_passMinute : MethodName := ⟨RX3, "passMinute", "()I"⟩
abbrev cX3_passMinuteOver : ByteArray := prog_5_method_7_code
def yX3_passMinuteOver : MethodName := ⟨RX3, "passMinuteOver", "(I)Z"⟩
abbrev cX3_boilDry : ByteArray := prog_5_method_8_code
def yX3_boilDry : MethodName := ⟨RX3, "boilDry", "(I)V"⟩
abbrev cX3_changeTemperature : ByteArray := prog_5_method_9_code
def yX3_changeTemperature : MethodName := ⟨RX3, "changeTemperature", "(I)V"⟩
abbrev cX3_holdHarmony : ByteArray := prog_5_method_10_code
def yX3_holdHarmony : MethodName := ⟨RX3, "holdHarmony", "()V"⟩
abbrev cX3_heatUnder : ByteArray := prog_5_method_11_code
def yX3_heatUnder : MethodName := ⟨RX3, "heatUnder", "(I)I"⟩
abbrev cX3_boils : ByteArray := prog_5_method_12_code
def yX3_boils : MethodName := ⟨RX3, "boils", "(I)Z"⟩
abbrev cX3_whistles : ByteArray := prog_5_method_13_code
def yX3_whistles : MethodName := ⟨RX3, "whistles", "(I)Z"⟩
abbrev cX3_whistlers : ByteArray := prog_5_method_14_code
def yX3_whistlers : MethodName := ⟨RX3, "whistlers", "()I"⟩
abbrev cX3_whistledPitches : ByteArray := prog_5_method_15_code
def yX3_whistledPitches : MethodName := ⟨RX3, "whistledPitches", "()I"⟩
abbrev cX3_kettleOn : ByteArray := prog_5_method_16_code
def yX3_kettleOn : MethodName := ⟨RX3, "kettleOn", "(I)I"⟩
abbrev cX3_stoveWithPitch : ByteArray := prog_5_method_17_code
def yX3_stoveWithPitch : MethodName := ⟨RX3, "stoveWithPitch", "(I)I"⟩
abbrev cX3_hasPitchOnTwoStoves : ByteArray := prog_5_method_18_code
def yX3_hasPitchOnTwoStoves : MethodName := ⟨RX3, "hasPitchOnTwoStoves", "()Z"⟩
abbrev cX3_countPitchesOf : ByteArray := prog_5_method_19_code
def yX3_countPitchesOf : MethodName := ⟨RX3, "countPitchesOf", "(I)I"⟩
abbrev cX3_countKettlesOf : ByteArray := prog_5_method_20_code
def yX3_countKettlesOf : MethodName := ⟨RX3, "countKettlesOf", "(I)I"⟩
abbrev cX3_countWhistlersOf : ByteArray := prog_5_method_21_code
def yX3_countWhistlersOf : MethodName := ⟨RX3, "countWhistlersOf", "(I)I"⟩
abbrev cX3_countOnStoves : ByteArray := prog_5_method_22_code
def yX3_countOnStoves : MethodName := ⟨RX3, "countOnStoves", "()I"⟩
abbrev cX3_countBoiling : ByteArray := prog_5_method_23_code
def yX3_countBoiling : MethodName := ⟨RX3, "countBoiling", "()I"⟩
abbrev cX3_countLidsOn : ByteArray := prog_5_method_24_code
def yX3_countLidsOn : MethodName := ⟨RX3, "countLidsOn", "()I"⟩
abbrev cX3_countLidsBarred : ByteArray := prog_5_method_25_code
def yX3_countLidsBarred : MethodName := ⟨RX3, "countLidsBarred", "()I"⟩
abbrev cX3_sumWater : ByteArray := prog_5_method_26_code
def yX3_sumWater : MethodName := ⟨RX3, "sumWater", "()I"⟩
def RX4 : String := "KettleGuild"
def TX4 : u_T := fun k => match k with
  | 0 => ("KettleGuild", "now", "LKettleGuild$State;", true)
  | 1 => ("KettleGuild", "snapshot", "LKettleGuild$State;", true)
  | 2 => ("KettleGuild", "history", "LKettleGuild$History;", true)
  | 3 => ("KettleGuild", "reasons", "LKettleGuild$Reasons;", true)
  | 4 => ("KettleGuild", "orders", "LKettleGuild$Orders;", true)
  | 5 => ("KettleGuild", "line", "Ljava/lang/StringBuilder;", true)
  | _ => ("KettleGuild", "isSaved", "Z", false)
def tyX4 : Nat → FieldType := fun k => match k with
  | 0 => .object "KettleGuild$State"
  | 1 => .object "KettleGuild$State"
  | 2 => .object "KettleGuild$History"
  | 3 => .object "KettleGuild$Reasons"
  | 4 => .object "KettleGuild$Orders"
  | 5 => .object "java/lang/StringBuilder"
  | _ => .boolean
abbrev wsX40 : List Cond := u_ws RX4 TX4 7
theorem nmX4 : ∀ a, a < 7 → ∀ b, b < 7 → a ≠ b → (TX4 a).2.1 ≠ (TX4 b).2.1 := by decide +kernel
theorem tyX4_ok : ∀ k, k < 7 → parseFieldDescriptor (TX4 k).2.2.1 = some (tyX4 k) := by decide +kernel
abbrev cX4_init : ByteArray := prog_1_method_1_code
def yX4_init : MethodName := ⟨RX4, "<init>", "()V"⟩
abbrev cX4_own : ByteArray := prog_1_method_2_code
def yX4_own : MethodName := ⟨RX4, "own", "(II)I"⟩
abbrev cX4_owner : ByteArray := prog_1_method_3_code
def yX4_owner : MethodName := ⟨RX4, "owner", "(I)I"⟩
abbrev cX4_kettle : ByteArray := prog_1_method_4_code
def yX4_kettle : MethodName := ⟨RX4, "kettle", "(III)I"⟩
abbrev cX4_fill : ByteArray := prog_1_method_5_code
def yX4_fill : MethodName := ⟨RX4, "fill", "(II)I"⟩
abbrev cX4_kettleOf : ByteArray := prog_1_method_6_code
def yX4_kettleOf : MethodName := ⟨RX4, "kettleOf", "(II)I"⟩
abbrev cX4_set : ByteArray := prog_1_method_7_code
def yX4_set : MethodName := ⟨RX4, "set", "(II)I"⟩
abbrev cX4_off : ByteArray := prog_1_method_8_code
def yX4_off : MethodName := ⟨RX4, "off", "(I)I"⟩
abbrev cX4_heat : ByteArray := prog_1_method_9_code
def yX4_heat : MethodName := ⟨RX4, "heat", "(II)I"⟩
abbrev cX4_lid : ByteArray := prog_1_method_10_code
def yX4_lid : MethodName := ⟨RX4, "lid", "(II)I"⟩
abbrev cX4_appeal : ByteArray := prog_1_method_11_code
def yX4_appeal : MethodName := ⟨RX4, "appeal", "(II)I"⟩
abbrev cX4_stoveOf : ByteArray := prog_1_method_12_code
def yX4_stoveOf : MethodName := ⟨RX4, "stoveOf", "(IZ)I"⟩
abbrev cX4_minute : ByteArray := prog_1_method_13_code
def yX4_minute : MethodName := ⟨RX4, "minute", "(I)I"⟩
abbrev cX4_whistling : ByteArray := prog_1_method_14_code
def yX4_whistling : MethodName := ⟨RX4, "whistling", "()I"⟩
abbrev cX4_harmony : ByteArray := prog_1_method_15_code
def yX4_harmony : MethodName := ⟨RX4, "harmony", "()I"⟩
abbrev cX4_harmonyAgain : ByteArray := prog_1_method_16_code
def yX4_harmonyAgain : MethodName := ⟨RX4, "harmonyAgain", "()I"⟩
abbrev cX4_boilsIn : ByteArray := prog_1_method_17_code
def yX4_boilsIn : MethodName := ⟨RX4, "boilsIn", "(I)I"⟩
abbrev cX4_boilsInAgain : ByteArray := prog_1_method_18_code
def yX4_boilsInAgain : MethodName := ⟨RX4, "boilsInAgain", "(I)I"⟩
abbrev cX4_dryIn : ByteArray := prog_1_method_19_code
def yX4_dryIn : MethodName := ⟨RX4, "dryIn", "(I)I"⟩
abbrev cX4_bestPitch : ByteArray := prog_1_method_20_code
def yX4_bestPitch : MethodName := ⟨RX4, "bestPitch", "()I"⟩
abbrev cX4_memberOf : ByteArray := prog_1_method_21_code
def yX4_memberOf : MethodName := ⟨RX4, "memberOf", "(II)I"⟩
abbrev cX4_ranked : ByteArray := prog_1_method_22_code
def yX4_ranked : MethodName := ⟨RX4, "ranked", "(I)I"⟩
abbrev cX4_hottest : ByteArray := prog_1_method_23_code
def yX4_hottest : MethodName := ⟨RX4, "hottest", "(I)I"⟩
abbrev cX4_tell : ByteArray := prog_1_method_26_code
def yX4_tell : MethodName := ⟨RX4, "tell", "(I)I"⟩
abbrev cX4_tellStoves : ByteArray := prog_1_method_27_code
def yX4_tellStoves : MethodName := ⟨RX4, "tellStoves", "()I"⟩
abbrev cX4_character : ByteArray := prog_1_method_28_code
def yX4_character : MethodName := ⟨RX4, "character", "(I)I"⟩
abbrev cX4_account : ByteArray := prog_1_method_30_code
def yX4_account : MethodName := ⟨RX4, "account", "(I)I"⟩
abbrev cX4_isBalanced : ByteArray := prog_1_method_31_code
def yX4_isBalanced : MethodName := ⟨RX4, "isBalanced", "()I"⟩
abbrev cX4_meanWater : ByteArray := prog_1_method_32_code
def yX4_meanWater : MethodName := ⟨RX4, "meanWater", "()D"⟩
abbrev cX4_whistleShare : ByteArray := prog_1_method_33_code
def yX4_whistleShare : MethodName := ⟨RX4, "whistleShare", "()F"⟩
abbrev cX4_isMember : ByteArray := prog_1_method_37_code
def yX4_isMember : MethodName := ⟨RX4, "isMember", "(I)Z"⟩
abbrev cX4_isPitch : ByteArray := prog_1_method_38_code
def yX4_isPitch : MethodName := ⟨RX4, "isPitch", "(I)Z"⟩
abbrev cX4_isStove : ByteArray := prog_1_method_39_code
def yX4_isStove : MethodName := ⟨RX4, "isStove", "(I)Z"⟩
abbrev cX4_isKettle : ByteArray := prog_1_method_40_code
def yX4_isKettle : MethodName := ⟨RX4, "isKettle", "(I)Z"⟩
abbrev cX4_isIn : ByteArray := prog_1_method_41_code
def yX4_isIn : MethodName := ⟨RX4, "isIn", "(II)Z"⟩
abbrev cX4_orNothing : ByteArray := prog_1_method_42_code
def yX4_orNothing : MethodName := ⟨RX4, "orNothing", "(I)I"⟩
abbrev cX4_sumOf : ByteArray := prog_1_method_43_code
def yX4_sumOf : MethodName := ⟨RX4, "sumOf", "([I)I"⟩
abbrev cX4_soundOf : ByteArray := prog_1_method_44_code
def yX4_soundOf : MethodName := ⟨RX4, "soundOf", "(II)I"⟩
abbrev cX4_fitOf : ByteArray := prog_1_method_45_code
def yX4_fitOf : MethodName := ⟨RX4, "fitOf", "(II)I"⟩
abbrev cX4_isBoilingSame : ByteArray := prog_1_method_46_code
def yX4_isBoilingSame : MethodName := ⟨RX4, "isBoilingSame", "()Z"⟩
abbrev cX4_countAheadOfMember : ByteArray := prog_1_method_47_code
def yX4_countAheadOfMember : MethodName := ⟨RX4, "countAheadOfMember", "(I)I"⟩
abbrev cX4_isMemberAhead : ByteArray := prog_1_method_48_code
def yX4_isMemberAhead : MethodName := ⟨RX4, "isMemberAhead", "(II)Z"⟩
abbrev cX4_countAheadOfKettle : ByteArray := prog_1_method_49_code
def yX4_countAheadOfKettle : MethodName := ⟨RX4, "countAheadOfKettle", "(I)I"⟩
abbrev cX4_isKettleAhead : ByteArray := prog_1_method_50_code
def yX4_isKettleAhead : MethodName := ⟨RX4, "isKettleAhead", "(II)Z"⟩
abbrev cX4_settle : ByteArray := prog_1_method_51_code
def yX4_settle : MethodName := ⟨RX4, "settle", "(I)I"⟩
abbrev cX4_takePitch : ByteArray := prog_1_method_52_code
def yX4_takePitch : MethodName := ⟨RX4, "takePitch", "(II)I"⟩
abbrev cX4_bringKettle : ByteArray := prog_1_method_53_code
def yX4_bringKettle : MethodName := ⟨RX4, "bringKettle", "(III)I"⟩
abbrev cX4_pourWater : ByteArray := prog_1_method_54_code
def yX4_pourWater : MethodName := ⟨RX4, "pourWater", "(II)I"⟩
abbrev cX4_putOnStove : ByteArray := prog_1_method_55_code
def yX4_putOnStove : MethodName := ⟨RX4, "putOnStove", "(II)I"⟩
abbrev cX4_takeOffStove : ByteArray := prog_1_method_56_code
def yX4_takeOffStove : MethodName := ⟨RX4, "takeOffStove", "(I)I"⟩
abbrev cX4_turnStove : ByteArray := prog_1_method_57_code
def yX4_turnStove : MethodName := ⟨RX4, "turnStove", "(II)I"⟩
abbrev cX4_moveLid : ByteArray := prog_1_method_58_code
def yX4_moveLid : MethodName := ⟨RX4, "moveLid", "(II)I"⟩
abbrev cX4_makeAppeal : ByteArray := prog_1_method_59_code
def yX4_makeAppeal : MethodName := ⟨RX4, "makeAppeal", "(II)I"⟩
abbrev cX4_passMinutes : ByteArray := prog_1_method_60_code
def yX4_passMinutes : MethodName := ⟨RX4, "passMinutes", "(I)I"⟩
abbrev cX4_refuse : ByteArray := prog_1_method_62_code
def yX4_refuse : MethodName := ⟨RX4, "refuse", "(II)I"⟩
abbrev cX4_refuseStove : ByteArray := prog_1_method_63_code
def yX4_refuseStove : MethodName := ⟨RX4, "refuseStove", "(III)I"⟩
abbrev cX4_tellSigns : ByteArray := prog_1_method_65_code
def yX4_tellSigns : MethodName := ⟨RX4, "tellSigns", "(I)V"⟩
def RX5 : String := "KettleGuildModel"
def TX5 : u_T := fun k => match k with
  | _ => ("", "", "", false)
def tyX5 : Nat → FieldType := fun k => match k with
  | _ => .int
abbrev wsX50 : List Cond := u_ws RX5 TX5 0
theorem nmX5 : ∀ a, a < 0 → ∀ b, b < 0 → a ≠ b → (TX5 a).2.1 ≠ (TX5 b).2.1 := by decide +kernel
theorem tyX5_ok : ∀ k, k < 0 → parseFieldDescriptor (TX5 k).2.2.1 = some (tyX5 k) := by decide +kernel
def RJ5 : String := "java/lang/AbstractStringBuilder"
def TJ5 : u_T := fun k => match k with
  | _ => ("", "", "", false)
def tyJ5 : Nat → FieldType := fun k => match k with
  | _ => .int
abbrev wsJ50 : List Cond := u_ws RJ5 TJ5 0
theorem nmJ5 : ∀ a, a < 0 → ∀ b, b < 0 → a ≠ b → (TJ5 a).2.1 ≠ (TJ5 b).2.1 := by decide +kernel
theorem tyJ5_ok : ∀ k, k < 0 → parseFieldDescriptor (TJ5 k).2.2.1 = some (tyJ5 k) := by decide +kernel
abbrev cJ5_init_d00df : ByteArray := prog_8_method_2_code
def yJ5_init_d00df : MethodName := ⟨RJ5, "<init>", "(I)V"⟩
abbrev cJ5_length_8abf5 : ByteArray := prog_8_method_6_code
def yJ5_length_8abf5 : MethodName := ⟨RJ5, "length", "()I"⟩
abbrev cJ5_ensureCapacityInternal_d00df : ByteArray := prog_8_method_9_code
def yJ5_ensureCapacityInternal_d00df : MethodName := ⟨RJ5, "ensureCapacityInternal", "(I)V"⟩
abbrev cJ5_newCapacity_0f7a4 : ByteArray := prog_8_method_10_code
def yJ5_newCapacity_0f7a4 : MethodName := ⟨RJ5, "newCapacity", "(I)I"⟩
abbrev cJ5_inflate_da8c8 : ByteArray := prog_8_method_11_code
def yJ5_inflate_da8c8 : MethodName := ⟨RJ5, "inflate", "()V"⟩
abbrev cJ5_setLength_d00df : ByteArray := prog_8_method_13_code
def yJ5_setLength_d00df : MethodName := ⟨RJ5, "setLength", "(I)V"⟩
abbrev cJ5_charAt_5068e : ByteArray := prog_8_method_14_code
def yJ5_charAt_5068e : MethodName := ⟨RJ5, "charAt", "(I)C"⟩
abbrev cJ5_append_cf1ce : ByteArray := prog_8_method_22_code
def yJ5_append_cf1ce : MethodName := ⟨RJ5, "append", "(Ljava/lang/String;)Ljava/lang/AbstractStringBuilder;"⟩
abbrev cJ5_appendNull_278bc : ByteArray := prog_8_method_26_code
def yJ5_appendNull_278bc : MethodName := ⟨RJ5, "appendNull", "()Ljava/lang/AbstractStringBuilder;"⟩
abbrev cJ5_append_3fe6f : ByteArray := prog_8_method_31_code
def yJ5_append_3fe6f : MethodName := ⟨RJ5, "append", "(C)Ljava/lang/AbstractStringBuilder;"⟩
abbrev cJ5_append_c97b9 : ByteArray := prog_8_method_32_code
def yJ5_append_c97b9 : MethodName := ⟨RJ5, "append", "(I)Ljava/lang/AbstractStringBuilder;"⟩
abbrev cJ5_getValue_6d5f1 : ByteArray := prog_8_method_64_code
def yJ5_getValue_6d5f1 : MethodName := ⟨RJ5, "getValue", "()[B"⟩
abbrev cJ5_isLatin1_aae02 : ByteArray := prog_8_method_68_code
def yJ5_isLatin1_aae02 : MethodName := ⟨RJ5, "isLatin1", "()Z"⟩
abbrev cJ5_inflateIfNeededFor_a7421 : ByteArray := prog_8_method_71_code
def yJ5_inflateIfNeededFor_a7421 : MethodName := ⟨RJ5, "inflateIfNeededFor", "(Ljava/lang/String;)V"⟩
abbrev cJ5_putStringAt_47b60 : ByteArray := prog_8_method_73_code
def yJ5_putStringAt_47b60 : MethodName := ⟨RJ5, "putStringAt", "(ILjava/lang/String;)V"⟩
def RJ6 : String := "java/lang/Integer"
def TJ6 : u_T := fun k => match k with
  | _ => ("", "", "", false)
def tyJ6 : Nat → FieldType := fun k => match k with
  | _ => .int
abbrev wsJ60 : List Cond := u_ws RJ6 TJ6 0
theorem nmJ6 : ∀ a, a < 0 → ∀ b, b < 0 → a ≠ b → (TJ6 a).2.1 ≠ (TJ6 b).2.1 := by decide +kernel
theorem tyJ6_ok : ∀ k, k < 0 → parseFieldDescriptor (TJ6 k).2.2.1 = some (tyJ6 k) := by decide +kernel
abbrev cJ6_getChars_ba4f3 : ByteArray := prog_10_method_12_code
def yJ6_getChars_ba4f3 : MethodName := ⟨RJ6, "getChars", "(II[B)I"⟩
abbrev cJ6_stringSize_0f7a4 : ByteArray := prog_10_method_13_code
def yJ6_stringSize_0f7a4 : MethodName := ⟨RJ6, "stringSize", "(I)I"⟩
abbrev cJ6_compare_7cf53 : ByteArray := prog_10_method_40_code
def yJ6_compare_7cf53 : MethodName := ⟨RJ6, "compare", "(II)I"⟩
abbrev cJ6_bitCount_0f7a4 : ByteArray := prog_10_method_49_code
def yJ6_bitCount_0f7a4 : MethodName := ⟨RJ6, "bitCount", "(I)I"⟩
def RJ9 : String := "java/lang/Math"
def TJ9 : u_T := fun k => match k with
  | _ => ("", "", "", false)
def tyJ9 : Nat → FieldType := fun k => match k with
  | _ => .int
abbrev wsJ90 : List Cond := u_ws RJ9 TJ9 0
theorem nmJ9 : ∀ a, a < 0 → ∀ b, b < 0 → a ≠ b → (TJ9 a).2.1 ≠ (TJ9 b).2.1 := by decide +kernel
theorem tyJ9_ok : ∀ k, k < 0 → parseFieldDescriptor (TJ9 k).2.2.1 = some (tyJ9 k) := by decide +kernel
abbrev cJ9_abs_0f7a4 : ByteArray := prog_11_method_59_code
def yJ9_abs_0f7a4 : MethodName := ⟨RJ9, "abs", "(I)I"⟩
abbrev cJ9_max_7cf53 : ByteArray := prog_11_method_65_code
def yJ9_max_7cf53 : MethodName := ⟨RJ9, "max", "(II)I"⟩
abbrev cJ9_min_7cf53 : ByteArray := prog_11_method_69_code
def yJ9_min_7cf53 : MethodName := ⟨RJ9, "min", "(II)I"⟩
def RJ0 : String := "java/lang/String"
def TJ0 : u_T := fun k => match k with
  | 0 => ("java/lang/String", "value", "[B", true)
  | 1 => ("java/lang/String", "coder", "B", true)
  | 2 => ("java/lang/String", "hash", "I", false)
  | _ => ("java/lang/String", "hashIsZero", "Z", false)
def tyJ0 : Nat → FieldType := fun k => match k with
  | 0 => .array .byte
  | 1 => .byte
  | 2 => .int
  | _ => .boolean
abbrev wsJ00 : List Cond := u_ws RJ0 TJ0 4
theorem nmJ0 : ∀ a, a < 4 → ∀ b, b < 4 → a ≠ b → (TJ0 a).2.1 ≠ (TJ0 b).2.1 := by decide +kernel
theorem tyJ0_ok : ∀ k, k < 4 → parseFieldDescriptor (TJ0 k).2.2.1 = some (tyJ0 k) := by decide +kernel
abbrev cJ0_init_81219 : ByteArray := prog_13_method_53_code
def yJ0_init_81219 : MethodName := ⟨RJ0, "<init>", "(Ljava/lang/StringBuilder;)V"⟩
abbrev cJ0_length_8abf5 : ByteArray := prog_13_method_54_code
def yJ0_length_8abf5 : MethodName := ⟨RJ0, "length", "()I"⟩
abbrev cJ0_charAt_5068e : ByteArray := prog_13_method_56_code
def yJ0_charAt_5068e : MethodName := ⟨RJ0, "charAt", "(I)C"⟩
abbrev cJ0_getBytes_840e7 : ByteArray := prog_13_method_147_code
def yJ0_getBytes_840e7 : MethodName := ⟨RJ0, "getBytes", "([BIB)V"⟩
abbrev cJ0_init_db425 : ByteArray := prog_13_method_150_code
def yJ0_init_db425 : MethodName := ⟨RJ0, "<init>", "(Ljava/lang/AbstractStringBuilder;Ljava/lang/Void;)V"⟩
abbrev cJ0_coder_7d493 : ByteArray := prog_13_method_152_code
def yJ0_coder_7d493 : MethodName := ⟨RJ0, "coder", "()B"⟩
abbrev cJ0_isLatin1_aae02 : ByteArray := prog_13_method_154_code
def yJ0_isLatin1_aae02 : MethodName := ⟨RJ0, "isLatin1", "()Z"⟩
abbrev cJ0_checkIndex_df160 : ByteArray := prog_13_method_155_code
def yJ0_checkIndex_df160 : MethodName := ⟨RJ0, "checkIndex", "(II)V"⟩
abbrev cJ0_checkBoundsOffCount_cabcc : ByteArray := prog_13_method_157_code
def yJ0_checkBoundsOffCount_cabcc : MethodName := ⟨RJ0, "checkBoundsOffCount", "(III)I"⟩
abbrev cJ0_checkBoundsBeginEnd_23922 : ByteArray := prog_13_method_158_code
def yJ0_checkBoundsBeginEnd_23922 : MethodName := ⟨RJ0, "checkBoundsBeginEnd", "(III)V"⟩
def RJ4 : String := "java/lang/StringBuilder"
def TJ4 : u_T := fun k => match k with
  | 0 => ("java/lang/AbstractStringBuilder", "value", "[B", false)
  | 1 => ("java/lang/AbstractStringBuilder", "coder", "B", false)
  | 2 => ("java/lang/AbstractStringBuilder", "maybeLatin1", "Z", false)
  | _ => ("java/lang/AbstractStringBuilder", "count", "I", false)
def tyJ4 : Nat → FieldType := fun k => match k with
  | 0 => .array .byte
  | 1 => .byte
  | 2 => .boolean
  | _ => .int
abbrev wsJ40 : List Cond := u_ws RJ4 TJ4 4
theorem nmJ4 : ∀ a, a < 4 → ∀ b, b < 4 → a ≠ b → (TJ4 a).2.1 ≠ (TJ4 b).2.1 := by decide +kernel
theorem tyJ4_ok : ∀ k, k < 4 → parseFieldDescriptor (TJ4 k).2.2.1 = some (tyJ4 k) := by decide +kernel
abbrev cJ4_init_da8c8 : ByteArray := prog_14_method_1_code
def yJ4_init_da8c8 : MethodName := ⟨RJ4, "<init>", "()V"⟩
abbrev cJ4_append_15ec4 : ByteArray := prog_14_method_7_code
def yJ4_append_15ec4 : MethodName := ⟨RJ4, "append", "(Ljava/lang/String;)Ljava/lang/StringBuilder;"⟩
abbrev cJ4_append_cf468 : ByteArray := prog_14_method_14_code
def yJ4_append_cf468 : MethodName := ⟨RJ4, "append", "(C)Ljava/lang/StringBuilder;"⟩
abbrev cJ4_append_bf812 : ByteArray := prog_14_method_15_code
def yJ4_append_bf812 : MethodName := ⟨RJ4, "append", "(I)Ljava/lang/StringBuilder;"⟩
abbrev cJ4_toString_0e30d : ByteArray := prog_14_method_42_code
def yJ4_toString_0e30d : MethodName := ⟨RJ4, "toString", "()Ljava/lang/String;"⟩
abbrev cJ4_charAt_5068e : ByteArray := prog_14_method_88_code
def yJ4_charAt_5068e : MethodName := ⟨RJ4, "charAt", "(I)C"⟩
abbrev cJ4_setLength_d00df : ByteArray := prog_14_method_89_code
def yJ4_setLength_d00df : MethodName := ⟨RJ4, "setLength", "(I)V"⟩
abbrev cJ4_length_8abf5 : ByteArray := prog_14_method_93_code
def yJ4_length_8abf5 : MethodName := ⟨RJ4, "length", "()I"⟩
def RJ1 : String := "java/lang/StringLatin1"
def TJ1 : u_T := fun k => match k with
  | _ => ("", "", "", false)
def tyJ1 : Nat → FieldType := fun k => match k with
  | _ => .int
abbrev wsJ10 : List Cond := u_ws RJ1 TJ1 0
theorem nmJ1 : ∀ a, a < 0 → ∀ b, b < 0 → a ≠ b → (TJ1 a).2.1 ≠ (TJ1 b).2.1 := by decide +kernel
theorem tyJ1_ok : ∀ k, k < 0 → parseFieldDescriptor (TJ1 k).2.2.1 = some (tyJ1 k) := by decide +kernel
abbrev cJ1_charAt_3b067 : ByteArray := prog_15_method_2_code
def yJ1_charAt_3b067 : MethodName := ⟨RJ1, "charAt", "([BI)C"⟩
abbrev cJ1_canEncode_fc78d : ByteArray := prog_15_method_3_code
def yJ1_canEncode_fc78d : MethodName := ⟨RJ1, "canEncode", "(C)Z"⟩
abbrev cJ1_fillNull_b72d1 : ByteArray := prog_15_method_48_code
def yJ1_fillNull_b72d1 : MethodName := ⟨RJ1, "fillNull", "([BII)V"⟩
abbrev cJ1_inflate_0e8fd : ByteArray := prog_15_method_50_code
def yJ1_inflate_0e8fd : MethodName := ⟨RJ1, "inflate", "([BI[BII)V"⟩
def RJ2 : String := "java/lang/StringUTF16"
def TJ2 : u_T := fun k => match k with
  | _ => ("", "", "", false)
def tyJ2 : Nat → FieldType := fun k => match k with
  | _ => .int
abbrev wsJ20 : List Cond := u_ws RJ2 TJ2 0
theorem nmJ2 : ∀ a, a < 0 → ∀ b, b < 0 → a ≠ b → (TJ2 a).2.1 ≠ (TJ2 b).2.1 := by decide +kernel
theorem tyJ2_ok : ∀ k, k < 0 → parseFieldDescriptor (TJ2 k).2.2.1 = some (tyJ2 k) := by decide +kernel
abbrev cJ2_newBytesFor_77867 : ByteArray := prog_16_method_2_code
def yJ2_newBytesFor_77867 : MethodName := ⟨RJ2, "newBytesFor", "(I)[B"⟩
abbrev cJ2_newBytesLength_0f7a4 : ByteArray := prog_16_method_3_code
def yJ2_newBytesLength_0f7a4 : MethodName := ⟨RJ2, "newBytesLength", "(I)I"⟩
abbrev cJ2_putChar_b72d1 : ByteArray := prog_16_method_4_code
def yJ2_putChar_b72d1 : MethodName := ⟨RJ2, "putChar", "([BII)V"⟩
abbrev cJ2_getChar_3b067 : ByteArray := prog_16_method_5_code
def yJ2_getChar_3b067 : MethodName := ⟨RJ2, "getChar", "([BI)C"⟩
abbrev cJ2_length_9d52b : ByteArray := prog_16_method_6_code
def yJ2_length_9d52b : MethodName := ⟨RJ2, "length", "([B)I"⟩
abbrev cJ2_coderFromArrayLen_85cad : ByteArray := prog_16_method_15_code
def yJ2_coderFromArrayLen_85cad : MethodName := ⟨RJ2, "coderFromArrayLen", "([BI)B"⟩
abbrev cJ2_compress_39247 : ByteArray := prog_16_method_17_code
def yJ2_compress_39247 : MethodName := ⟨RJ2, "compress", "([BII)[B"⟩
abbrev cJ2_compress_5af95 : ByteArray := prog_16_method_22_code
def yJ2_compress_5af95 : MethodName := ⟨RJ2, "compress", "([BI[BII)I"⟩
abbrev cJ2_fillNull_b72d1 : ByteArray := prog_16_method_70_code
def yJ2_fillNull_b72d1 : MethodName := ⟨RJ2, "fillNull", "([BII)V"⟩
abbrev cJ2_putCharSB_b72d1 : ByteArray := prog_16_method_71_code
def yJ2_putCharSB_b72d1 : MethodName := ⟨RJ2, "putCharSB", "([BII)V"⟩
abbrev cJ2_getChars_46870 : ByteArray := prog_16_method_77_code
def yJ2_getChars_46870 : MethodName := ⟨RJ2, "getChars", "(III[B)I"⟩
abbrev cJ2_putCharsAt_cd4e5 : ByteArray := prog_16_method_81_code
def yJ2_putCharsAt_cd4e5 : MethodName := ⟨RJ2, "putCharsAt", "([BICCCC)I"⟩
abbrev cJ2_charAt_3b067 : ByteArray := prog_16_method_83_code
def yJ2_charAt_3b067 : MethodName := ⟨RJ2, "charAt", "([BI)C"⟩
abbrev cJ2_inflate_0e8fd : ByteArray := prog_16_method_86_code
def yJ2_inflate_0e8fd : MethodName := ⟨RJ2, "inflate", "([BI[BII)V"⟩
abbrev cJ2_getChars_ba4f3 : ByteArray := prog_16_method_89_code
def yJ2_getChars_ba4f3 : MethodName := ⟨RJ2, "getChars", "(II[B)I"⟩
abbrev cJ2_checkIndex_2214a : ByteArray := prog_16_method_91_code
def yJ2_checkIndex_2214a : MethodName := ⟨RJ2, "checkIndex", "(I[B)V"⟩
abbrev cJ2_checkBoundsBeginEnd_d044e : ByteArray := prog_16_method_93_code
def yJ2_checkBoundsBeginEnd_d044e : MethodName := ⟨RJ2, "checkBoundsBeginEnd", "(II[B)V"⟩
abbrev cJ2_checkBoundsOffCount_d044e : ByteArray := prog_16_method_94_code
def yJ2_checkBoundsOffCount_d044e : MethodName := ⟨RJ2, "checkBoundsOffCount", "(II[B)V"⟩
def RJ10 : String := "java/lang/System"
def TJ10 : u_T := fun k => match k with
  | _ => ("", "", "", false)
def tyJ10 : Nat → FieldType := fun k => match k with
  | _ => .int
abbrev wsJ100 : List Cond := u_ws RJ10 TJ10 0
theorem nmJ10 : ∀ a, a < 0 → ∀ b, b < 0 → a ≠ b → (TJ10 a).2.1 ≠ (TJ10 b).2.1 := by decide +kernel
theorem tyJ10_ok : ∀ k, k < 0 → parseFieldDescriptor (TJ10 k).2.2.1 = some (tyJ10 k) := by decide +kernel
def RJ7 : String := "java/util/Arrays"
def TJ7 : u_T := fun k => match k with
  | _ => ("", "", "", false)
def tyJ7 : Nat → FieldType := fun k => match k with
  | _ => .int
abbrev wsJ70 : List Cond := u_ws RJ7 TJ7 0
theorem nmJ7 : ∀ a, a < 0 → ∀ b, b < 0 → a ≠ b → (TJ7 a).2.1 ≠ (TJ7 b).2.1 := by decide +kernel
theorem tyJ7_ok : ∀ k, k < 0 → parseFieldDescriptor (TJ7 k).2.2.1 = some (tyJ7 k) := by decide +kernel
abbrev cJ7_rangeCheck_23922 : ByteArray := prog_18_method_30_code
def yJ7_rangeCheck_23922 : MethodName := ⟨RJ7, "rangeCheck", "(III)V"⟩
abbrev cJ7_fill_53178 : ByteArray := prog_18_method_103_code
def yJ7_fill_53178 : MethodName := ⟨RJ7, "fill", "([II)V"⟩
abbrev cJ7_fill_eb02e : ByteArray := prog_18_method_110_code
def yJ7_fill_eb02e : MethodName := ⟨RJ7, "fill", "([BIIB)V"⟩
abbrev cJ7_copyOf_9075b : ByteArray := prog_18_method_121_code
def yJ7_copyOf_9075b : MethodName := ⟨RJ7, "copyOf", "([BI)[B"⟩
abbrev cJ7_checkLength_df160 : ByteArray := prog_18_method_131_code
def yJ7_checkLength_df160 : MethodName := ⟨RJ7, "checkLength", "(II)V"⟩
abbrev cJ7_copyOfRange_39247 : ByteArray := prog_18_method_132_code
def yJ7_copyOfRange_39247 : MethodName := ⟨RJ7, "copyOfRange", "([BII)[B"⟩
abbrev cJ7_copyOfRangeByte_39247 : ByteArray := prog_18_method_133_code
def yJ7_copyOfRangeByte_39247 : MethodName := ⟨RJ7, "copyOfRangeByte", "([BII)[B"⟩
def RJ8 : String := "jdk/internal/util/ArraysSupport"
def TJ8 : u_T := fun k => match k with
  | _ => ("", "", "", false)
def tyJ8 : Nat → FieldType := fun k => match k with
  | _ => .int
abbrev wsJ80 : List Cond := u_ws RJ8 TJ8 0
theorem nmJ8 : ∀ a, a < 0 → ∀ b, b < 0 → a ≠ b → (TJ8 a).2.1 ≠ (TJ8 b).2.1 := by decide +kernel
theorem tyJ8_ok : ∀ k, k < 0 → parseFieldDescriptor (TJ8 k).2.2.1 = some (tyJ8 k) := by decide +kernel
abbrev cJ8_newLength_cabcc : ByteArray := prog_19_method_27_code
def yJ8_newLength_cabcc : MethodName := ⟨RJ8, "newLength", "(III)I"⟩
abbrev cJ8_hugeLength_7cf53 : ByteArray := prog_19_method_28_code
def yJ8_hugeLength_7cf53 : MethodName := ⟨RJ8, "hugeLength", "(II)I"⟩
def RJ3 : String := "jdk/internal/util/Preconditions"
def TJ3 : u_T := fun k => match k with
  | _ => ("", "", "", false)
def tyJ3 : Nat → FieldType := fun k => match k with
  | _ => .int
abbrev wsJ30 : List Cond := u_ws RJ3 TJ3 0
theorem nmJ3 : ∀ a, a < 0 → ∀ b, b < 0 → a ≠ b → (TJ3 a).2.1 ≠ (TJ3 b).2.1 := by decide +kernel
theorem tyJ3_ok : ∀ k, k < 0 → parseFieldDescriptor (TJ3 k).2.2.1 = some (tyJ3 k) := by decide +kernel
abbrev cJ3_checkIndex_8e157 : ByteArray := prog_20_method_11_code
def yJ3_checkIndex_8e157 : MethodName := ⟨RJ3, "checkIndex", "(IILjava/util/function/BiFunction;)I"⟩
abbrev cJ3_checkFromToIndex_8c36e : ByteArray := prog_20_method_12_code
def yJ3_checkFromToIndex_8c36e : MethodName := ⟨RJ3, "checkFromToIndex", "(IIILjava/util/function/BiFunction;)I"⟩
abbrev cJ3_checkFromIndexSize_8c36e : ByteArray := prog_20_method_13_code
def yJ3_checkFromIndexSize_8c36e : MethodName := ⟨RJ3, "checkFromIndexSize", "(IIILjava/util/function/BiFunction;)I"⟩
def RL : String := "KettleGuildLaw"
abbrev cL_cell : ByteArray := method_2_code
def yL_cell : MethodName := ⟨RL, "cell", "([II)I"⟩
abbrev cL_some : ByteArray := method_3_code
def yL_some : MethodName := ⟨RL, "some", "([III)I"⟩
abbrev cL_build : ByteArray := method_4_code
def yL_build : MethodName := ⟨RL, "build", "(LKettleGuild;[I)V"⟩
abbrev cL_brings : ByteArray := method_5_code
def yL_brings : MethodName := ⟨RL, "brings", "(LKettleGuild;II)I"⟩
abbrev cL_acts : ByteArray := method_6_code
def yL_acts : MethodName := ⟨RL, "acts", "(LKettleGuild;[II)V"⟩
abbrev cL_heatUnder : ByteArray := method_7_code
def yL_heatUnder : MethodName := ⟨RL, "heatUnder", "(LKettleGuild;I)I"⟩
abbrev cL_sound : ByteArray := method_8_code
def yL_sound : MethodName := ⟨RL, "sound", "(II)I"⟩
abbrev cL_has : ByteArray := method_9_code
def yL_has : MethodName := ⟨RL, "has", "(LKettleGuild;IC)Z"⟩
abbrev cL_isLine : ByteArray := method_10_code
def yL_isLine : MethodName := ⟨RL, "isLine", "(LKettleGuild;ILjava/lang/String;)Z"⟩
abbrev cL_law : ByteArray := code
def yL_law : MethodName := ⟨RL, "law", "([I)Z"⟩
abbrev vwCl : List vw_C := [(RJ4, TJ4, 4), (RX0, TX0, 3), (RX1, TX1, 6), (RX2, TX2, 3), (RX3, TX3, 18), (RX4, TX4, 7), (RJ0, TJ0, 4)]
end
section
theorem dX4_init_0 : decode cX4_init 0 = .ok (.aload_n 0, 1) := by decide +kernel
theorem dX4_init_1 : decode cX4_init 1 = .ok (.invokespecial 1, 3) := by decide +kernel
theorem dX4_init_4 : decode cX4_init 4 = .ok (.aload_n 0, 1) := by decide +kernel
theorem dX4_init_5 : decode cX4_init 5 = .ok (.new 7, 3) := by decide +kernel
theorem dX4_init_8 : decode cX4_init 8 = .ok (.dup, 1) := by decide +kernel
theorem dX4_init_9 : decode cX4_init 9 = .ok (.invokespecial 9, 3) := by decide +kernel
theorem dX4_init_12 : decode cX4_init 12 = .ok (.putfield 10, 3) := by decide +kernel
theorem dX4_init_15 : decode cX4_init 15 = .ok (.aload_n 0, 1) := by decide +kernel
theorem dX4_init_16 : decode cX4_init 16 = .ok (.new 7, 3) := by decide +kernel
theorem dX4_init_19 : decode cX4_init 19 = .ok (.dup, 1) := by decide +kernel
theorem dX4_init_20 : decode cX4_init 20 = .ok (.invokespecial 9, 3) := by decide +kernel
theorem dX4_init_23 : decode cX4_init 23 = .ok (.putfield 16, 3) := by decide +kernel
theorem dX4_init_26 : decode cX4_init 26 = .ok (.aload_n 0, 1) := by decide +kernel
theorem dX4_init_27 : decode cX4_init 27 = .ok (.new 19, 3) := by decide +kernel
theorem dX4_init_30 : decode cX4_init 30 = .ok (.dup, 1) := by decide +kernel
theorem dX4_init_31 : decode cX4_init 31 = .ok (.invokespecial 21, 3) := by decide +kernel
theorem dX4_init_34 : decode cX4_init 34 = .ok (.putfield 22, 3) := by decide +kernel
theorem dX4_init_37 : decode cX4_init 37 = .ok (.aload_n 0, 1) := by decide +kernel
theorem dX4_init_38 : decode cX4_init 38 = .ok (.new 26, 3) := by decide +kernel
theorem dX4_init_41 : decode cX4_init 41 = .ok (.dup, 1) := by decide +kernel
theorem dX4_init_42 : decode cX4_init 42 = .ok (.invokespecial 28, 3) := by decide +kernel
theorem dX4_init_45 : decode cX4_init 45 = .ok (.putfield 29, 3) := by decide +kernel
theorem dX4_init_48 : decode cX4_init 48 = .ok (.aload_n 0, 1) := by decide +kernel
theorem dX4_init_49 : decode cX4_init 49 = .ok (.new 33, 3) := by decide +kernel
theorem dX4_init_52 : decode cX4_init 52 = .ok (.dup, 1) := by decide +kernel
theorem dX4_init_53 : decode cX4_init 53 = .ok (.invokespecial 35, 3) := by decide +kernel
theorem dX4_init_56 : decode cX4_init 56 = .ok (.putfield 36, 3) := by decide +kernel
theorem dX4_init_59 : decode cX4_init 59 = .ok (.aload_n 0, 1) := by decide +kernel
theorem dX4_init_60 : decode cX4_init 60 = .ok (.new 40, 3) := by decide +kernel
theorem dX4_init_63 : decode cX4_init 63 = .ok (.dup, 1) := by decide +kernel
theorem dX4_init_64 : decode cX4_init 64 = .ok (.invokespecial 42, 3) := by decide +kernel
theorem dX4_init_67 : decode cX4_init 67 = .ok (.putfield 43, 3) := by decide +kernel
theorem dX4_init_70 : decode cX4_init 70 = .ok (.return_, 1) := by decide +kernel
theorem dX4_own_0 : decode cX4_own 0 = .ok (.aload_n 0, 1) := by decide +kernel
theorem dX4_own_1 : decode cX4_own 1 = .ok (.getfield 22, 3) := by decide +kernel
theorem dX4_own_4 : decode cX4_own 4 = .ok (.aload_n 0, 1) := by decide +kernel
theorem dX4_own_5 : decode cX4_own 5 = .ok (.getfield 10, 3) := by decide +kernel
theorem dX4_own_8 : decode cX4_own 8 = .ok (.invokevirtual 47, 3) := by decide +kernel
theorem dX4_own_11 : decode cX4_own 11 = .ok (.aload_n 0, 1) := by decide +kernel
theorem dX4_own_12 : decode cX4_own 12 = .ok (.aload_n 0, 1) := by decide +kernel
theorem dX4_own_13 : decode cX4_own 13 = .ok (.iload_n 1, 1) := by decide +kernel
theorem dX4_own_14 : decode cX4_own 14 = .ok (.iload_n 2, 1) := by decide +kernel
theorem dX4_own_15 : decode cX4_own 15 = .ok (.invokevirtual 51, 3) := by decide +kernel
theorem dX4_own_18 : decode cX4_own 18 = .ok (.invokevirtual 55, 3) := by decide +kernel
theorem dX4_own_21 : decode cX4_own 21 = .ok (.ireturn, 1) := by decide +kernel
theorem dX4_owner_0 : decode cX4_owner 0 = .ok (.iload_n 1, 1) := by decide +kernel
theorem dX4_owner_1 : decode cX4_owner 1 = .ok (.invokestatic 59, 3) := by decide +kernel
theorem dX4_owner_4 : decode cX4_owner 4 = .ok (.ifCond .ne 7, 3) := by decide +kernel
theorem dX4_owner_7 : decode cX4_owner 7 = .ok (.sipush (-1012), 3) := by decide +kernel
theorem dX4_owner_10 : decode cX4_owner 10 = .ok (.ireturn, 1) := by decide +kernel
theorem dX4_owner_11 : decode cX4_owner 11 = .ok (.aload_n 0, 1) := by decide +kernel
theorem dX4_owner_12 : decode cX4_owner 12 = .ok (.getfield 10, 3) := by decide +kernel
theorem dX4_owner_15 : decode cX4_owner 15 = .ok (.getfield 63, 3) := by decide +kernel
theorem dX4_owner_18 : decode cX4_owner 18 = .ok (.iload_n 1, 1) := by decide +kernel
theorem dX4_owner_19 : decode cX4_owner 19 = .ok (.iaload, 1) := by decide +kernel
theorem dX4_owner_20 : decode cX4_owner 20 = .ok (.invokestatic 67, 3) := by decide +kernel
theorem dX4_owner_23 : decode cX4_owner 23 = .ok (.ireturn, 1) := by decide +kernel
theorem dX4_kettle_0 : decode cX4_kettle 0 = .ok (.aload_n 0, 1) := by decide +kernel
theorem dX4_kettle_1 : decode cX4_kettle 1 = .ok (.getfield 22, 3) := by decide +kernel
theorem dX4_kettle_4 : decode cX4_kettle 4 = .ok (.aload_n 0, 1) := by decide +kernel
theorem dX4_kettle_5 : decode cX4_kettle 5 = .ok (.getfield 10, 3) := by decide +kernel
theorem dX4_kettle_8 : decode cX4_kettle 8 = .ok (.invokevirtual 47, 3) := by decide +kernel
theorem dX4_kettle_11 : decode cX4_kettle 11 = .ok (.aload_n 0, 1) := by decide +kernel
theorem dX4_kettle_12 : decode cX4_kettle 12 = .ok (.aload_n 0, 1) := by decide +kernel
theorem dX4_kettle_13 : decode cX4_kettle 13 = .ok (.iload_n 1, 1) := by decide +kernel
theorem dX4_kettle_14 : decode cX4_kettle 14 = .ok (.iload_n 2, 1) := by decide +kernel
theorem dX4_kettle_15 : decode cX4_kettle 15 = .ok (.iload_n 3, 1) := by decide +kernel
theorem dX4_kettle_16 : decode cX4_kettle 16 = .ok (.invokevirtual 70, 3) := by decide +kernel
theorem dX4_kettle_19 : decode cX4_kettle 19 = .ok (.invokevirtual 55, 3) := by decide +kernel
theorem dX4_kettle_22 : decode cX4_kettle 22 = .ok (.ireturn, 1) := by decide +kernel
theorem dX4_fill_0 : decode cX4_fill 0 = .ok (.aload_n 0, 1) := by decide +kernel
theorem dX4_fill_1 : decode cX4_fill 1 = .ok (.getfield 22, 3) := by decide +kernel
theorem dX4_fill_4 : decode cX4_fill 4 = .ok (.aload_n 0, 1) := by decide +kernel
theorem dX4_fill_5 : decode cX4_fill 5 = .ok (.getfield 10, 3) := by decide +kernel
theorem dX4_fill_8 : decode cX4_fill 8 = .ok (.invokevirtual 47, 3) := by decide +kernel
theorem dX4_fill_11 : decode cX4_fill 11 = .ok (.aload_n 0, 1) := by decide +kernel
theorem dX4_fill_12 : decode cX4_fill 12 = .ok (.aload_n 0, 1) := by decide +kernel
theorem dX4_fill_13 : decode cX4_fill 13 = .ok (.iload_n 1, 1) := by decide +kernel
theorem dX4_fill_14 : decode cX4_fill 14 = .ok (.iload_n 2, 1) := by decide +kernel
theorem dX4_fill_15 : decode cX4_fill 15 = .ok (.invokevirtual 74, 3) := by decide +kernel
theorem dX4_fill_18 : decode cX4_fill 18 = .ok (.invokevirtual 55, 3) := by decide +kernel
theorem dX4_fill_21 : decode cX4_fill 21 = .ok (.ireturn, 1) := by decide +kernel
theorem dX4_kettleOf_0 : decode cX4_kettleOf 0 = .ok (.aload_n 0, 1) := by decide +kernel
theorem dX4_kettleOf_1 : decode cX4_kettleOf 1 = .ok (.iload_n 1, 1) := by decide +kernel
theorem dX4_kettleOf_2 : decode cX4_kettleOf 2 = .ok (.invokevirtual 77, 3) := by decide +kernel
theorem dX4_kettleOf_5 : decode cX4_kettleOf 5 = .ok (.ifCond .ne 7, 3) := by decide +kernel
theorem dX4_kettleOf_8 : decode cX4_kettleOf 8 = .ok (.sipush (-1011), 3) := by decide +kernel
theorem dX4_kettleOf_11 : decode cX4_kettleOf 11 = .ok (.ireturn, 1) := by decide +kernel
theorem dX4_kettleOf_12 : decode cX4_kettleOf 12 = .ok (.iload_n 2, 1) := by decide +kernel
theorem dX4_kettleOf_13 : decode cX4_kettleOf 13 = .ok (.tableswitch 175 0 9 #[55, 65, 75, 85, 95, 105, 118, 135, 152, 162], 55) := by decide +kernel
theorem dX4_kettleOf_68 : decode cX4_kettleOf 68 = .ok (.aload_n 0, 1) := by decide +kernel
theorem dX4_kettleOf_69 : decode cX4_kettleOf 69 = .ok (.getfield 10, 3) := by decide +kernel
theorem dX4_kettleOf_72 : decode cX4_kettleOf 72 = .ok (.getfield 80, 3) := by decide +kernel
theorem dX4_kettleOf_75 : decode cX4_kettleOf 75 = .ok (.iload_n 1, 1) := by decide +kernel
theorem dX4_kettleOf_76 : decode cX4_kettleOf 76 = .ok (.iaload, 1) := by decide +kernel
theorem dX4_kettleOf_77 : decode cX4_kettleOf 77 = .ok (.ireturn, 1) := by decide +kernel
theorem dX4_kettleOf_78 : decode cX4_kettleOf 78 = .ok (.aload_n 0, 1) := by decide +kernel
theorem dX4_kettleOf_79 : decode cX4_kettleOf 79 = .ok (.getfield 10, 3) := by decide +kernel
theorem dX4_kettleOf_82 : decode cX4_kettleOf 82 = .ok (.getfield 83, 3) := by decide +kernel
theorem dX4_kettleOf_85 : decode cX4_kettleOf 85 = .ok (.iload_n 1, 1) := by decide +kernel
theorem dX4_kettleOf_86 : decode cX4_kettleOf 86 = .ok (.iaload, 1) := by decide +kernel
theorem dX4_kettleOf_87 : decode cX4_kettleOf 87 = .ok (.ireturn, 1) := by decide +kernel
theorem dX4_kettleOf_88 : decode cX4_kettleOf 88 = .ok (.aload_n 0, 1) := by decide +kernel
theorem dX4_kettleOf_89 : decode cX4_kettleOf 89 = .ok (.getfield 10, 3) := by decide +kernel
theorem dX4_kettleOf_92 : decode cX4_kettleOf 92 = .ok (.getfield 86, 3) := by decide +kernel
theorem dX4_kettleOf_95 : decode cX4_kettleOf 95 = .ok (.iload_n 1, 1) := by decide +kernel
theorem dX4_kettleOf_96 : decode cX4_kettleOf 96 = .ok (.iaload, 1) := by decide +kernel
theorem dX4_kettleOf_97 : decode cX4_kettleOf 97 = .ok (.ireturn, 1) := by decide +kernel
theorem dX4_kettleOf_98 : decode cX4_kettleOf 98 = .ok (.aload_n 0, 1) := by decide +kernel
theorem dX4_kettleOf_99 : decode cX4_kettleOf 99 = .ok (.getfield 10, 3) := by decide +kernel
theorem dX4_kettleOf_102 : decode cX4_kettleOf 102 = .ok (.getfield 89, 3) := by decide +kernel
theorem dX4_kettleOf_105 : decode cX4_kettleOf 105 = .ok (.iload_n 1, 1) := by decide +kernel
theorem dX4_kettleOf_106 : decode cX4_kettleOf 106 = .ok (.iaload, 1) := by decide +kernel
theorem dX4_kettleOf_107 : decode cX4_kettleOf 107 = .ok (.ireturn, 1) := by decide +kernel
theorem dX4_kettleOf_108 : decode cX4_kettleOf 108 = .ok (.aload_n 0, 1) := by decide +kernel
theorem dX4_kettleOf_109 : decode cX4_kettleOf 109 = .ok (.getfield 10, 3) := by decide +kernel
theorem dX4_kettleOf_112 : decode cX4_kettleOf 112 = .ok (.getfield 92, 3) := by decide +kernel
theorem dX4_kettleOf_115 : decode cX4_kettleOf 115 = .ok (.iload_n 1, 1) := by decide +kernel
theorem dX4_kettleOf_116 : decode cX4_kettleOf 116 = .ok (.iaload, 1) := by decide +kernel
theorem dX4_kettleOf_117 : decode cX4_kettleOf 117 = .ok (.ireturn, 1) := by decide +kernel
theorem dX4_kettleOf_118 : decode cX4_kettleOf 118 = .ok (.aload_n 0, 1) := by decide +kernel
theorem dX4_kettleOf_119 : decode cX4_kettleOf 119 = .ok (.getfield 10, 3) := by decide +kernel
theorem dX4_kettleOf_122 : decode cX4_kettleOf 122 = .ok (.getfield 95, 3) := by decide +kernel
theorem dX4_kettleOf_125 : decode cX4_kettleOf 125 = .ok (.iload_n 1, 1) := by decide +kernel
theorem dX4_kettleOf_126 : decode cX4_kettleOf 126 = .ok (.iaload, 1) := by decide +kernel
theorem dX4_kettleOf_127 : decode cX4_kettleOf 127 = .ok (.invokestatic 67, 3) := by decide +kernel
theorem dX4_kettleOf_130 : decode cX4_kettleOf 130 = .ok (.ireturn, 1) := by decide +kernel
theorem dX4_kettleOf_131 : decode cX4_kettleOf 131 = .ok (.aload_n 0, 1) := by decide +kernel
theorem dX4_kettleOf_132 : decode cX4_kettleOf 132 = .ok (.getfield 10, 3) := by decide +kernel
theorem dX4_kettleOf_135 : decode cX4_kettleOf 135 = .ok (.iload_n 1, 1) := by decide +kernel
theorem dX4_kettleOf_136 : decode cX4_kettleOf 136 = .ok (.invokevirtual 98, 3) := by decide +kernel
theorem dX4_kettleOf_139 : decode cX4_kettleOf 139 = .ok (.ifCond .eq 7, 3) := by decide +kernel
theorem dX4_kettleOf_142 : decode cX4_kettleOf 142 = .ok (.iconst 1, 1) := by decide +kernel
theorem dX4_kettleOf_143 : decode cX4_kettleOf 143 = .ok (.goto 4, 3) := by decide +kernel
theorem dX4_kettleOf_146 : decode cX4_kettleOf 146 = .ok (.iconst 0, 1) := by decide +kernel
theorem dX4_kettleOf_147 : decode cX4_kettleOf 147 = .ok (.ireturn, 1) := by decide +kernel
theorem dX4_kettleOf_148 : decode cX4_kettleOf 148 = .ok (.aload_n 0, 1) := by decide +kernel
theorem dX4_kettleOf_149 : decode cX4_kettleOf 149 = .ok (.getfield 10, 3) := by decide +kernel
theorem dX4_kettleOf_152 : decode cX4_kettleOf 152 = .ok (.iload_n 1, 1) := by decide +kernel
theorem dX4_kettleOf_153 : decode cX4_kettleOf 153 = .ok (.invokevirtual 101, 3) := by decide +kernel
theorem dX4_kettleOf_156 : decode cX4_kettleOf 156 = .ok (.ifCond .eq 7, 3) := by decide +kernel
theorem dX4_kettleOf_159 : decode cX4_kettleOf 159 = .ok (.iconst 1, 1) := by decide +kernel
theorem dX4_kettleOf_160 : decode cX4_kettleOf 160 = .ok (.goto 4, 3) := by decide +kernel
theorem dX4_kettleOf_163 : decode cX4_kettleOf 163 = .ok (.iconst 0, 1) := by decide +kernel
theorem dX4_kettleOf_164 : decode cX4_kettleOf 164 = .ok (.ireturn, 1) := by decide +kernel
theorem dX4_kettleOf_165 : decode cX4_kettleOf 165 = .ok (.aload_n 0, 1) := by decide +kernel
theorem dX4_kettleOf_166 : decode cX4_kettleOf 166 = .ok (.getfield 10, 3) := by decide +kernel
theorem dX4_kettleOf_169 : decode cX4_kettleOf 169 = .ok (.getfield 104, 3) := by decide +kernel
theorem dX4_kettleOf_172 : decode cX4_kettleOf 172 = .ok (.iload_n 1, 1) := by decide +kernel
theorem dX4_kettleOf_173 : decode cX4_kettleOf 173 = .ok (.iaload, 1) := by decide +kernel
theorem dX4_kettleOf_174 : decode cX4_kettleOf 174 = .ok (.ireturn, 1) := by decide +kernel
theorem dX4_kettleOf_175 : decode cX4_kettleOf 175 = .ok (.aload_n 0, 1) := by decide +kernel
theorem dX4_kettleOf_176 : decode cX4_kettleOf 176 = .ok (.getfield 10, 3) := by decide +kernel
theorem dX4_kettleOf_179 : decode cX4_kettleOf 179 = .ok (.getfield 107, 3) := by decide +kernel
theorem dX4_kettleOf_182 : decode cX4_kettleOf 182 = .ok (.iload_n 1, 1) := by decide +kernel
theorem dX4_kettleOf_183 : decode cX4_kettleOf 183 = .ok (.iaload, 1) := by decide +kernel
theorem dX4_kettleOf_184 : decode cX4_kettleOf 184 = .ok (.invokestatic 110, 3) := by decide +kernel
theorem dX4_kettleOf_187 : decode cX4_kettleOf 187 = .ok (.ireturn, 1) := by decide +kernel
theorem dX4_kettleOf_188 : decode cX4_kettleOf 188 = .ok (.sipush (-1012), 3) := by decide +kernel
theorem dX4_kettleOf_191 : decode cX4_kettleOf 191 = .ok (.ireturn, 1) := by decide +kernel
theorem dX4_set_0 : decode cX4_set 0 = .ok (.aload_n 0, 1) := by decide +kernel
theorem dX4_set_1 : decode cX4_set 1 = .ok (.getfield 22, 3) := by decide +kernel
theorem dX4_set_4 : decode cX4_set 4 = .ok (.aload_n 0, 1) := by decide +kernel
theorem dX4_set_5 : decode cX4_set 5 = .ok (.getfield 10, 3) := by decide +kernel
theorem dX4_set_8 : decode cX4_set 8 = .ok (.invokevirtual 47, 3) := by decide +kernel
theorem dX4_set_11 : decode cX4_set 11 = .ok (.aload_n 0, 1) := by decide +kernel
theorem dX4_set_12 : decode cX4_set 12 = .ok (.aload_n 0, 1) := by decide +kernel
theorem dX4_set_13 : decode cX4_set 13 = .ok (.iload_n 1, 1) := by decide +kernel
theorem dX4_set_14 : decode cX4_set 14 = .ok (.iload_n 2, 1) := by decide +kernel
theorem dX4_set_15 : decode cX4_set 15 = .ok (.invokevirtual 115, 3) := by decide +kernel
theorem dX4_set_18 : decode cX4_set 18 = .ok (.invokevirtual 55, 3) := by decide +kernel
theorem dX4_set_21 : decode cX4_set 21 = .ok (.ireturn, 1) := by decide +kernel
theorem dX4_off_0 : decode cX4_off 0 = .ok (.aload_n 0, 1) := by decide +kernel
theorem dX4_off_1 : decode cX4_off 1 = .ok (.getfield 22, 3) := by decide +kernel
theorem dX4_off_4 : decode cX4_off 4 = .ok (.aload_n 0, 1) := by decide +kernel
theorem dX4_off_5 : decode cX4_off 5 = .ok (.getfield 10, 3) := by decide +kernel
theorem dX4_off_8 : decode cX4_off 8 = .ok (.invokevirtual 47, 3) := by decide +kernel
theorem dX4_off_11 : decode cX4_off 11 = .ok (.aload_n 0, 1) := by decide +kernel
theorem dX4_off_12 : decode cX4_off 12 = .ok (.aload_n 0, 1) := by decide +kernel
theorem dX4_off_13 : decode cX4_off 13 = .ok (.iload_n 1, 1) := by decide +kernel
theorem dX4_off_14 : decode cX4_off 14 = .ok (.invokevirtual 118, 3) := by decide +kernel
theorem dX4_off_17 : decode cX4_off 17 = .ok (.invokevirtual 55, 3) := by decide +kernel
theorem dX4_off_20 : decode cX4_off 20 = .ok (.ireturn, 1) := by decide +kernel
theorem dX4_heat_0 : decode cX4_heat 0 = .ok (.aload_n 0, 1) := by decide +kernel
theorem dX4_heat_1 : decode cX4_heat 1 = .ok (.getfield 22, 3) := by decide +kernel
theorem dX4_heat_4 : decode cX4_heat 4 = .ok (.aload_n 0, 1) := by decide +kernel
theorem dX4_heat_5 : decode cX4_heat 5 = .ok (.getfield 10, 3) := by decide +kernel
theorem dX4_heat_8 : decode cX4_heat 8 = .ok (.invokevirtual 47, 3) := by decide +kernel
theorem dX4_heat_11 : decode cX4_heat 11 = .ok (.aload_n 0, 1) := by decide +kernel
theorem dX4_heat_12 : decode cX4_heat 12 = .ok (.aload_n 0, 1) := by decide +kernel
theorem dX4_heat_13 : decode cX4_heat 13 = .ok (.iload_n 1, 1) := by decide +kernel
theorem dX4_heat_14 : decode cX4_heat 14 = .ok (.iload_n 2, 1) := by decide +kernel
theorem dX4_heat_15 : decode cX4_heat 15 = .ok (.invokevirtual 121, 3) := by decide +kernel
theorem dX4_heat_18 : decode cX4_heat 18 = .ok (.invokevirtual 55, 3) := by decide +kernel
theorem dX4_heat_21 : decode cX4_heat 21 = .ok (.ireturn, 1) := by decide +kernel
theorem dX4_lid_0 : decode cX4_lid 0 = .ok (.aload_n 0, 1) := by decide +kernel
theorem dX4_lid_1 : decode cX4_lid 1 = .ok (.getfield 22, 3) := by decide +kernel
theorem dX4_lid_4 : decode cX4_lid 4 = .ok (.aload_n 0, 1) := by decide +kernel
theorem dX4_lid_5 : decode cX4_lid 5 = .ok (.getfield 10, 3) := by decide +kernel
theorem dX4_lid_8 : decode cX4_lid 8 = .ok (.invokevirtual 47, 3) := by decide +kernel
theorem dX4_lid_11 : decode cX4_lid 11 = .ok (.aload_n 0, 1) := by decide +kernel
theorem dX4_lid_12 : decode cX4_lid 12 = .ok (.aload_n 0, 1) := by decide +kernel
theorem dX4_lid_13 : decode cX4_lid 13 = .ok (.iload_n 1, 1) := by decide +kernel
theorem dX4_lid_14 : decode cX4_lid 14 = .ok (.iload_n 2, 1) := by decide +kernel
theorem dX4_lid_15 : decode cX4_lid 15 = .ok (.invokevirtual 124, 3) := by decide +kernel
theorem dX4_lid_18 : decode cX4_lid 18 = .ok (.invokevirtual 55, 3) := by decide +kernel
theorem dX4_lid_21 : decode cX4_lid 21 = .ok (.ireturn, 1) := by decide +kernel
theorem dX4_appeal_0 : decode cX4_appeal 0 = .ok (.aload_n 0, 1) := by decide +kernel
theorem dX4_appeal_1 : decode cX4_appeal 1 = .ok (.getfield 22, 3) := by decide +kernel
theorem dX4_appeal_4 : decode cX4_appeal 4 = .ok (.aload_n 0, 1) := by decide +kernel
theorem dX4_appeal_5 : decode cX4_appeal 5 = .ok (.getfield 10, 3) := by decide +kernel
theorem dX4_appeal_8 : decode cX4_appeal 8 = .ok (.invokevirtual 47, 3) := by decide +kernel
theorem dX4_appeal_11 : decode cX4_appeal 11 = .ok (.aload_n 0, 1) := by decide +kernel
theorem dX4_appeal_12 : decode cX4_appeal 12 = .ok (.aload_n 0, 1) := by decide +kernel
theorem dX4_appeal_13 : decode cX4_appeal 13 = .ok (.iload_n 1, 1) := by decide +kernel
theorem dX4_appeal_14 : decode cX4_appeal 14 = .ok (.iload_n 2, 1) := by decide +kernel
theorem dX4_appeal_15 : decode cX4_appeal 15 = .ok (.invokevirtual 127, 3) := by decide +kernel
theorem dX4_appeal_18 : decode cX4_appeal 18 = .ok (.invokevirtual 55, 3) := by decide +kernel
theorem dX4_appeal_21 : decode cX4_appeal 21 = .ok (.ireturn, 1) := by decide +kernel
theorem dX4_stoveOf_0 : decode cX4_stoveOf 0 = .ok (.iload_n 1, 1) := by decide +kernel
theorem dX4_stoveOf_1 : decode cX4_stoveOf 1 = .ok (.invokestatic 130, 3) := by decide +kernel
theorem dX4_stoveOf_4 : decode cX4_stoveOf 4 = .ok (.ifCond .ne 7, 3) := by decide +kernel
theorem dX4_stoveOf_7 : decode cX4_stoveOf 7 = .ok (.sipush (-1011), 3) := by decide +kernel
theorem dX4_stoveOf_10 : decode cX4_stoveOf 10 = .ok (.ireturn, 1) := by decide +kernel
theorem dX4_stoveOf_11 : decode cX4_stoveOf 11 = .ok (.iload_n 2, 1) := by decide +kernel
theorem dX4_stoveOf_12 : decode cX4_stoveOf 12 = .ok (.ifCond .eq 15, 3) := by decide +kernel
theorem dX4_stoveOf_15 : decode cX4_stoveOf 15 = .ok (.aload_n 0, 1) := by decide +kernel
theorem dX4_stoveOf_16 : decode cX4_stoveOf 16 = .ok (.getfield 10, 3) := by decide +kernel
theorem dX4_stoveOf_19 : decode cX4_stoveOf 19 = .ok (.getfield 133, 3) := by decide +kernel
theorem dX4_stoveOf_22 : decode cX4_stoveOf 22 = .ok (.iload_n 1, 1) := by decide +kernel
theorem dX4_stoveOf_23 : decode cX4_stoveOf 23 = .ok (.iaload, 1) := by decide +kernel
theorem dX4_stoveOf_24 : decode cX4_stoveOf 24 = .ok (.goto 14, 3) := by decide +kernel
theorem dX4_stoveOf_27 : decode cX4_stoveOf 27 = .ok (.aload_n 0, 1) := by decide +kernel
theorem dX4_stoveOf_28 : decode cX4_stoveOf 28 = .ok (.getfield 10, 3) := by decide +kernel
theorem dX4_stoveOf_31 : decode cX4_stoveOf 31 = .ok (.iload_n 1, 1) := by decide +kernel
theorem dX4_stoveOf_32 : decode cX4_stoveOf 32 = .ok (.invokevirtual 136, 3) := by decide +kernel
theorem dX4_stoveOf_35 : decode cX4_stoveOf 35 = .ok (.invokestatic 67, 3) := by decide +kernel
theorem dX4_stoveOf_38 : decode cX4_stoveOf 38 = .ok (.ireturn, 1) := by decide +kernel
theorem dX4_minute_0 : decode cX4_minute 0 = .ok (.aload_n 0, 1) := by decide +kernel
theorem dX4_minute_1 : decode cX4_minute 1 = .ok (.getfield 22, 3) := by decide +kernel
theorem dX4_minute_4 : decode cX4_minute 4 = .ok (.aload_n 0, 1) := by decide +kernel
theorem dX4_minute_5 : decode cX4_minute 5 = .ok (.getfield 10, 3) := by decide +kernel
theorem dX4_minute_8 : decode cX4_minute 8 = .ok (.invokevirtual 47, 3) := by decide +kernel
theorem dX4_minute_11 : decode cX4_minute 11 = .ok (.aload_n 0, 1) := by decide +kernel
theorem dX4_minute_12 : decode cX4_minute 12 = .ok (.aload_n 0, 1) := by decide +kernel
theorem dX4_minute_13 : decode cX4_minute 13 = .ok (.iload_n 1, 1) := by decide +kernel
theorem dX4_minute_14 : decode cX4_minute 14 = .ok (.invokevirtual 139, 3) := by decide +kernel
theorem dX4_minute_17 : decode cX4_minute 17 = .ok (.invokevirtual 55, 3) := by decide +kernel
theorem dX4_minute_20 : decode cX4_minute 20 = .ok (.ireturn, 1) := by decide +kernel
theorem dX4_whistling_0 : decode cX4_whistling 0 = .ok (.aload_n 0, 1) := by decide +kernel
theorem dX4_whistling_1 : decode cX4_whistling 1 = .ok (.getfield 10, 3) := by decide +kernel
theorem dX4_whistling_4 : decode cX4_whistling 4 = .ok (.invokevirtual 142, 3) := by decide +kernel
theorem dX4_whistling_7 : decode cX4_whistling 7 = .ok (.ireturn, 1) := by decide +kernel
theorem dX4_harmony_0 : decode cX4_harmony 0 = .ok (.aload_n 0, 1) := by decide +kernel
theorem dX4_harmony_1 : decode cX4_harmony 1 = .ok (.getfield 10, 3) := by decide +kernel
theorem dX4_harmony_4 : decode cX4_harmony 4 = .ok (.invokevirtual 142, 3) := by decide +kernel
theorem dX4_harmony_7 : decode cX4_harmony 7 = .ok (.istore_n 1, 1) := by decide +kernel
theorem dX4_harmony_8 : decode cX4_harmony 8 = .ok (.iconst 0, 1) := by decide +kernel
theorem dX4_harmony_9 : decode cX4_harmony 9 = .ok (.istore_n 2, 1) := by decide +kernel
theorem dX4_harmony_10 : decode cX4_harmony 10 = .ok (.iconst 0, 1) := by decide +kernel
theorem dX4_harmony_11 : decode cX4_harmony 11 = .ok (.istore_n 3, 1) := by decide +kernel
theorem dX4_harmony_12 : decode cX4_harmony 12 = .ok (.iload_n 3, 1) := by decide +kernel
theorem dX4_harmony_13 : decode cX4_harmony 13 = .ok (.aload_n 0, 1) := by decide +kernel
theorem dX4_harmony_14 : decode cX4_harmony 14 = .ok (.getfield 10, 3) := by decide +kernel
theorem dX4_harmony_17 : decode cX4_harmony 17 = .ok (.getfield 146, 3) := by decide +kernel
theorem dX4_harmony_20 : decode cX4_harmony 20 = .ok (.if_icmp .ge 74, 3) := by decide +kernel
theorem dX4_harmony_23 : decode cX4_harmony 23 = .ok (.iload_n 3, 1) := by decide +kernel
theorem dX4_harmony_24 : decode cX4_harmony 24 = .ok (.iconst 1, 1) := by decide +kernel
theorem dX4_harmony_25 : decode cX4_harmony 25 = .ok (.iadd, 1) := by decide +kernel
theorem dX4_harmony_26 : decode cX4_harmony 26 = .ok (.istore 4, 2) := by decide +kernel
theorem dX4_harmony_28 : decode cX4_harmony 28 = .ok (.iload 4, 2) := by decide +kernel
theorem dX4_harmony_30 : decode cX4_harmony 30 = .ok (.aload_n 0, 1) := by decide +kernel
theorem dX4_harmony_31 : decode cX4_harmony 31 = .ok (.getfield 10, 3) := by decide +kernel
theorem dX4_harmony_34 : decode cX4_harmony 34 = .ok (.getfield 146, 3) := by decide +kernel
theorem dX4_harmony_37 : decode cX4_harmony 37 = .ok (.if_icmp .ge 51, 3) := by decide +kernel
theorem dX4_harmony_40 : decode cX4_harmony 40 = .ok (.iload_n 1, 1) := by decide +kernel
theorem dX4_harmony_41 : decode cX4_harmony 41 = .ok (.iload_n 3, 1) := by decide +kernel
theorem dX4_harmony_42 : decode cX4_harmony 42 = .ok (.invokestatic 150, 3) := by decide +kernel
theorem dX4_harmony_45 : decode cX4_harmony 45 = .ok (.ifCond .eq 37, 3) := by decide +kernel
theorem dX4_harmony_48 : decode cX4_harmony 48 = .ok (.iload_n 1, 1) := by decide +kernel
theorem dX4_harmony_49 : decode cX4_harmony 49 = .ok (.iload 4, 2) := by decide +kernel
theorem dX4_harmony_51 : decode cX4_harmony 51 = .ok (.invokestatic 150, 3) := by decide +kernel
theorem dX4_harmony_54 : decode cX4_harmony 54 = .ok (.ifCond .eq 28, 3) := by decide +kernel
theorem dX4_harmony_57 : decode cX4_harmony 57 = .ok (.iload_n 2, 1) := by decide +kernel
theorem dX4_harmony_58 : decode cX4_harmony 58 = .ok (.aload_n 0, 1) := by decide +kernel
theorem dX4_harmony_59 : decode cX4_harmony 59 = .ok (.getfield 10, 3) := by decide +kernel
theorem dX4_harmony_62 : decode cX4_harmony 62 = .ok (.getfield 83, 3) := by decide +kernel
theorem dX4_harmony_65 : decode cX4_harmony 65 = .ok (.iload_n 3, 1) := by decide +kernel
theorem dX4_harmony_66 : decode cX4_harmony 66 = .ok (.iaload, 1) := by decide +kernel
theorem dX4_harmony_67 : decode cX4_harmony 67 = .ok (.aload_n 0, 1) := by decide +kernel
theorem dX4_harmony_68 : decode cX4_harmony 68 = .ok (.getfield 10, 3) := by decide +kernel
theorem dX4_harmony_71 : decode cX4_harmony 71 = .ok (.getfield 83, 3) := by decide +kernel
theorem dX4_harmony_74 : decode cX4_harmony 74 = .ok (.iload 4, 2) := by decide +kernel
theorem dX4_harmony_76 : decode cX4_harmony 76 = .ok (.iaload, 1) := by decide +kernel
theorem dX4_harmony_77 : decode cX4_harmony 77 = .ok (.invokestatic 154, 3) := by decide +kernel
theorem dX4_harmony_80 : decode cX4_harmony 80 = .ok (.iadd, 1) := by decide +kernel
theorem dX4_harmony_81 : decode cX4_harmony 81 = .ok (.istore_n 2, 1) := by decide +kernel
theorem dX4_harmony_82 : decode cX4_harmony 82 = .ok (.iinc 4 1, 3) := by decide +kernel
theorem dX4_harmony_85 : decode cX4_harmony 85 = .ok (.goto (-57), 3) := by decide +kernel
theorem dX4_harmony_88 : decode cX4_harmony 88 = .ok (.iinc 3 1, 3) := by decide +kernel
theorem dX4_harmony_91 : decode cX4_harmony 91 = .ok (.goto (-79), 3) := by decide +kernel
theorem dX4_harmony_94 : decode cX4_harmony 94 = .ok (.iload_n 2, 1) := by decide +kernel
theorem dX4_harmony_95 : decode cX4_harmony 95 = .ok (.ireturn, 1) := by decide +kernel
theorem dX4_harmonyAgain_0 : decode cX4_harmonyAgain 0 = .ok (.aload_n 0, 1) := by decide +kernel
theorem dX4_harmonyAgain_1 : decode cX4_harmonyAgain 1 = .ok (.getfield 10, 3) := by decide +kernel
theorem dX4_harmonyAgain_4 : decode cX4_harmonyAgain 4 = .ok (.invokevirtual 157, 3) := by decide +kernel
theorem dX4_harmonyAgain_7 : decode cX4_harmonyAgain 7 = .ok (.istore_n 1, 1) := by decide +kernel
theorem dX4_harmonyAgain_8 : decode cX4_harmonyAgain 8 = .ok (.iconst 0, 1) := by decide +kernel
theorem dX4_harmonyAgain_9 : decode cX4_harmonyAgain 9 = .ok (.istore_n 2, 1) := by decide +kernel
theorem dX4_harmonyAgain_10 : decode cX4_harmonyAgain 10 = .ok (.iconst 1, 1) := by decide +kernel
theorem dX4_harmonyAgain_11 : decode cX4_harmonyAgain 11 = .ok (.istore_n 3, 1) := by decide +kernel
theorem dX4_harmonyAgain_12 : decode cX4_harmonyAgain 12 = .ok (.iload_n 3, 1) := by decide +kernel
theorem dX4_harmonyAgain_13 : decode cX4_harmonyAgain 13 = .ok (.getstatic 160, 3) := by decide +kernel
theorem dX4_harmonyAgain_16 : decode cX4_harmonyAgain 16 = .ok (.arraylength, 1) := by decide +kernel
theorem dX4_harmonyAgain_17 : decode cX4_harmonyAgain 17 = .ok (.if_icmp .ge 30, 3) := by decide +kernel
theorem dX4_harmonyAgain_20 : decode cX4_harmonyAgain 20 = .ok (.iload_n 1, 1) := by decide +kernel
theorem dX4_harmonyAgain_21 : decode cX4_harmonyAgain 21 = .ok (.iload_n 1, 1) := by decide +kernel
theorem dX4_harmonyAgain_22 : decode cX4_harmonyAgain 22 = .ok (.iload_n 3, 1) := by decide +kernel
theorem dX4_harmonyAgain_23 : decode cX4_harmonyAgain 23 = .ok (.ishr, 1) := by decide +kernel
theorem dX4_harmonyAgain_24 : decode cX4_harmonyAgain 24 = .ok (.iand, 1) := by decide +kernel
theorem dX4_harmonyAgain_25 : decode cX4_harmonyAgain 25 = .ok (.invokestatic 110, 3) := by decide +kernel
theorem dX4_harmonyAgain_28 : decode cX4_harmonyAgain 28 = .ok (.istore 4, 2) := by decide +kernel
theorem dX4_harmonyAgain_30 : decode cX4_harmonyAgain 30 = .ok (.iload_n 2, 1) := by decide +kernel
theorem dX4_harmonyAgain_31 : decode cX4_harmonyAgain 31 = .ok (.getstatic 160, 3) := by decide +kernel
theorem dX4_harmonyAgain_34 : decode cX4_harmonyAgain 34 = .ok (.iload_n 3, 1) := by decide +kernel
theorem dX4_harmonyAgain_35 : decode cX4_harmonyAgain 35 = .ok (.iaload, 1) := by decide +kernel
theorem dX4_harmonyAgain_36 : decode cX4_harmonyAgain 36 = .ok (.iload 4, 2) := by decide +kernel
theorem dX4_harmonyAgain_38 : decode cX4_harmonyAgain 38 = .ok (.imul, 1) := by decide +kernel
theorem dX4_harmonyAgain_39 : decode cX4_harmonyAgain 39 = .ok (.iadd, 1) := by decide +kernel
theorem dX4_harmonyAgain_40 : decode cX4_harmonyAgain 40 = .ok (.istore_n 2, 1) := by decide +kernel
theorem dX4_harmonyAgain_41 : decode cX4_harmonyAgain 41 = .ok (.iinc 3 1, 3) := by decide +kernel
theorem dX4_harmonyAgain_44 : decode cX4_harmonyAgain 44 = .ok (.goto (-32), 3) := by decide +kernel
theorem dX4_harmonyAgain_47 : decode cX4_harmonyAgain 47 = .ok (.iload_n 2, 1) := by decide +kernel
theorem dX4_harmonyAgain_48 : decode cX4_harmonyAgain 48 = .ok (.ireturn, 1) := by decide +kernel
theorem dX4_boilsIn_0 : decode cX4_boilsIn 0 = .ok (.aload_n 0, 1) := by decide +kernel
theorem dX4_boilsIn_1 : decode cX4_boilsIn 1 = .ok (.iload_n 1, 1) := by decide +kernel
theorem dX4_boilsIn_2 : decode cX4_boilsIn 2 = .ok (.invokevirtual 77, 3) := by decide +kernel
theorem dX4_boilsIn_5 : decode cX4_boilsIn 5 = .ok (.ifCond .ne 7, 3) := by decide +kernel
theorem dX4_boilsIn_8 : decode cX4_boilsIn 8 = .ok (.sipush (-1011), 3) := by decide +kernel
theorem dX4_boilsIn_11 : decode cX4_boilsIn 11 = .ok (.ireturn, 1) := by decide +kernel
theorem dX4_boilsIn_12 : decode cX4_boilsIn 12 = .ok (.aload_n 0, 1) := by decide +kernel
theorem dX4_boilsIn_13 : decode cX4_boilsIn 13 = .ok (.getfield 10, 3) := by decide +kernel
theorem dX4_boilsIn_16 : decode cX4_boilsIn 16 = .ok (.iload_n 1, 1) := by decide +kernel
theorem dX4_boilsIn_17 : decode cX4_boilsIn 17 = .ok (.invokevirtual 163, 3) := by decide +kernel
theorem dX4_boilsIn_20 : decode cX4_boilsIn 20 = .ok (.istore_n 2, 1) := by decide +kernel
theorem dX4_boilsIn_21 : decode cX4_boilsIn 21 = .ok (.aload_n 0, 1) := by decide +kernel
theorem dX4_boilsIn_22 : decode cX4_boilsIn 22 = .ok (.getfield 10, 3) := by decide +kernel
theorem dX4_boilsIn_25 : decode cX4_boilsIn 25 = .ok (.getfield 89, 3) := by decide +kernel
theorem dX4_boilsIn_28 : decode cX4_boilsIn 28 = .ok (.iload_n 1, 1) := by decide +kernel
theorem dX4_boilsIn_29 : decode cX4_boilsIn 29 = .ok (.iaload, 1) := by decide +kernel
theorem dX4_boilsIn_30 : decode cX4_boilsIn 30 = .ok (.istore_n 3, 1) := by decide +kernel
theorem dX4_boilsIn_31 : decode cX4_boilsIn 31 = .ok (.iconst 0, 1) := by decide +kernel
theorem dX4_boilsIn_32 : decode cX4_boilsIn 32 = .ok (.istore 4, 2) := by decide +kernel
theorem dX4_boilsIn_34 : decode cX4_boilsIn 34 = .ok (.iload 4, 2) := by decide +kernel
theorem dX4_boilsIn_36 : decode cX4_boilsIn 36 = .ok (.bipush 100, 2) := by decide +kernel
theorem dX4_boilsIn_38 : decode cX4_boilsIn 38 = .ok (.if_icmp .gt 33, 3) := by decide +kernel
theorem dX4_boilsIn_41 : decode cX4_boilsIn 41 = .ok (.iload_n 2, 1) := by decide +kernel
theorem dX4_boilsIn_42 : decode cX4_boilsIn 42 = .ok (.ifCond .le 12, 3) := by decide +kernel
theorem dX4_boilsIn_45 : decode cX4_boilsIn 45 = .ok (.iload_n 3, 1) := by decide +kernel
theorem dX4_boilsIn_46 : decode cX4_boilsIn 46 = .ok (.bipush 100, 2) := by decide +kernel
theorem dX4_boilsIn_48 : decode cX4_boilsIn 48 = .ok (.if_icmp .ne 6, 3) := by decide +kernel
theorem dX4_boilsIn_51 : decode cX4_boilsIn 51 = .ok (.iload 4, 2) := by decide +kernel
theorem dX4_boilsIn_53 : decode cX4_boilsIn 53 = .ok (.ireturn, 1) := by decide +kernel
theorem dX4_boilsIn_54 : decode cX4_boilsIn 54 = .ok (.bipush 100, 2) := by decide +kernel
theorem dX4_boilsIn_56 : decode cX4_boilsIn 56 = .ok (.iload_n 3, 1) := by decide +kernel
theorem dX4_boilsIn_57 : decode cX4_boilsIn 57 = .ok (.iconst 5, 1) := by decide +kernel
theorem dX4_boilsIn_58 : decode cX4_boilsIn 58 = .ok (.iload_n 2, 1) := by decide +kernel
theorem dX4_boilsIn_59 : decode cX4_boilsIn 59 = .ok (.imul, 1) := by decide +kernel
theorem dX4_boilsIn_60 : decode cX4_boilsIn 60 = .ok (.iadd, 1) := by decide +kernel
theorem dX4_boilsIn_61 : decode cX4_boilsIn 61 = .ok (.invokestatic 166, 3) := by decide +kernel
theorem dX4_boilsIn_64 : decode cX4_boilsIn 64 = .ok (.istore_n 3, 1) := by decide +kernel
theorem dX4_boilsIn_65 : decode cX4_boilsIn 65 = .ok (.iinc 4 1, 3) := by decide +kernel
theorem dX4_boilsIn_68 : decode cX4_boilsIn 68 = .ok (.goto (-34), 3) := by decide +kernel
theorem dX4_boilsIn_71 : decode cX4_boilsIn 71 = .ok (.sipush (-1015), 3) := by decide +kernel
theorem dX4_boilsIn_74 : decode cX4_boilsIn 74 = .ok (.ireturn, 1) := by decide +kernel
theorem dX4_boilsInAgain_0 : decode cX4_boilsInAgain 0 = .ok (.aload_n 0, 1) := by decide +kernel
theorem dX4_boilsInAgain_1 : decode cX4_boilsInAgain 1 = .ok (.iload_n 1, 1) := by decide +kernel
theorem dX4_boilsInAgain_2 : decode cX4_boilsInAgain 2 = .ok (.invokevirtual 77, 3) := by decide +kernel
theorem dX4_boilsInAgain_5 : decode cX4_boilsInAgain 5 = .ok (.ifCond .ne 7, 3) := by decide +kernel
theorem dX4_boilsInAgain_8 : decode cX4_boilsInAgain 8 = .ok (.sipush (-1011), 3) := by decide +kernel
theorem dX4_boilsInAgain_11 : decode cX4_boilsInAgain 11 = .ok (.ireturn, 1) := by decide +kernel
theorem dX4_boilsInAgain_12 : decode cX4_boilsInAgain 12 = .ok (.iconst 5, 1) := by decide +kernel
theorem dX4_boilsInAgain_13 : decode cX4_boilsInAgain 13 = .ok (.aload_n 0, 1) := by decide +kernel
theorem dX4_boilsInAgain_14 : decode cX4_boilsInAgain 14 = .ok (.getfield 10, 3) := by decide +kernel
theorem dX4_boilsInAgain_17 : decode cX4_boilsInAgain 17 = .ok (.iload_n 1, 1) := by decide +kernel
theorem dX4_boilsInAgain_18 : decode cX4_boilsInAgain 18 = .ok (.invokevirtual 163, 3) := by decide +kernel
theorem dX4_boilsInAgain_21 : decode cX4_boilsInAgain 21 = .ok (.imul, 1) := by decide +kernel
theorem dX4_boilsInAgain_22 : decode cX4_boilsInAgain 22 = .ok (.istore_n 2, 1) := by decide +kernel
theorem dX4_boilsInAgain_23 : decode cX4_boilsInAgain 23 = .ok (.iload_n 2, 1) := by decide +kernel
theorem dX4_boilsInAgain_24 : decode cX4_boilsInAgain 24 = .ok (.ifCond .gt 7, 3) := by decide +kernel
theorem dX4_boilsInAgain_27 : decode cX4_boilsInAgain 27 = .ok (.sipush (-1015), 3) := by decide +kernel
theorem dX4_boilsInAgain_30 : decode cX4_boilsInAgain 30 = .ok (.ireturn, 1) := by decide +kernel
theorem dX4_boilsInAgain_31 : decode cX4_boilsInAgain 31 = .ok (.bipush 100, 2) := by decide +kernel
theorem dX4_boilsInAgain_33 : decode cX4_boilsInAgain 33 = .ok (.aload_n 0, 1) := by decide +kernel
theorem dX4_boilsInAgain_34 : decode cX4_boilsInAgain 34 = .ok (.getfield 10, 3) := by decide +kernel
theorem dX4_boilsInAgain_37 : decode cX4_boilsInAgain 37 = .ok (.getfield 89, 3) := by decide +kernel
theorem dX4_boilsInAgain_40 : decode cX4_boilsInAgain 40 = .ok (.iload_n 1, 1) := by decide +kernel
theorem dX4_boilsInAgain_41 : decode cX4_boilsInAgain 41 = .ok (.iaload, 1) := by decide +kernel
theorem dX4_boilsInAgain_42 : decode cX4_boilsInAgain 42 = .ok (.isub, 1) := by decide +kernel
theorem dX4_boilsInAgain_43 : decode cX4_boilsInAgain 43 = .ok (.istore_n 3, 1) := by decide +kernel
theorem dX4_boilsInAgain_44 : decode cX4_boilsInAgain 44 = .ok (.iload_n 3, 1) := by decide +kernel
theorem dX4_boilsInAgain_45 : decode cX4_boilsInAgain 45 = .ok (.iload_n 2, 1) := by decide +kernel
theorem dX4_boilsInAgain_46 : decode cX4_boilsInAgain 46 = .ok (.iadd, 1) := by decide +kernel
theorem dX4_boilsInAgain_47 : decode cX4_boilsInAgain 47 = .ok (.iconst 1, 1) := by decide +kernel
theorem dX4_boilsInAgain_48 : decode cX4_boilsInAgain 48 = .ok (.isub, 1) := by decide +kernel
theorem dX4_boilsInAgain_49 : decode cX4_boilsInAgain 49 = .ok (.iload_n 2, 1) := by decide +kernel
theorem dX4_boilsInAgain_50 : decode cX4_boilsInAgain 50 = .ok (.idiv, 1) := by decide +kernel
theorem dX4_boilsInAgain_51 : decode cX4_boilsInAgain 51 = .ok (.ireturn, 1) := by decide +kernel
theorem dX4_dryIn_0 : decode cX4_dryIn 0 = .ok (.aload_n 0, 1) := by decide +kernel
theorem dX4_dryIn_1 : decode cX4_dryIn 1 = .ok (.iload_n 1, 1) := by decide +kernel
theorem dX4_dryIn_2 : decode cX4_dryIn 2 = .ok (.invokevirtual 171, 3) := by decide +kernel
theorem dX4_dryIn_5 : decode cX4_dryIn 5 = .ok (.istore_n 2, 1) := by decide +kernel
theorem dX4_dryIn_6 : decode cX4_dryIn 6 = .ok (.iload_n 2, 1) := by decide +kernel
theorem dX4_dryIn_7 : decode cX4_dryIn 7 = .ok (.ifCond .lt 11, 3) := by decide +kernel
theorem dX4_dryIn_10 : decode cX4_dryIn 10 = .ok (.aload_n 0, 1) := by decide +kernel
theorem dX4_dryIn_11 : decode cX4_dryIn 11 = .ok (.iload_n 1, 1) := by decide +kernel
theorem dX4_dryIn_12 : decode cX4_dryIn 12 = .ok (.invokevirtual 77, 3) := by decide +kernel
theorem dX4_dryIn_15 : decode cX4_dryIn 15 = .ok (.ifCond .ne 5, 3) := by decide +kernel
theorem dX4_dryIn_18 : decode cX4_dryIn 18 = .ok (.iload_n 2, 1) := by decide +kernel
theorem dX4_dryIn_19 : decode cX4_dryIn 19 = .ok (.ireturn, 1) := by decide +kernel
theorem dX4_dryIn_20 : decode cX4_dryIn 20 = .ok (.iload_n 2, 1) := by decide +kernel
theorem dX4_dryIn_21 : decode cX4_dryIn 21 = .ok (.iconst 1, 1) := by decide +kernel
theorem dX4_dryIn_22 : decode cX4_dryIn 22 = .ok (.aload_n 0, 1) := by decide +kernel
theorem dX4_dryIn_23 : decode cX4_dryIn 23 = .ok (.getfield 10, 3) := by decide +kernel
theorem dX4_dryIn_26 : decode cX4_dryIn 26 = .ok (.getfield 86, 3) := by decide +kernel
theorem dX4_dryIn_29 : decode cX4_dryIn 29 = .ok (.iload_n 1, 1) := by decide +kernel
theorem dX4_dryIn_30 : decode cX4_dryIn 30 = .ok (.iaload, 1) := by decide +kernel
theorem dX4_dryIn_31 : decode cX4_dryIn 31 = .ok (.invokestatic 174, 3) := by decide +kernel
theorem dX4_dryIn_34 : decode cX4_dryIn 34 = .ok (.iadd, 1) := by decide +kernel
theorem dX4_dryIn_35 : decode cX4_dryIn 35 = .ok (.ireturn, 1) := by decide +kernel
theorem dX4_bestPitch_0 : decode cX4_bestPitch 0 = .ok (.aload_n 0, 1) := by decide +kernel
theorem dX4_bestPitch_1 : decode cX4_bestPitch 1 = .ok (.getfield 10, 3) := by decide +kernel
theorem dX4_bestPitch_4 : decode cX4_bestPitch 4 = .ok (.invokevirtual 157, 3) := by decide +kernel
theorem dX4_bestPitch_7 : decode cX4_bestPitch 7 = .ok (.istore_n 1, 1) := by decide +kernel
theorem dX4_bestPitch_8 : decode cX4_bestPitch 8 = .ok (.iconst (-1), 1) := by decide +kernel
theorem dX4_bestPitch_9 : decode cX4_bestPitch 9 = .ok (.istore_n 2, 1) := by decide +kernel
theorem dX4_bestPitch_10 : decode cX4_bestPitch 10 = .ok (.iconst 0, 1) := by decide +kernel
theorem dX4_bestPitch_11 : decode cX4_bestPitch 11 = .ok (.istore_n 3, 1) := by decide +kernel
theorem dX4_bestPitch_12 : decode cX4_bestPitch 12 = .ok (.iconst 1, 1) := by decide +kernel
theorem dX4_bestPitch_13 : decode cX4_bestPitch 13 = .ok (.istore 4, 2) := by decide +kernel
theorem dX4_bestPitch_15 : decode cX4_bestPitch 15 = .ok (.iload 4, 2) := by decide +kernel
theorem dX4_bestPitch_17 : decode cX4_bestPitch 17 = .ok (.bipush 12, 2) := by decide +kernel
theorem dX4_bestPitch_19 : decode cX4_bestPitch 19 = .ok (.if_icmp .gt 43, 3) := by decide +kernel
theorem dX4_bestPitch_22 : decode cX4_bestPitch 22 = .ok (.iload 4, 2) := by decide +kernel
theorem dX4_bestPitch_24 : decode cX4_bestPitch 24 = .ok (.iload_n 1, 1) := by decide +kernel
theorem dX4_bestPitch_25 : decode cX4_bestPitch 25 = .ok (.invokestatic 177, 3) := by decide +kernel
theorem dX4_bestPitch_28 : decode cX4_bestPitch 28 = .ok (.istore 5, 2) := by decide +kernel
theorem dX4_bestPitch_30 : decode cX4_bestPitch 30 = .ok (.iload_n 1, 1) := by decide +kernel
theorem dX4_bestPitch_31 : decode cX4_bestPitch 31 = .ok (.iload 4, 2) := by decide +kernel
theorem dX4_bestPitch_33 : decode cX4_bestPitch 33 = .ok (.invokestatic 150, 3) := by decide +kernel
theorem dX4_bestPitch_36 : decode cX4_bestPitch 36 = .ok (.ifCond .ne 20, 3) := by decide +kernel
theorem dX4_bestPitch_39 : decode cX4_bestPitch 39 = .ok (.iload_n 2, 1) := by decide +kernel
theorem dX4_bestPitch_40 : decode cX4_bestPitch 40 = .ok (.iconst (-1), 1) := by decide +kernel
theorem dX4_bestPitch_41 : decode cX4_bestPitch 41 = .ok (.if_icmp .eq 9, 3) := by decide +kernel
theorem dX4_bestPitch_44 : decode cX4_bestPitch 44 = .ok (.iload 5, 2) := by decide +kernel
theorem dX4_bestPitch_46 : decode cX4_bestPitch 46 = .ok (.iload_n 3, 1) := by decide +kernel
theorem dX4_bestPitch_47 : decode cX4_bestPitch 47 = .ok (.if_icmp .le 9, 3) := by decide +kernel
theorem dX4_bestPitch_50 : decode cX4_bestPitch 50 = .ok (.iload 4, 2) := by decide +kernel
theorem dX4_bestPitch_52 : decode cX4_bestPitch 52 = .ok (.istore_n 2, 1) := by decide +kernel
theorem dX4_bestPitch_53 : decode cX4_bestPitch 53 = .ok (.iload 5, 2) := by decide +kernel
theorem dX4_bestPitch_55 : decode cX4_bestPitch 55 = .ok (.istore_n 3, 1) := by decide +kernel
theorem dX4_bestPitch_56 : decode cX4_bestPitch 56 = .ok (.iinc 4 1, 3) := by decide +kernel
theorem dX4_bestPitch_59 : decode cX4_bestPitch 59 = .ok (.goto (-44), 3) := by decide +kernel
theorem dX4_bestPitch_62 : decode cX4_bestPitch 62 = .ok (.iload_n 2, 1) := by decide +kernel
theorem dX4_bestPitch_63 : decode cX4_bestPitch 63 = .ok (.ireturn, 1) := by decide +kernel
theorem dX4_memberOf_0 : decode cX4_memberOf 0 = .ok (.iload_n 1, 1) := by decide +kernel
theorem dX4_memberOf_1 : decode cX4_memberOf 1 = .ok (.invokestatic 180, 3) := by decide +kernel
theorem dX4_memberOf_4 : decode cX4_memberOf 4 = .ok (.ifCond .ne 7, 3) := by decide +kernel
theorem dX4_memberOf_7 : decode cX4_memberOf 7 = .ok (.sipush (-1011), 3) := by decide +kernel
theorem dX4_memberOf_10 : decode cX4_memberOf 10 = .ok (.ireturn, 1) := by decide +kernel
theorem dX4_memberOf_11 : decode cX4_memberOf 11 = .ok (.iload_n 2, 1) := by decide +kernel
theorem dX4_memberOf_12 : decode cX4_memberOf 12 = .ok (.tableswitch 97 0 5 #[40, 50, 59, 68, 77, 87], 40) := by decide +kernel
theorem dX4_memberOf_52 : decode cX4_memberOf 52 = .ok (.aload_n 0, 1) := by decide +kernel
theorem dX4_memberOf_53 : decode cX4_memberOf 53 = .ok (.getfield 10, 3) := by decide +kernel
theorem dX4_memberOf_56 : decode cX4_memberOf 56 = .ok (.getfield 183, 3) := by decide +kernel
theorem dX4_memberOf_59 : decode cX4_memberOf 59 = .ok (.iload_n 1, 1) := by decide +kernel
theorem dX4_memberOf_60 : decode cX4_memberOf 60 = .ok (.iaload, 1) := by decide +kernel
theorem dX4_memberOf_61 : decode cX4_memberOf 61 = .ok (.ireturn, 1) := by decide +kernel
theorem dX4_memberOf_62 : decode cX4_memberOf 62 = .ok (.aload_n 0, 1) := by decide +kernel
theorem dX4_memberOf_63 : decode cX4_memberOf 63 = .ok (.getfield 10, 3) := by decide +kernel
theorem dX4_memberOf_66 : decode cX4_memberOf 66 = .ok (.iload_n 1, 1) := by decide +kernel
theorem dX4_memberOf_67 : decode cX4_memberOf 67 = .ok (.invokevirtual 186, 3) := by decide +kernel
theorem dX4_memberOf_70 : decode cX4_memberOf 70 = .ok (.ireturn, 1) := by decide +kernel
theorem dX4_memberOf_71 : decode cX4_memberOf 71 = .ok (.aload_n 0, 1) := by decide +kernel
theorem dX4_memberOf_72 : decode cX4_memberOf 72 = .ok (.getfield 10, 3) := by decide +kernel
theorem dX4_memberOf_75 : decode cX4_memberOf 75 = .ok (.iload_n 1, 1) := by decide +kernel
theorem dX4_memberOf_76 : decode cX4_memberOf 76 = .ok (.invokevirtual 189, 3) := by decide +kernel
theorem dX4_memberOf_79 : decode cX4_memberOf 79 = .ok (.ireturn, 1) := by decide +kernel
theorem dX4_memberOf_80 : decode cX4_memberOf 80 = .ok (.aload_n 0, 1) := by decide +kernel
theorem dX4_memberOf_81 : decode cX4_memberOf 81 = .ok (.getfield 10, 3) := by decide +kernel
theorem dX4_memberOf_84 : decode cX4_memberOf 84 = .ok (.iload_n 1, 1) := by decide +kernel
theorem dX4_memberOf_85 : decode cX4_memberOf 85 = .ok (.invokevirtual 192, 3) := by decide +kernel
theorem dX4_memberOf_88 : decode cX4_memberOf 88 = .ok (.ireturn, 1) := by decide +kernel
theorem dX4_memberOf_89 : decode cX4_memberOf 89 = .ok (.aload_n 0, 1) := by decide +kernel
theorem dX4_memberOf_90 : decode cX4_memberOf 90 = .ok (.getfield 10, 3) := by decide +kernel
theorem dX4_memberOf_93 : decode cX4_memberOf 93 = .ok (.getfield 195, 3) := by decide +kernel
theorem dX4_memberOf_96 : decode cX4_memberOf 96 = .ok (.iload_n 1, 1) := by decide +kernel
theorem dX4_memberOf_97 : decode cX4_memberOf 97 = .ok (.iaload, 1) := by decide +kernel
theorem dX4_memberOf_98 : decode cX4_memberOf 98 = .ok (.ireturn, 1) := by decide +kernel
theorem dX4_memberOf_99 : decode cX4_memberOf 99 = .ok (.aload_n 0, 1) := by decide +kernel
theorem dX4_memberOf_100 : decode cX4_memberOf 100 = .ok (.getfield 10, 3) := by decide +kernel
theorem dX4_memberOf_103 : decode cX4_memberOf 103 = .ok (.getfield 198, 3) := by decide +kernel
theorem dX4_memberOf_106 : decode cX4_memberOf 106 = .ok (.iload_n 1, 1) := by decide +kernel
theorem dX4_memberOf_107 : decode cX4_memberOf 107 = .ok (.iaload, 1) := by decide +kernel
theorem dX4_memberOf_108 : decode cX4_memberOf 108 = .ok (.ireturn, 1) := by decide +kernel
theorem dX4_memberOf_109 : decode cX4_memberOf 109 = .ok (.sipush (-1012), 3) := by decide +kernel
theorem dX4_memberOf_112 : decode cX4_memberOf 112 = .ok (.ireturn, 1) := by decide +kernel
theorem dX4_ranked_0 : decode cX4_ranked 0 = .ok (.iconst 0, 1) := by decide +kernel
theorem dX4_ranked_1 : decode cX4_ranked 1 = .ok (.istore_n 2, 1) := by decide +kernel
theorem dX4_ranked_2 : decode cX4_ranked 2 = .ok (.iload_n 2, 1) := by decide +kernel
theorem dX4_ranked_3 : decode cX4_ranked 3 = .ok (.iconst 4, 1) := by decide +kernel
theorem dX4_ranked_4 : decode cX4_ranked 4 = .ok (.if_icmp .ge 20, 3) := by decide +kernel
theorem dX4_ranked_7 : decode cX4_ranked 7 = .ok (.aload_n 0, 1) := by decide +kernel
theorem dX4_ranked_8 : decode cX4_ranked 8 = .ok (.iload_n 2, 1) := by decide +kernel
theorem dX4_ranked_9 : decode cX4_ranked 9 = .ok (.invokevirtual 201, 3) := by decide +kernel
theorem dX4_ranked_12 : decode cX4_ranked 12 = .ok (.iload_n 1, 1) := by decide +kernel
theorem dX4_ranked_13 : decode cX4_ranked 13 = .ok (.if_icmp .ne 5, 3) := by decide +kernel
theorem dX4_ranked_16 : decode cX4_ranked 16 = .ok (.iload_n 2, 1) := by decide +kernel
theorem dX4_ranked_17 : decode cX4_ranked 17 = .ok (.ireturn, 1) := by decide +kernel
theorem dX4_ranked_18 : decode cX4_ranked 18 = .ok (.iinc 2 1, 3) := by decide +kernel
theorem dX4_ranked_21 : decode cX4_ranked 21 = .ok (.goto (-19), 3) := by decide +kernel
theorem dX4_ranked_24 : decode cX4_ranked 24 = .ok (.sipush (-1011), 3) := by decide +kernel
theorem dX4_ranked_27 : decode cX4_ranked 27 = .ok (.ireturn, 1) := by decide +kernel
theorem dX4_hottest_0 : decode cX4_hottest 0 = .ok (.iconst 0, 1) := by decide +kernel
theorem dX4_hottest_1 : decode cX4_hottest 1 = .ok (.istore_n 2, 1) := by decide +kernel
theorem dX4_hottest_2 : decode cX4_hottest 2 = .ok (.iload_n 2, 1) := by decide +kernel
theorem dX4_hottest_3 : decode cX4_hottest 3 = .ok (.aload_n 0, 1) := by decide +kernel
theorem dX4_hottest_4 : decode cX4_hottest 4 = .ok (.getfield 10, 3) := by decide +kernel
theorem dX4_hottest_7 : decode cX4_hottest 7 = .ok (.getfield 146, 3) := by decide +kernel
theorem dX4_hottest_10 : decode cX4_hottest 10 = .ok (.if_icmp .ge 20, 3) := by decide +kernel
theorem dX4_hottest_13 : decode cX4_hottest 13 = .ok (.aload_n 0, 1) := by decide +kernel
theorem dX4_hottest_14 : decode cX4_hottest 14 = .ok (.iload_n 2, 1) := by decide +kernel
theorem dX4_hottest_15 : decode cX4_hottest 15 = .ok (.invokevirtual 204, 3) := by decide +kernel
theorem dX4_hottest_18 : decode cX4_hottest 18 = .ok (.iload_n 1, 1) := by decide +kernel
theorem dX4_hottest_19 : decode cX4_hottest 19 = .ok (.if_icmp .ne 5, 3) := by decide +kernel
theorem dX4_hottest_22 : decode cX4_hottest 22 = .ok (.iload_n 2, 1) := by decide +kernel
theorem dX4_hottest_23 : decode cX4_hottest 23 = .ok (.ireturn, 1) := by decide +kernel
theorem dX4_hottest_24 : decode cX4_hottest 24 = .ok (.iinc 2 1, 3) := by decide +kernel
theorem dX4_hottest_27 : decode cX4_hottest 27 = .ok (.goto (-25), 3) := by decide +kernel
theorem dX4_hottest_30 : decode cX4_hottest 30 = .ok (.sipush (-1011), 3) := by decide +kernel
theorem dX4_hottest_33 : decode cX4_hottest 33 = .ok (.ireturn, 1) := by decide +kernel
theorem dX4_tell_0 : decode cX4_tell 0 = .ok (.aload_n 0, 1) := by decide +kernel
theorem dX4_tell_1 : decode cX4_tell 1 = .ok (.iload_n 1, 1) := by decide +kernel
theorem dX4_tell_2 : decode cX4_tell 2 = .ok (.invokevirtual 77, 3) := by decide +kernel
theorem dX4_tell_5 : decode cX4_tell 5 = .ok (.ifCond .ne 7, 3) := by decide +kernel
theorem dX4_tell_8 : decode cX4_tell 8 = .ok (.sipush (-1011), 3) := by decide +kernel
theorem dX4_tell_11 : decode cX4_tell 11 = .ok (.ireturn, 1) := by decide +kernel
theorem dX4_tell_12 : decode cX4_tell 12 = .ok (.aload_n 0, 1) := by decide +kernel
theorem dX4_tell_13 : decode cX4_tell 13 = .ok (.getfield 43, 3) := by decide +kernel
theorem dX4_tell_16 : decode cX4_tell 16 = .ok (.iconst 0, 1) := by decide +kernel
theorem dX4_tell_17 : decode cX4_tell 17 = .ok (.invokevirtual 232, 3) := by decide +kernel
theorem dX4_tell_20 : decode cX4_tell 20 = .ok (.aload_n 0, 1) := by decide +kernel
theorem dX4_tell_21 : decode cX4_tell 21 = .ok (.getfield 43, 3) := by decide +kernel
theorem dX4_tell_24 : decode cX4_tell 24 = .ok (.iload_n 1, 1) := by decide +kernel
theorem dX4_tell_25 : decode cX4_tell 25 = .ok (.invokevirtual 236, 3) := by decide +kernel
theorem dX4_tell_28 : decode cX4_tell 28 = .ok (.bipush 58, 2) := by decide +kernel
theorem dX4_tell_30 : decode cX4_tell 30 = .ok (.invokevirtual 240, 3) := by decide +kernel
theorem dX4_tell_33 : decode cX4_tell 33 = .ok (.aload_n 0, 1) := by decide +kernel
theorem dX4_tell_34 : decode cX4_tell 34 = .ok (.getfield 10, 3) := by decide +kernel
theorem dX4_tell_37 : decode cX4_tell 37 = .ok (.getfield 80, 3) := by decide +kernel
theorem dX4_tell_40 : decode cX4_tell 40 = .ok (.iload_n 1, 1) := by decide +kernel
theorem dX4_tell_41 : decode cX4_tell 41 = .ok (.iaload, 1) := by decide +kernel
theorem dX4_tell_42 : decode cX4_tell 42 = .ok (.invokevirtual 236, 3) := by decide +kernel
theorem dX4_tell_45 : decode cX4_tell 45 = .ok (.pop, 1) := by decide +kernel
theorem dX4_tell_46 : decode cX4_tell 46 = .ok (.aload_n 0, 1) := by decide +kernel
theorem dX4_tell_47 : decode cX4_tell 47 = .ok (.getfield 43, 3) := by decide +kernel
theorem dX4_tell_50 : decode cX4_tell 50 = .ok (.bipush 112, 2) := by decide +kernel
theorem dX4_tell_52 : decode cX4_tell 52 = .ok (.invokevirtual 240, 3) := by decide +kernel
theorem dX4_tell_55 : decode cX4_tell 55 = .ok (.aload_n 0, 1) := by decide +kernel
theorem dX4_tell_56 : decode cX4_tell 56 = .ok (.getfield 10, 3) := by decide +kernel
theorem dX4_tell_59 : decode cX4_tell 59 = .ok (.getfield 83, 3) := by decide +kernel
theorem dX4_tell_62 : decode cX4_tell 62 = .ok (.iload_n 1, 1) := by decide +kernel
theorem dX4_tell_63 : decode cX4_tell 63 = .ok (.iaload, 1) := by decide +kernel
theorem dX4_tell_64 : decode cX4_tell 64 = .ok (.invokevirtual 236, 3) := by decide +kernel
theorem dX4_tell_67 : decode cX4_tell 67 = .ok (.pop, 1) := by decide +kernel
theorem dX4_tell_68 : decode cX4_tell 68 = .ok (.aload_n 0, 1) := by decide +kernel
theorem dX4_tell_69 : decode cX4_tell 69 = .ok (.getfield 43, 3) := by decide +kernel
theorem dX4_tell_72 : decode cX4_tell 72 = .ok (.bipush 119, 2) := by decide +kernel
theorem dX4_tell_74 : decode cX4_tell 74 = .ok (.invokevirtual 240, 3) := by decide +kernel
theorem dX4_tell_77 : decode cX4_tell 77 = .ok (.aload_n 0, 1) := by decide +kernel
theorem dX4_tell_78 : decode cX4_tell 78 = .ok (.getfield 10, 3) := by decide +kernel
theorem dX4_tell_81 : decode cX4_tell 81 = .ok (.getfield 86, 3) := by decide +kernel
theorem dX4_tell_84 : decode cX4_tell 84 = .ok (.iload_n 1, 1) := by decide +kernel
theorem dX4_tell_85 : decode cX4_tell 85 = .ok (.iaload, 1) := by decide +kernel
theorem dX4_tell_86 : decode cX4_tell 86 = .ok (.invokevirtual 236, 3) := by decide +kernel
theorem dX4_tell_89 : decode cX4_tell 89 = .ok (.pop, 1) := by decide +kernel
theorem dX4_tell_90 : decode cX4_tell 90 = .ok (.aload_n 0, 1) := by decide +kernel
theorem dX4_tell_91 : decode cX4_tell 91 = .ok (.getfield 43, 3) := by decide +kernel
theorem dX4_tell_94 : decode cX4_tell 94 = .ok (.bipush 116, 2) := by decide +kernel
theorem dX4_tell_96 : decode cX4_tell 96 = .ok (.invokevirtual 240, 3) := by decide +kernel
theorem dX4_tell_99 : decode cX4_tell 99 = .ok (.aload_n 0, 1) := by decide +kernel
theorem dX4_tell_100 : decode cX4_tell 100 = .ok (.getfield 10, 3) := by decide +kernel
theorem dX4_tell_103 : decode cX4_tell 103 = .ok (.getfield 89, 3) := by decide +kernel
theorem dX4_tell_106 : decode cX4_tell 106 = .ok (.iload_n 1, 1) := by decide +kernel
theorem dX4_tell_107 : decode cX4_tell 107 = .ok (.iaload, 1) := by decide +kernel
theorem dX4_tell_108 : decode cX4_tell 108 = .ok (.invokevirtual 236, 3) := by decide +kernel
theorem dX4_tell_111 : decode cX4_tell 111 = .ok (.pop, 1) := by decide +kernel
theorem dX4_tell_112 : decode cX4_tell 112 = .ok (.aload_n 0, 1) := by decide +kernel
theorem dX4_tell_113 : decode cX4_tell 113 = .ok (.iload_n 1, 1) := by decide +kernel
theorem dX4_tell_114 : decode cX4_tell 114 = .ok (.invokevirtual 243, 3) := by decide +kernel
theorem dX4_tell_117 : decode cX4_tell 117 = .ok (.aload_n 0, 1) := by decide +kernel
theorem dX4_tell_118 : decode cX4_tell 118 = .ok (.getfield 43, 3) := by decide +kernel
theorem dX4_tell_121 : decode cX4_tell 121 = .ok (.invokevirtual 246, 3) := by decide +kernel
theorem dX4_tell_124 : decode cX4_tell 124 = .ok (.ireturn, 1) := by decide +kernel
theorem dX4_tellStoves_0 : decode cX4_tellStoves 0 = .ok (.aload_n 0, 1) := by decide +kernel
theorem dX4_tellStoves_1 : decode cX4_tellStoves 1 = .ok (.getfield 43, 3) := by decide +kernel
theorem dX4_tellStoves_4 : decode cX4_tellStoves 4 = .ok (.iconst 0, 1) := by decide +kernel
theorem dX4_tellStoves_5 : decode cX4_tellStoves 5 = .ok (.invokevirtual 232, 3) := by decide +kernel
theorem dX4_tellStoves_8 : decode cX4_tellStoves 8 = .ok (.iconst 0, 1) := by decide +kernel
theorem dX4_tellStoves_9 : decode cX4_tellStoves 9 = .ok (.istore_n 1, 1) := by decide +kernel
theorem dX4_tellStoves_10 : decode cX4_tellStoves 10 = .ok (.iload_n 1, 1) := by decide +kernel
theorem dX4_tellStoves_11 : decode cX4_tellStoves 11 = .ok (.bipush 6, 2) := by decide +kernel
theorem dX4_tellStoves_13 : decode cX4_tellStoves 13 = .ok (.if_icmp .ge 59, 3) := by decide +kernel
theorem dX4_tellStoves_16 : decode cX4_tellStoves 16 = .ok (.aload_n 0, 1) := by decide +kernel
theorem dX4_tellStoves_17 : decode cX4_tellStoves 17 = .ok (.getfield 43, 3) := by decide +kernel
theorem dX4_tellStoves_20 : decode cX4_tellStoves 20 = .ok (.aload_n 0, 1) := by decide +kernel
theorem dX4_tellStoves_21 : decode cX4_tellStoves 21 = .ok (.getfield 10, 3) := by decide +kernel
theorem dX4_tellStoves_24 : decode cX4_tellStoves 24 = .ok (.getfield 133, 3) := by decide +kernel
theorem dX4_tellStoves_27 : decode cX4_tellStoves 27 = .ok (.iload_n 1, 1) := by decide +kernel
theorem dX4_tellStoves_28 : decode cX4_tellStoves 28 = .ok (.iaload, 1) := by decide +kernel
theorem dX4_tellStoves_29 : decode cX4_tellStoves 29 = .ok (.invokevirtual 236, 3) := by decide +kernel
theorem dX4_tellStoves_32 : decode cX4_tellStoves 32 = .ok (.pop, 1) := by decide +kernel
theorem dX4_tellStoves_33 : decode cX4_tellStoves 33 = .ok (.aload_n 0, 1) := by decide +kernel
theorem dX4_tellStoves_34 : decode cX4_tellStoves 34 = .ok (.getfield 10, 3) := by decide +kernel
theorem dX4_tellStoves_37 : decode cX4_tellStoves 37 = .ok (.iload_n 1, 1) := by decide +kernel
theorem dX4_tellStoves_38 : decode cX4_tellStoves 38 = .ok (.invokevirtual 136, 3) := by decide +kernel
theorem dX4_tellStoves_41 : decode cX4_tellStoves 41 = .ok (.istore_n 2, 1) := by decide +kernel
theorem dX4_tellStoves_42 : decode cX4_tellStoves 42 = .ok (.iload_n 2, 1) := by decide +kernel
theorem dX4_tellStoves_43 : decode cX4_tellStoves 43 = .ok (.iconst (-1), 1) := by decide +kernel
theorem dX4_tellStoves_44 : decode cX4_tellStoves 44 = .ok (.if_icmp .eq 22, 3) := by decide +kernel
theorem dX4_tellStoves_47 : decode cX4_tellStoves 47 = .ok (.aload_n 0, 1) := by decide +kernel
theorem dX4_tellStoves_48 : decode cX4_tellStoves 48 = .ok (.getfield 43, 3) := by decide +kernel
theorem dX4_tellStoves_51 : decode cX4_tellStoves 51 = .ok (.bipush 40, 2) := by decide +kernel
theorem dX4_tellStoves_53 : decode cX4_tellStoves 53 = .ok (.invokevirtual 240, 3) := by decide +kernel
theorem dX4_tellStoves_56 : decode cX4_tellStoves 56 = .ok (.iload_n 2, 1) := by decide +kernel
theorem dX4_tellStoves_57 : decode cX4_tellStoves 57 = .ok (.invokevirtual 236, 3) := by decide +kernel
theorem dX4_tellStoves_60 : decode cX4_tellStoves 60 = .ok (.bipush 41, 2) := by decide +kernel
theorem dX4_tellStoves_62 : decode cX4_tellStoves 62 = .ok (.invokevirtual 240, 3) := by decide +kernel
theorem dX4_tellStoves_65 : decode cX4_tellStoves 65 = .ok (.pop, 1) := by decide +kernel
theorem dX4_tellStoves_66 : decode cX4_tellStoves 66 = .ok (.iinc 1 1, 3) := by decide +kernel
theorem dX4_tellStoves_69 : decode cX4_tellStoves 69 = .ok (.goto (-59), 3) := by decide +kernel
theorem dX4_tellStoves_72 : decode cX4_tellStoves 72 = .ok (.aload_n 0, 1) := by decide +kernel
theorem dX4_tellStoves_73 : decode cX4_tellStoves 73 = .ok (.getfield 43, 3) := by decide +kernel
theorem dX4_tellStoves_76 : decode cX4_tellStoves 76 = .ok (.invokevirtual 246, 3) := by decide +kernel
theorem dX4_tellStoves_79 : decode cX4_tellStoves 79 = .ok (.ireturn, 1) := by decide +kernel
theorem dX4_character_0 : decode cX4_character 0 = .ok (.iload_n 1, 1) := by decide +kernel
theorem dX4_character_1 : decode cX4_character 1 = .ok (.ifCond .lt 25, 3) := by decide +kernel
theorem dX4_character_4 : decode cX4_character 4 = .ok (.iload_n 1, 1) := by decide +kernel
theorem dX4_character_5 : decode cX4_character 5 = .ok (.aload_n 0, 1) := by decide +kernel
theorem dX4_character_6 : decode cX4_character 6 = .ok (.getfield 43, 3) := by decide +kernel
theorem dX4_character_9 : decode cX4_character 9 = .ok (.invokevirtual 246, 3) := by decide +kernel
theorem dX4_character_12 : decode cX4_character 12 = .ok (.if_icmp .ge 14, 3) := by decide +kernel
theorem dX4_character_15 : decode cX4_character 15 = .ok (.aload_n 0, 1) := by decide +kernel
theorem dX4_character_16 : decode cX4_character 16 = .ok (.getfield 43, 3) := by decide +kernel
theorem dX4_character_19 : decode cX4_character 19 = .ok (.iload_n 1, 1) := by decide +kernel
theorem dX4_character_20 : decode cX4_character 20 = .ok (.invokevirtual 248, 3) := by decide +kernel
theorem dX4_character_23 : decode cX4_character 23 = .ok (.goto 6, 3) := by decide +kernel
theorem dX4_character_26 : decode cX4_character 26 = .ok (.sipush (-1011), 3) := by decide +kernel
theorem dX4_character_29 : decode cX4_character 29 = .ok (.ireturn, 1) := by decide +kernel
theorem dX4_account_0 : decode cX4_account 0 = .ok (.iload_n 1, 1) := by decide +kernel
theorem dX4_account_1 : decode cX4_account 1 = .ok (.tableswitch 177 0 12 #[67, 75, 83, 91, 99, 107, 115, 123, 131, 139, 150, 161, 169], 67) := by decide +kernel
theorem dX4_account_68 : decode cX4_account 68 = .ok (.aload_n 0, 1) := by decide +kernel
theorem dX4_account_69 : decode cX4_account 69 = .ok (.getfield 10, 3) := by decide +kernel
theorem dX4_account_72 : decode cX4_account 72 = .ok (.getfield 146, 3) := by decide +kernel
theorem dX4_account_75 : decode cX4_account 75 = .ok (.ireturn, 1) := by decide +kernel
theorem dX4_account_76 : decode cX4_account 76 = .ok (.aload_n 0, 1) := by decide +kernel
theorem dX4_account_77 : decode cX4_account 77 = .ok (.getfield 10, 3) := by decide +kernel
theorem dX4_account_80 : decode cX4_account 80 = .ok (.invokevirtual 259, 3) := by decide +kernel
theorem dX4_account_83 : decode cX4_account 83 = .ok (.ireturn, 1) := by decide +kernel
theorem dX4_account_84 : decode cX4_account 84 = .ok (.aload_n 0, 1) := by decide +kernel
theorem dX4_account_85 : decode cX4_account 85 = .ok (.getfield 10, 3) := by decide +kernel
theorem dX4_account_88 : decode cX4_account 88 = .ok (.invokevirtual 262, 3) := by decide +kernel
theorem dX4_account_91 : decode cX4_account 91 = .ok (.ireturn, 1) := by decide +kernel
theorem dX4_account_92 : decode cX4_account 92 = .ok (.aload_n 0, 1) := by decide +kernel
theorem dX4_account_93 : decode cX4_account 93 = .ok (.getfield 10, 3) := by decide +kernel
theorem dX4_account_96 : decode cX4_account 96 = .ok (.invokevirtual 265, 3) := by decide +kernel
theorem dX4_account_99 : decode cX4_account 99 = .ok (.ireturn, 1) := by decide +kernel
theorem dX4_account_100 : decode cX4_account 100 = .ok (.aload_n 0, 1) := by decide +kernel
theorem dX4_account_101 : decode cX4_account 101 = .ok (.getfield 10, 3) := by decide +kernel
theorem dX4_account_104 : decode cX4_account 104 = .ok (.invokevirtual 268, 3) := by decide +kernel
theorem dX4_account_107 : decode cX4_account 107 = .ok (.ireturn, 1) := by decide +kernel
theorem dX4_account_108 : decode cX4_account 108 = .ok (.aload_n 0, 1) := by decide +kernel
theorem dX4_account_109 : decode cX4_account 109 = .ok (.getfield 10, 3) := by decide +kernel
theorem dX4_account_112 : decode cX4_account 112 = .ok (.getfield 271, 3) := by decide +kernel
theorem dX4_account_115 : decode cX4_account 115 = .ok (.ireturn, 1) := by decide +kernel
theorem dX4_account_116 : decode cX4_account 116 = .ok (.aload_n 0, 1) := by decide +kernel
theorem dX4_account_117 : decode cX4_account 117 = .ok (.getfield 10, 3) := by decide +kernel
theorem dX4_account_120 : decode cX4_account 120 = .ok (.invokevirtual 274, 3) := by decide +kernel
theorem dX4_account_123 : decode cX4_account 123 = .ok (.ireturn, 1) := by decide +kernel
theorem dX4_account_124 : decode cX4_account 124 = .ok (.aload_n 0, 1) := by decide +kernel
theorem dX4_account_125 : decode cX4_account 125 = .ok (.getfield 10, 3) := by decide +kernel
theorem dX4_account_128 : decode cX4_account 128 = .ok (.getfield 277, 3) := by decide +kernel
theorem dX4_account_131 : decode cX4_account 131 = .ok (.ireturn, 1) := by decide +kernel
theorem dX4_account_132 : decode cX4_account 132 = .ok (.aload_n 0, 1) := by decide +kernel
theorem dX4_account_133 : decode cX4_account 133 = .ok (.getfield 10, 3) := by decide +kernel
theorem dX4_account_136 : decode cX4_account 136 = .ok (.getfield 280, 3) := by decide +kernel
theorem dX4_account_139 : decode cX4_account 139 = .ok (.ireturn, 1) := by decide +kernel
theorem dX4_account_140 : decode cX4_account 140 = .ok (.aload_n 0, 1) := by decide +kernel
theorem dX4_account_141 : decode cX4_account 141 = .ok (.getfield 10, 3) := by decide +kernel
theorem dX4_account_144 : decode cX4_account 144 = .ok (.getfield 195, 3) := by decide +kernel
theorem dX4_account_147 : decode cX4_account 147 = .ok (.invokestatic 283, 3) := by decide +kernel
theorem dX4_account_150 : decode cX4_account 150 = .ok (.ireturn, 1) := by decide +kernel
theorem dX4_account_151 : decode cX4_account 151 = .ok (.aload_n 0, 1) := by decide +kernel
theorem dX4_account_152 : decode cX4_account 152 = .ok (.getfield 10, 3) := by decide +kernel
theorem dX4_account_155 : decode cX4_account 155 = .ok (.getfield 183, 3) := by decide +kernel
theorem dX4_account_158 : decode cX4_account 158 = .ok (.invokestatic 283, 3) := by decide +kernel
theorem dX4_account_161 : decode cX4_account 161 = .ok (.ireturn, 1) := by decide +kernel
theorem dX4_account_162 : decode cX4_account 162 = .ok (.aload_n 0, 1) := by decide +kernel
theorem dX4_account_163 : decode cX4_account 163 = .ok (.getfield 36, 3) := by decide +kernel
theorem dX4_account_166 : decode cX4_account 166 = .ok (.getfield 211, 3) := by decide +kernel
theorem dX4_account_169 : decode cX4_account 169 = .ok (.ireturn, 1) := by decide +kernel
theorem dX4_account_170 : decode cX4_account 170 = .ok (.aload_n 0, 1) := by decide +kernel
theorem dX4_account_171 : decode cX4_account 171 = .ok (.getfield 22, 3) := by decide +kernel
theorem dX4_account_174 : decode cX4_account 174 = .ok (.getfield 287, 3) := by decide +kernel
theorem dX4_account_177 : decode cX4_account 177 = .ok (.ireturn, 1) := by decide +kernel
theorem dX4_account_178 : decode cX4_account 178 = .ok (.sipush (-1012), 3) := by decide +kernel
theorem dX4_account_181 : decode cX4_account 181 = .ok (.ireturn, 1) := by decide +kernel
theorem dX4_isBalanced_0 : decode cX4_isBalanced 0 = .ok (.aload_n 0, 1) := by decide +kernel
theorem dX4_isBalanced_1 : decode cX4_isBalanced 1 = .ok (.getfield 10, 3) := by decide +kernel
theorem dX4_isBalanced_4 : decode cX4_isBalanced 4 = .ok (.getfield 277, 3) := by decide +kernel
theorem dX4_isBalanced_7 : decode cX4_isBalanced 7 = .ok (.aload_n 0, 1) := by decide +kernel
theorem dX4_isBalanced_8 : decode cX4_isBalanced 8 = .ok (.getfield 10, 3) := by decide +kernel
theorem dX4_isBalanced_11 : decode cX4_isBalanced 11 = .ok (.invokevirtual 274, 3) := by decide +kernel
theorem dX4_isBalanced_14 : decode cX4_isBalanced 14 = .ok (.aload_n 0, 1) := by decide +kernel
theorem dX4_isBalanced_15 : decode cX4_isBalanced 15 = .ok (.getfield 10, 3) := by decide +kernel
theorem dX4_isBalanced_18 : decode cX4_isBalanced 18 = .ok (.getfield 280, 3) := by decide +kernel
theorem dX4_isBalanced_21 : decode cX4_isBalanced 21 = .ok (.iadd, 1) := by decide +kernel
theorem dX4_isBalanced_22 : decode cX4_isBalanced 22 = .ok (.if_icmp .ne 7, 3) := by decide +kernel
theorem dX4_isBalanced_25 : decode cX4_isBalanced 25 = .ok (.iconst 1, 1) := by decide +kernel
theorem dX4_isBalanced_26 : decode cX4_isBalanced 26 = .ok (.goto 4, 3) := by decide +kernel
theorem dX4_isBalanced_29 : decode cX4_isBalanced 29 = .ok (.iconst 0, 1) := by decide +kernel
theorem dX4_isBalanced_30 : decode cX4_isBalanced 30 = .ok (.istore_n 1, 1) := by decide +kernel
theorem dX4_isBalanced_31 : decode cX4_isBalanced 31 = .ok (.aload_n 0, 1) := by decide +kernel
theorem dX4_isBalanced_32 : decode cX4_isBalanced 32 = .ok (.invokevirtual 288, 3) := by decide +kernel
theorem dX4_isBalanced_35 : decode cX4_isBalanced 35 = .ok (.aload_n 0, 1) := by decide +kernel
theorem dX4_isBalanced_36 : decode cX4_isBalanced 36 = .ok (.invokevirtual 291, 3) := by decide +kernel
theorem dX4_isBalanced_39 : decode cX4_isBalanced 39 = .ok (.if_icmp .ne 7, 3) := by decide +kernel
theorem dX4_isBalanced_42 : decode cX4_isBalanced 42 = .ok (.iconst 1, 1) := by decide +kernel
theorem dX4_isBalanced_43 : decode cX4_isBalanced 43 = .ok (.goto 4, 3) := by decide +kernel
theorem dX4_isBalanced_46 : decode cX4_isBalanced 46 = .ok (.iconst 0, 1) := by decide +kernel
theorem dX4_isBalanced_47 : decode cX4_isBalanced 47 = .ok (.istore_n 2, 1) := by decide +kernel
theorem dX4_isBalanced_48 : decode cX4_isBalanced 48 = .ok (.iload_n 1, 1) := by decide +kernel
theorem dX4_isBalanced_49 : decode cX4_isBalanced 49 = .ok (.ifCond .eq 28, 3) := by decide +kernel
theorem dX4_isBalanced_52 : decode cX4_isBalanced 52 = .ok (.iload_n 2, 1) := by decide +kernel
theorem dX4_isBalanced_53 : decode cX4_isBalanced 53 = .ok (.ifCond .eq 24, 3) := by decide +kernel
theorem dX4_isBalanced_56 : decode cX4_isBalanced 56 = .ok (.aload_n 0, 1) := by decide +kernel
theorem dX4_isBalanced_57 : decode cX4_isBalanced 57 = .ok (.invokevirtual 294, 3) := by decide +kernel
theorem dX4_isBalanced_60 : decode cX4_isBalanced 60 = .ok (.ifCond .eq 17, 3) := by decide +kernel
theorem dX4_isBalanced_63 : decode cX4_isBalanced 63 = .ok (.aload_n 0, 1) := by decide +kernel
theorem dX4_isBalanced_64 : decode cX4_isBalanced 64 = .ok (.getfield 10, 3) := by decide +kernel
theorem dX4_isBalanced_67 : decode cX4_isBalanced 67 = .ok (.invokevirtual 298, 3) := by decide +kernel
theorem dX4_isBalanced_70 : decode cX4_isBalanced 70 = .ok (.ifCond .ne 7, 3) := by decide +kernel
theorem dX4_isBalanced_73 : decode cX4_isBalanced 73 = .ok (.iconst 1, 1) := by decide +kernel
theorem dX4_isBalanced_74 : decode cX4_isBalanced 74 = .ok (.goto 4, 3) := by decide +kernel
theorem dX4_isBalanced_77 : decode cX4_isBalanced 77 = .ok (.iconst 0, 1) := by decide +kernel
theorem dX4_isBalanced_78 : decode cX4_isBalanced 78 = .ok (.ireturn, 1) := by decide +kernel
theorem dX4_meanWater_0 : decode cX4_meanWater 0 = .ok (.aload_n 0, 1) := by decide +kernel
theorem dX4_meanWater_1 : decode cX4_meanWater 1 = .ok (.getfield 10, 3) := by decide +kernel
theorem dX4_meanWater_4 : decode cX4_meanWater 4 = .ok (.getfield 146, 3) := by decide +kernel
theorem dX4_meanWater_7 : decode cX4_meanWater 7 = .ok (.ifCond .ne 7, 3) := by decide +kernel
theorem dX4_meanWater_10 : decode cX4_meanWater 10 = .ok (.dconst 0, 1) := by decide +kernel
theorem dX4_meanWater_11 : decode cX4_meanWater 11 = .ok (.goto 20, 3) := by decide +kernel
theorem dX4_meanWater_14 : decode cX4_meanWater 14 = .ok (.aload_n 0, 1) := by decide +kernel
theorem dX4_meanWater_15 : decode cX4_meanWater 15 = .ok (.getfield 10, 3) := by decide +kernel
theorem dX4_meanWater_18 : decode cX4_meanWater 18 = .ok (.invokevirtual 274, 3) := by decide +kernel
theorem dX4_meanWater_21 : decode cX4_meanWater 21 = .ok (.i2d, 1) := by decide +kernel
theorem dX4_meanWater_22 : decode cX4_meanWater 22 = .ok (.aload_n 0, 1) := by decide +kernel
theorem dX4_meanWater_23 : decode cX4_meanWater 23 = .ok (.getfield 10, 3) := by decide +kernel
theorem dX4_meanWater_26 : decode cX4_meanWater 26 = .ok (.getfield 146, 3) := by decide +kernel
theorem dX4_meanWater_29 : decode cX4_meanWater 29 = .ok (.i2d, 1) := by decide +kernel
theorem dX4_meanWater_30 : decode cX4_meanWater 30 = .ok (.ddiv, 1) := by decide +kernel
theorem dX4_meanWater_31 : decode cX4_meanWater 31 = .ok (.dreturn, 1) := by decide +kernel
theorem dX4_whistleShare_0 : decode cX4_whistleShare 0 = .ok (.aload_n 0, 1) := by decide +kernel
theorem dX4_whistleShare_1 : decode cX4_whistleShare 1 = .ok (.getfield 10, 3) := by decide +kernel
theorem dX4_whistleShare_4 : decode cX4_whistleShare 4 = .ok (.invokevirtual 259, 3) := by decide +kernel
theorem dX4_whistleShare_7 : decode cX4_whistleShare 7 = .ok (.istore_n 1, 1) := by decide +kernel
theorem dX4_whistleShare_8 : decode cX4_whistleShare 8 = .ok (.iload_n 1, 1) := by decide +kernel
theorem dX4_whistleShare_9 : decode cX4_whistleShare 9 = .ok (.ifCond .ne 7, 3) := by decide +kernel
theorem dX4_whistleShare_12 : decode cX4_whistleShare 12 = .ok (.fconst 0, 1) := by decide +kernel
theorem dX4_whistleShare_13 : decode cX4_whistleShare 13 = .ok (.goto 17, 3) := by decide +kernel
theorem dX4_whistleShare_16 : decode cX4_whistleShare 16 = .ok (.aload_n 0, 1) := by decide +kernel
theorem dX4_whistleShare_17 : decode cX4_whistleShare 17 = .ok (.getfield 10, 3) := by decide +kernel
theorem dX4_whistleShare_20 : decode cX4_whistleShare 20 = .ok (.invokevirtual 142, 3) := by decide +kernel
theorem dX4_whistleShare_23 : decode cX4_whistleShare 23 = .ok (.invokestatic 110, 3) := by decide +kernel
theorem dX4_whistleShare_26 : decode cX4_whistleShare 26 = .ok (.i2f, 1) := by decide +kernel
theorem dX4_whistleShare_27 : decode cX4_whistleShare 27 = .ok (.iload_n 1, 1) := by decide +kernel
theorem dX4_whistleShare_28 : decode cX4_whistleShare 28 = .ok (.i2f, 1) := by decide +kernel
theorem dX4_whistleShare_29 : decode cX4_whistleShare 29 = .ok (.fdiv, 1) := by decide +kernel
theorem dX4_whistleShare_30 : decode cX4_whistleShare 30 = .ok (.freturn, 1) := by decide +kernel
theorem dX4_isMember_0 : decode cX4_isMember 0 = .ok (.iload_n 0, 1) := by decide +kernel
theorem dX4_isMember_1 : decode cX4_isMember 1 = .ok (.ifCond .lt 12, 3) := by decide +kernel
theorem dX4_isMember_4 : decode cX4_isMember 4 = .ok (.iload_n 0, 1) := by decide +kernel
theorem dX4_isMember_5 : decode cX4_isMember 5 = .ok (.iconst 4, 1) := by decide +kernel
theorem dX4_isMember_6 : decode cX4_isMember 6 = .ok (.if_icmp .ge 7, 3) := by decide +kernel
theorem dX4_isMember_9 : decode cX4_isMember 9 = .ok (.iconst 1, 1) := by decide +kernel
theorem dX4_isMember_10 : decode cX4_isMember 10 = .ok (.goto 4, 3) := by decide +kernel
theorem dX4_isMember_13 : decode cX4_isMember 13 = .ok (.iconst 0, 1) := by decide +kernel
theorem dX4_isMember_14 : decode cX4_isMember 14 = .ok (.ireturn, 1) := by decide +kernel
theorem dX4_isPitch_0 : decode cX4_isPitch 0 = .ok (.iload_n 0, 1) := by decide +kernel
theorem dX4_isPitch_1 : decode cX4_isPitch 1 = .ok (.iconst 1, 1) := by decide +kernel
theorem dX4_isPitch_2 : decode cX4_isPitch 2 = .ok (.if_icmp .lt 13, 3) := by decide +kernel
theorem dX4_isPitch_5 : decode cX4_isPitch 5 = .ok (.iload_n 0, 1) := by decide +kernel
theorem dX4_isPitch_6 : decode cX4_isPitch 6 = .ok (.bipush 12, 2) := by decide +kernel
theorem dX4_isPitch_8 : decode cX4_isPitch 8 = .ok (.if_icmp .gt 7, 3) := by decide +kernel
theorem dX4_isPitch_11 : decode cX4_isPitch 11 = .ok (.iconst 1, 1) := by decide +kernel
theorem dX4_isPitch_12 : decode cX4_isPitch 12 = .ok (.goto 4, 3) := by decide +kernel
theorem dX4_isPitch_15 : decode cX4_isPitch 15 = .ok (.iconst 0, 1) := by decide +kernel
theorem dX4_isPitch_16 : decode cX4_isPitch 16 = .ok (.ireturn, 1) := by decide +kernel
theorem dX4_isStove_0 : decode cX4_isStove 0 = .ok (.iload_n 0, 1) := by decide +kernel
theorem dX4_isStove_1 : decode cX4_isStove 1 = .ok (.ifCond .lt 13, 3) := by decide +kernel
theorem dX4_isStove_4 : decode cX4_isStove 4 = .ok (.iload_n 0, 1) := by decide +kernel
theorem dX4_isStove_5 : decode cX4_isStove 5 = .ok (.bipush 6, 2) := by decide +kernel
theorem dX4_isStove_7 : decode cX4_isStove 7 = .ok (.if_icmp .ge 7, 3) := by decide +kernel
theorem dX4_isStove_10 : decode cX4_isStove 10 = .ok (.iconst 1, 1) := by decide +kernel
theorem dX4_isStove_11 : decode cX4_isStove 11 = .ok (.goto 4, 3) := by decide +kernel
theorem dX4_isStove_14 : decode cX4_isStove 14 = .ok (.iconst 0, 1) := by decide +kernel
theorem dX4_isStove_15 : decode cX4_isStove 15 = .ok (.ireturn, 1) := by decide +kernel
theorem dX4_isKettle_0 : decode cX4_isKettle 0 = .ok (.iload_n 1, 1) := by decide +kernel
theorem dX4_isKettle_1 : decode cX4_isKettle 1 = .ok (.ifCond .lt 18, 3) := by decide +kernel
theorem dX4_isKettle_4 : decode cX4_isKettle 4 = .ok (.iload_n 1, 1) := by decide +kernel
theorem dX4_isKettle_5 : decode cX4_isKettle 5 = .ok (.aload_n 0, 1) := by decide +kernel
theorem dX4_isKettle_6 : decode cX4_isKettle 6 = .ok (.getfield 10, 3) := by decide +kernel
theorem dX4_isKettle_9 : decode cX4_isKettle 9 = .ok (.getfield 146, 3) := by decide +kernel
theorem dX4_isKettle_12 : decode cX4_isKettle 12 = .ok (.if_icmp .ge 7, 3) := by decide +kernel
theorem dX4_isKettle_15 : decode cX4_isKettle 15 = .ok (.iconst 1, 1) := by decide +kernel
theorem dX4_isKettle_16 : decode cX4_isKettle 16 = .ok (.goto 4, 3) := by decide +kernel
theorem dX4_isKettle_19 : decode cX4_isKettle 19 = .ok (.iconst 0, 1) := by decide +kernel
theorem dX4_isKettle_20 : decode cX4_isKettle 20 = .ok (.ireturn, 1) := by decide +kernel
theorem dX4_isIn_0 : decode cX4_isIn 0 = .ok (.iload_n 0, 1) := by decide +kernel
theorem dX4_isIn_1 : decode cX4_isIn 1 = .ok (.iload_n 1, 1) := by decide +kernel
theorem dX4_isIn_2 : decode cX4_isIn 2 = .ok (.ishr, 1) := by decide +kernel
theorem dX4_isIn_3 : decode cX4_isIn 3 = .ok (.iconst 1, 1) := by decide +kernel
theorem dX4_isIn_4 : decode cX4_isIn 4 = .ok (.iand, 1) := by decide +kernel
theorem dX4_isIn_5 : decode cX4_isIn 5 = .ok (.iconst 1, 1) := by decide +kernel
theorem dX4_isIn_6 : decode cX4_isIn 6 = .ok (.if_icmp .ne 7, 3) := by decide +kernel
theorem dX4_isIn_9 : decode cX4_isIn 9 = .ok (.iconst 1, 1) := by decide +kernel
theorem dX4_isIn_10 : decode cX4_isIn 10 = .ok (.goto 4, 3) := by decide +kernel
theorem dX4_isIn_13 : decode cX4_isIn 13 = .ok (.iconst 0, 1) := by decide +kernel
theorem dX4_isIn_14 : decode cX4_isIn 14 = .ok (.ireturn, 1) := by decide +kernel
theorem dX4_orNothing_0 : decode cX4_orNothing 0 = .ok (.iload_n 0, 1) := by decide +kernel
theorem dX4_orNothing_1 : decode cX4_orNothing 1 = .ok (.iconst (-1), 1) := by decide +kernel
theorem dX4_orNothing_2 : decode cX4_orNothing 2 = .ok (.if_icmp .ne 9, 3) := by decide +kernel
theorem dX4_orNothing_5 : decode cX4_orNothing 5 = .ok (.sipush (-1015), 3) := by decide +kernel
theorem dX4_orNothing_8 : decode cX4_orNothing 8 = .ok (.goto 4, 3) := by decide +kernel
theorem dX4_orNothing_11 : decode cX4_orNothing 11 = .ok (.iload_n 0, 1) := by decide +kernel
theorem dX4_orNothing_12 : decode cX4_orNothing 12 = .ok (.ireturn, 1) := by decide +kernel
theorem dX4_sumOf_0 : decode cX4_sumOf 0 = .ok (.iconst 0, 1) := by decide +kernel
theorem dX4_sumOf_1 : decode cX4_sumOf 1 = .ok (.istore_n 1, 1) := by decide +kernel
theorem dX4_sumOf_2 : decode cX4_sumOf 2 = .ok (.aload_n 0, 1) := by decide +kernel
theorem dX4_sumOf_3 : decode cX4_sumOf 3 = .ok (.astore_n 2, 1) := by decide +kernel
theorem dX4_sumOf_4 : decode cX4_sumOf 4 = .ok (.aload_n 2, 1) := by decide +kernel
theorem dX4_sumOf_5 : decode cX4_sumOf 5 = .ok (.arraylength, 1) := by decide +kernel
theorem dX4_sumOf_6 : decode cX4_sumOf 6 = .ok (.istore_n 3, 1) := by decide +kernel
theorem dX4_sumOf_7 : decode cX4_sumOf 7 = .ok (.iconst 0, 1) := by decide +kernel
theorem dX4_sumOf_8 : decode cX4_sumOf 8 = .ok (.istore 4, 2) := by decide +kernel
theorem dX4_sumOf_10 : decode cX4_sumOf 10 = .ok (.iload 4, 2) := by decide +kernel
theorem dX4_sumOf_12 : decode cX4_sumOf 12 = .ok (.iload_n 3, 1) := by decide +kernel
theorem dX4_sumOf_13 : decode cX4_sumOf 13 = .ok (.if_icmp .ge 20, 3) := by decide +kernel
theorem dX4_sumOf_16 : decode cX4_sumOf 16 = .ok (.aload_n 2, 1) := by decide +kernel
theorem dX4_sumOf_17 : decode cX4_sumOf 17 = .ok (.iload 4, 2) := by decide +kernel
theorem dX4_sumOf_19 : decode cX4_sumOf 19 = .ok (.iaload, 1) := by decide +kernel
theorem dX4_sumOf_20 : decode cX4_sumOf 20 = .ok (.istore 5, 2) := by decide +kernel
theorem dX4_sumOf_22 : decode cX4_sumOf 22 = .ok (.iload_n 1, 1) := by decide +kernel
theorem dX4_sumOf_23 : decode cX4_sumOf 23 = .ok (.iload 5, 2) := by decide +kernel
theorem dX4_sumOf_25 : decode cX4_sumOf 25 = .ok (.iadd, 1) := by decide +kernel
theorem dX4_sumOf_26 : decode cX4_sumOf 26 = .ok (.istore_n 1, 1) := by decide +kernel
theorem dX4_sumOf_27 : decode cX4_sumOf 27 = .ok (.iinc 4 1, 3) := by decide +kernel
theorem dX4_sumOf_30 : decode cX4_sumOf 30 = .ok (.goto (-20), 3) := by decide +kernel
theorem dX4_sumOf_33 : decode cX4_sumOf 33 = .ok (.iload_n 1, 1) := by decide +kernel
theorem dX4_sumOf_34 : decode cX4_sumOf 34 = .ok (.ireturn, 1) := by decide +kernel
theorem dX4_soundOf_0 : decode cX4_soundOf 0 = .ok (.iload_n 0, 1) := by decide +kernel
theorem dX4_soundOf_1 : decode cX4_soundOf 1 = .ok (.iload_n 1, 1) := by decide +kernel
theorem dX4_soundOf_2 : decode cX4_soundOf 2 = .ok (.isub, 1) := by decide +kernel
theorem dX4_soundOf_3 : decode cX4_soundOf 3 = .ok (.invokestatic 311, 3) := by decide +kernel
theorem dX4_soundOf_6 : decode cX4_soundOf 6 = .ok (.istore_n 2, 1) := by decide +kernel
theorem dX4_soundOf_7 : decode cX4_soundOf 7 = .ok (.iload_n 2, 1) := by decide +kernel
theorem dX4_soundOf_8 : decode cX4_soundOf 8 = .ok (.ifCond .lt 19, 3) := by decide +kernel
theorem dX4_soundOf_11 : decode cX4_soundOf 11 = .ok (.iload_n 2, 1) := by decide +kernel
theorem dX4_soundOf_12 : decode cX4_soundOf 12 = .ok (.getstatic 160, 3) := by decide +kernel
theorem dX4_soundOf_15 : decode cX4_soundOf 15 = .ok (.arraylength, 1) := by decide +kernel
theorem dX4_soundOf_16 : decode cX4_soundOf 16 = .ok (.if_icmp .ge 11, 3) := by decide +kernel
theorem dX4_soundOf_19 : decode cX4_soundOf 19 = .ok (.getstatic 160, 3) := by decide +kernel
theorem dX4_soundOf_22 : decode cX4_soundOf 22 = .ok (.iload_n 2, 1) := by decide +kernel
theorem dX4_soundOf_23 : decode cX4_soundOf 23 = .ok (.iaload, 1) := by decide +kernel
theorem dX4_soundOf_24 : decode cX4_soundOf 24 = .ok (.goto 4, 3) := by decide +kernel
theorem dX4_soundOf_27 : decode cX4_soundOf 27 = .ok (.iconst 0, 1) := by decide +kernel
theorem dX4_soundOf_28 : decode cX4_soundOf 28 = .ok (.ireturn, 1) := by decide +kernel
theorem dX4_fitOf_0 : decode cX4_fitOf 0 = .ok (.iconst 0, 1) := by decide +kernel
theorem dX4_fitOf_1 : decode cX4_fitOf 1 = .ok (.istore_n 2, 1) := by decide +kernel
theorem dX4_fitOf_2 : decode cX4_fitOf 2 = .ok (.iconst 1, 1) := by decide +kernel
theorem dX4_fitOf_3 : decode cX4_fitOf 3 = .ok (.istore_n 3, 1) := by decide +kernel
theorem dX4_fitOf_4 : decode cX4_fitOf 4 = .ok (.iload_n 3, 1) := by decide +kernel
theorem dX4_fitOf_5 : decode cX4_fitOf 5 = .ok (.bipush 12, 2) := by decide +kernel
theorem dX4_fitOf_7 : decode cX4_fitOf 7 = .ok (.if_icmp .gt 25, 3) := by decide +kernel
theorem dX4_fitOf_10 : decode cX4_fitOf 10 = .ok (.iload_n 1, 1) := by decide +kernel
theorem dX4_fitOf_11 : decode cX4_fitOf 11 = .ok (.iload_n 3, 1) := by decide +kernel
theorem dX4_fitOf_12 : decode cX4_fitOf 12 = .ok (.invokestatic 150, 3) := by decide +kernel
theorem dX4_fitOf_15 : decode cX4_fitOf 15 = .ok (.ifCond .eq 11, 3) := by decide +kernel
theorem dX4_fitOf_18 : decode cX4_fitOf 18 = .ok (.iload_n 2, 1) := by decide +kernel
theorem dX4_fitOf_19 : decode cX4_fitOf 19 = .ok (.iload_n 0, 1) := by decide +kernel
theorem dX4_fitOf_20 : decode cX4_fitOf 20 = .ok (.iload_n 3, 1) := by decide +kernel
theorem dX4_fitOf_21 : decode cX4_fitOf 21 = .ok (.invokestatic 154, 3) := by decide +kernel
theorem dX4_fitOf_24 : decode cX4_fitOf 24 = .ok (.iadd, 1) := by decide +kernel
theorem dX4_fitOf_25 : decode cX4_fitOf 25 = .ok (.istore_n 2, 1) := by decide +kernel
theorem dX4_fitOf_26 : decode cX4_fitOf 26 = .ok (.iinc 3 1, 3) := by decide +kernel
theorem dX4_fitOf_29 : decode cX4_fitOf 29 = .ok (.goto (-25), 3) := by decide +kernel
theorem dX4_fitOf_32 : decode cX4_fitOf 32 = .ok (.iload_n 2, 1) := by decide +kernel
theorem dX4_fitOf_33 : decode cX4_fitOf 33 = .ok (.ireturn, 1) := by decide +kernel
theorem dX4_isBoilingSame_0 : decode cX4_isBoilingSame 0 = .ok (.iconst 0, 1) := by decide +kernel
theorem dX4_isBoilingSame_1 : decode cX4_isBoilingSame 1 = .ok (.istore_n 1, 1) := by decide +kernel
theorem dX4_isBoilingSame_2 : decode cX4_isBoilingSame 2 = .ok (.iload_n 1, 1) := by decide +kernel
theorem dX4_isBoilingSame_3 : decode cX4_isBoilingSame 3 = .ok (.aload_n 0, 1) := by decide +kernel
theorem dX4_isBoilingSame_4 : decode cX4_isBoilingSame 4 = .ok (.getfield 10, 3) := by decide +kernel
theorem dX4_isBoilingSame_7 : decode cX4_isBoilingSame 7 = .ok (.getfield 146, 3) := by decide +kernel
theorem dX4_isBoilingSame_10 : decode cX4_isBoilingSame 10 = .ok (.if_icmp .ge 24, 3) := by decide +kernel
theorem dX4_isBoilingSame_13 : decode cX4_isBoilingSame 13 = .ok (.aload_n 0, 1) := by decide +kernel
theorem dX4_isBoilingSame_14 : decode cX4_isBoilingSame 14 = .ok (.iload_n 1, 1) := by decide +kernel
theorem dX4_isBoilingSame_15 : decode cX4_isBoilingSame 15 = .ok (.invokevirtual 171, 3) := by decide +kernel
theorem dX4_isBoilingSame_18 : decode cX4_isBoilingSame 18 = .ok (.aload_n 0, 1) := by decide +kernel
theorem dX4_isBoilingSame_19 : decode cX4_isBoilingSame 19 = .ok (.iload_n 1, 1) := by decide +kernel
theorem dX4_isBoilingSame_20 : decode cX4_isBoilingSame 20 = .ok (.invokevirtual 314, 3) := by decide +kernel
theorem dX4_isBoilingSame_23 : decode cX4_isBoilingSame 23 = .ok (.if_icmp .eq 5, 3) := by decide +kernel
theorem dX4_isBoilingSame_26 : decode cX4_isBoilingSame 26 = .ok (.iconst 0, 1) := by decide +kernel
theorem dX4_isBoilingSame_27 : decode cX4_isBoilingSame 27 = .ok (.ireturn, 1) := by decide +kernel
theorem dX4_isBoilingSame_28 : decode cX4_isBoilingSame 28 = .ok (.iinc 1 1, 3) := by decide +kernel
theorem dX4_isBoilingSame_31 : decode cX4_isBoilingSame 31 = .ok (.goto (-29), 3) := by decide +kernel
theorem dX4_isBoilingSame_34 : decode cX4_isBoilingSame 34 = .ok (.iconst 1, 1) := by decide +kernel
theorem dX4_isBoilingSame_35 : decode cX4_isBoilingSame 35 = .ok (.ireturn, 1) := by decide +kernel
theorem dX4_countAheadOfMember_0 : decode cX4_countAheadOfMember 0 = .ok (.iconst 0, 1) := by decide +kernel
theorem dX4_countAheadOfMember_1 : decode cX4_countAheadOfMember 1 = .ok (.istore_n 2, 1) := by decide +kernel
theorem dX4_countAheadOfMember_2 : decode cX4_countAheadOfMember 2 = .ok (.iconst 0, 1) := by decide +kernel
theorem dX4_countAheadOfMember_3 : decode cX4_countAheadOfMember 3 = .ok (.istore_n 3, 1) := by decide +kernel
theorem dX4_countAheadOfMember_4 : decode cX4_countAheadOfMember 4 = .ok (.iload_n 3, 1) := by decide +kernel
theorem dX4_countAheadOfMember_5 : decode cX4_countAheadOfMember 5 = .ok (.iconst 4, 1) := by decide +kernel
theorem dX4_countAheadOfMember_6 : decode cX4_countAheadOfMember 6 = .ok (.if_icmp .ge 21, 3) := by decide +kernel
theorem dX4_countAheadOfMember_9 : decode cX4_countAheadOfMember 9 = .ok (.aload_n 0, 1) := by decide +kernel
theorem dX4_countAheadOfMember_10 : decode cX4_countAheadOfMember 10 = .ok (.iload_n 3, 1) := by decide +kernel
theorem dX4_countAheadOfMember_11 : decode cX4_countAheadOfMember 11 = .ok (.iload_n 1, 1) := by decide +kernel
theorem dX4_countAheadOfMember_12 : decode cX4_countAheadOfMember 12 = .ok (.invokevirtual 317, 3) := by decide +kernel
theorem dX4_countAheadOfMember_15 : decode cX4_countAheadOfMember 15 = .ok (.ifCond .eq 6, 3) := by decide +kernel
theorem dX4_countAheadOfMember_18 : decode cX4_countAheadOfMember 18 = .ok (.iinc 2 1, 3) := by decide +kernel
theorem dX4_countAheadOfMember_21 : decode cX4_countAheadOfMember 21 = .ok (.iinc 3 1, 3) := by decide +kernel
theorem dX4_countAheadOfMember_24 : decode cX4_countAheadOfMember 24 = .ok (.goto (-20), 3) := by decide +kernel
theorem dX4_countAheadOfMember_27 : decode cX4_countAheadOfMember 27 = .ok (.iload_n 2, 1) := by decide +kernel
theorem dX4_countAheadOfMember_28 : decode cX4_countAheadOfMember 28 = .ok (.ireturn, 1) := by decide +kernel
theorem dX4_isMemberAhead_0 : decode cX4_isMemberAhead 0 = .ok (.aload_n 0, 1) := by decide +kernel
theorem dX4_isMemberAhead_1 : decode cX4_isMemberAhead 1 = .ok (.getfield 10, 3) := by decide +kernel
theorem dX4_isMemberAhead_4 : decode cX4_isMemberAhead 4 = .ok (.getfield 183, 3) := by decide +kernel
theorem dX4_isMemberAhead_7 : decode cX4_isMemberAhead 7 = .ok (.iload_n 1, 1) := by decide +kernel
theorem dX4_isMemberAhead_8 : decode cX4_isMemberAhead 8 = .ok (.iaload, 1) := by decide +kernel
theorem dX4_isMemberAhead_9 : decode cX4_isMemberAhead 9 = .ok (.aload_n 0, 1) := by decide +kernel
theorem dX4_isMemberAhead_10 : decode cX4_isMemberAhead 10 = .ok (.getfield 10, 3) := by decide +kernel
theorem dX4_isMemberAhead_13 : decode cX4_isMemberAhead 13 = .ok (.getfield 183, 3) := by decide +kernel
theorem dX4_isMemberAhead_16 : decode cX4_isMemberAhead 16 = .ok (.iload_n 2, 1) := by decide +kernel
theorem dX4_isMemberAhead_17 : decode cX4_isMemberAhead 17 = .ok (.iaload, 1) := by decide +kernel
theorem dX4_isMemberAhead_18 : decode cX4_isMemberAhead 18 = .ok (.invokestatic 320, 3) := by decide +kernel
theorem dX4_isMemberAhead_21 : decode cX4_isMemberAhead 21 = .ok (.istore_n 3, 1) := by decide +kernel
theorem dX4_isMemberAhead_22 : decode cX4_isMemberAhead 22 = .ok (.iload_n 3, 1) := by decide +kernel
theorem dX4_isMemberAhead_23 : decode cX4_isMemberAhead 23 = .ok (.ifCond .eq 13, 3) := by decide +kernel
theorem dX4_isMemberAhead_26 : decode cX4_isMemberAhead 26 = .ok (.iload_n 3, 1) := by decide +kernel
theorem dX4_isMemberAhead_27 : decode cX4_isMemberAhead 27 = .ok (.ifCond .le 7, 3) := by decide +kernel
theorem dX4_isMemberAhead_30 : decode cX4_isMemberAhead 30 = .ok (.iconst 1, 1) := by decide +kernel
theorem dX4_isMemberAhead_31 : decode cX4_isMemberAhead 31 = .ok (.goto 4, 3) := by decide +kernel
theorem dX4_isMemberAhead_34 : decode cX4_isMemberAhead 34 = .ok (.iconst 0, 1) := by decide +kernel
theorem dX4_isMemberAhead_35 : decode cX4_isMemberAhead 35 = .ok (.ireturn, 1) := by decide +kernel
theorem dX4_isMemberAhead_36 : decode cX4_isMemberAhead 36 = .ok (.aload_n 0, 1) := by decide +kernel
theorem dX4_isMemberAhead_37 : decode cX4_isMemberAhead 37 = .ok (.getfield 10, 3) := by decide +kernel
theorem dX4_isMemberAhead_40 : decode cX4_isMemberAhead 40 = .ok (.iload_n 1, 1) := by decide +kernel
theorem dX4_isMemberAhead_41 : decode cX4_isMemberAhead 41 = .ok (.invokevirtual 186, 3) := by decide +kernel
theorem dX4_isMemberAhead_44 : decode cX4_isMemberAhead 44 = .ok (.aload_n 0, 1) := by decide +kernel
theorem dX4_isMemberAhead_45 : decode cX4_isMemberAhead 45 = .ok (.getfield 10, 3) := by decide +kernel
theorem dX4_isMemberAhead_48 : decode cX4_isMemberAhead 48 = .ok (.iload_n 2, 1) := by decide +kernel
theorem dX4_isMemberAhead_49 : decode cX4_isMemberAhead 49 = .ok (.invokevirtual 186, 3) := by decide +kernel
theorem dX4_isMemberAhead_52 : decode cX4_isMemberAhead 52 = .ok (.invokestatic 320, 3) := by decide +kernel
theorem dX4_isMemberAhead_55 : decode cX4_isMemberAhead 55 = .ok (.istore 4, 2) := by decide +kernel
theorem dX4_isMemberAhead_57 : decode cX4_isMemberAhead 57 = .ok (.iload 4, 2) := by decide +kernel
theorem dX4_isMemberAhead_59 : decode cX4_isMemberAhead 59 = .ok (.ifCond .eq 16, 3) := by decide +kernel
theorem dX4_isMemberAhead_62 : decode cX4_isMemberAhead 62 = .ok (.iload 4, 2) := by decide +kernel
theorem dX4_isMemberAhead_64 : decode cX4_isMemberAhead 64 = .ok (.ifCond .le 7, 3) := by decide +kernel
theorem dX4_isMemberAhead_67 : decode cX4_isMemberAhead 67 = .ok (.iconst 1, 1) := by decide +kernel
theorem dX4_isMemberAhead_68 : decode cX4_isMemberAhead 68 = .ok (.goto 17, 3) := by decide +kernel
theorem dX4_isMemberAhead_71 : decode cX4_isMemberAhead 71 = .ok (.iconst 0, 1) := by decide +kernel
theorem dX4_isMemberAhead_72 : decode cX4_isMemberAhead 72 = .ok (.goto 13, 3) := by decide +kernel
theorem dX4_isMemberAhead_75 : decode cX4_isMemberAhead 75 = .ok (.iload_n 1, 1) := by decide +kernel
theorem dX4_isMemberAhead_76 : decode cX4_isMemberAhead 76 = .ok (.iload_n 2, 1) := by decide +kernel
theorem dX4_isMemberAhead_77 : decode cX4_isMemberAhead 77 = .ok (.if_icmp .ge 7, 3) := by decide +kernel
theorem dX4_isMemberAhead_80 : decode cX4_isMemberAhead 80 = .ok (.iconst 1, 1) := by decide +kernel
theorem dX4_isMemberAhead_81 : decode cX4_isMemberAhead 81 = .ok (.goto 4, 3) := by decide +kernel
theorem dX4_isMemberAhead_84 : decode cX4_isMemberAhead 84 = .ok (.iconst 0, 1) := by decide +kernel
theorem dX4_isMemberAhead_85 : decode cX4_isMemberAhead 85 = .ok (.ireturn, 1) := by decide +kernel
theorem dX4_countAheadOfKettle_0 : decode cX4_countAheadOfKettle 0 = .ok (.iconst 0, 1) := by decide +kernel
theorem dX4_countAheadOfKettle_1 : decode cX4_countAheadOfKettle 1 = .ok (.istore_n 2, 1) := by decide +kernel
theorem dX4_countAheadOfKettle_2 : decode cX4_countAheadOfKettle 2 = .ok (.iconst 0, 1) := by decide +kernel
theorem dX4_countAheadOfKettle_3 : decode cX4_countAheadOfKettle 3 = .ok (.istore_n 3, 1) := by decide +kernel
theorem dX4_countAheadOfKettle_4 : decode cX4_countAheadOfKettle 4 = .ok (.iload_n 3, 1) := by decide +kernel
theorem dX4_countAheadOfKettle_5 : decode cX4_countAheadOfKettle 5 = .ok (.aload_n 0, 1) := by decide +kernel
theorem dX4_countAheadOfKettle_6 : decode cX4_countAheadOfKettle 6 = .ok (.getfield 10, 3) := by decide +kernel
theorem dX4_countAheadOfKettle_9 : decode cX4_countAheadOfKettle 9 = .ok (.getfield 146, 3) := by decide +kernel
theorem dX4_countAheadOfKettle_12 : decode cX4_countAheadOfKettle 12 = .ok (.if_icmp .ge 21, 3) := by decide +kernel
theorem dX4_countAheadOfKettle_15 : decode cX4_countAheadOfKettle 15 = .ok (.aload_n 0, 1) := by decide +kernel
theorem dX4_countAheadOfKettle_16 : decode cX4_countAheadOfKettle 16 = .ok (.iload_n 3, 1) := by decide +kernel
theorem dX4_countAheadOfKettle_17 : decode cX4_countAheadOfKettle 17 = .ok (.iload_n 1, 1) := by decide +kernel
theorem dX4_countAheadOfKettle_18 : decode cX4_countAheadOfKettle 18 = .ok (.invokevirtual 323, 3) := by decide +kernel
theorem dX4_countAheadOfKettle_21 : decode cX4_countAheadOfKettle 21 = .ok (.ifCond .eq 6, 3) := by decide +kernel
theorem dX4_countAheadOfKettle_24 : decode cX4_countAheadOfKettle 24 = .ok (.iinc 2 1, 3) := by decide +kernel
theorem dX4_countAheadOfKettle_27 : decode cX4_countAheadOfKettle 27 = .ok (.iinc 3 1, 3) := by decide +kernel
theorem dX4_countAheadOfKettle_30 : decode cX4_countAheadOfKettle 30 = .ok (.goto (-26), 3) := by decide +kernel
theorem dX4_countAheadOfKettle_33 : decode cX4_countAheadOfKettle 33 = .ok (.iload_n 2, 1) := by decide +kernel
theorem dX4_countAheadOfKettle_34 : decode cX4_countAheadOfKettle 34 = .ok (.ireturn, 1) := by decide +kernel
theorem dX4_isKettleAhead_0 : decode cX4_isKettleAhead 0 = .ok (.aload_n 0, 1) := by decide +kernel
theorem dX4_isKettleAhead_1 : decode cX4_isKettleAhead 1 = .ok (.getfield 10, 3) := by decide +kernel
theorem dX4_isKettleAhead_4 : decode cX4_isKettleAhead 4 = .ok (.getfield 89, 3) := by decide +kernel
theorem dX4_isKettleAhead_7 : decode cX4_isKettleAhead 7 = .ok (.iload_n 1, 1) := by decide +kernel
theorem dX4_isKettleAhead_8 : decode cX4_isKettleAhead 8 = .ok (.iaload, 1) := by decide +kernel
theorem dX4_isKettleAhead_9 : decode cX4_isKettleAhead 9 = .ok (.aload_n 0, 1) := by decide +kernel
theorem dX4_isKettleAhead_10 : decode cX4_isKettleAhead 10 = .ok (.getfield 10, 3) := by decide +kernel
theorem dX4_isKettleAhead_13 : decode cX4_isKettleAhead 13 = .ok (.getfield 89, 3) := by decide +kernel
theorem dX4_isKettleAhead_16 : decode cX4_isKettleAhead 16 = .ok (.iload_n 2, 1) := by decide +kernel
theorem dX4_isKettleAhead_17 : decode cX4_isKettleAhead 17 = .ok (.iaload, 1) := by decide +kernel
theorem dX4_isKettleAhead_18 : decode cX4_isKettleAhead 18 = .ok (.invokestatic 320, 3) := by decide +kernel
theorem dX4_isKettleAhead_21 : decode cX4_isKettleAhead 21 = .ok (.istore_n 3, 1) := by decide +kernel
theorem dX4_isKettleAhead_22 : decode cX4_isKettleAhead 22 = .ok (.iload_n 3, 1) := by decide +kernel
theorem dX4_isKettleAhead_23 : decode cX4_isKettleAhead 23 = .ok (.ifCond .eq 13, 3) := by decide +kernel
theorem dX4_isKettleAhead_26 : decode cX4_isKettleAhead 26 = .ok (.iload_n 3, 1) := by decide +kernel
theorem dX4_isKettleAhead_27 : decode cX4_isKettleAhead 27 = .ok (.ifCond .le 7, 3) := by decide +kernel
theorem dX4_isKettleAhead_30 : decode cX4_isKettleAhead 30 = .ok (.iconst 1, 1) := by decide +kernel
theorem dX4_isKettleAhead_31 : decode cX4_isKettleAhead 31 = .ok (.goto 4, 3) := by decide +kernel
theorem dX4_isKettleAhead_34 : decode cX4_isKettleAhead 34 = .ok (.iconst 0, 1) := by decide +kernel
theorem dX4_isKettleAhead_35 : decode cX4_isKettleAhead 35 = .ok (.ireturn, 1) := by decide +kernel
theorem dX4_isKettleAhead_36 : decode cX4_isKettleAhead 36 = .ok (.aload_n 0, 1) := by decide +kernel
theorem dX4_isKettleAhead_37 : decode cX4_isKettleAhead 37 = .ok (.getfield 10, 3) := by decide +kernel
theorem dX4_isKettleAhead_40 : decode cX4_isKettleAhead 40 = .ok (.getfield 86, 3) := by decide +kernel
theorem dX4_isKettleAhead_43 : decode cX4_isKettleAhead 43 = .ok (.iload_n 1, 1) := by decide +kernel
theorem dX4_isKettleAhead_44 : decode cX4_isKettleAhead 44 = .ok (.iaload, 1) := by decide +kernel
theorem dX4_isKettleAhead_45 : decode cX4_isKettleAhead 45 = .ok (.aload_n 0, 1) := by decide +kernel
theorem dX4_isKettleAhead_46 : decode cX4_isKettleAhead 46 = .ok (.getfield 10, 3) := by decide +kernel
theorem dX4_isKettleAhead_49 : decode cX4_isKettleAhead 49 = .ok (.getfield 86, 3) := by decide +kernel
theorem dX4_isKettleAhead_52 : decode cX4_isKettleAhead 52 = .ok (.iload_n 2, 1) := by decide +kernel
theorem dX4_isKettleAhead_53 : decode cX4_isKettleAhead 53 = .ok (.iaload, 1) := by decide +kernel
theorem dX4_isKettleAhead_54 : decode cX4_isKettleAhead 54 = .ok (.invokestatic 320, 3) := by decide +kernel
theorem dX4_isKettleAhead_57 : decode cX4_isKettleAhead 57 = .ok (.istore 4, 2) := by decide +kernel
theorem dX4_isKettleAhead_59 : decode cX4_isKettleAhead 59 = .ok (.iload 4, 2) := by decide +kernel
theorem dX4_isKettleAhead_61 : decode cX4_isKettleAhead 61 = .ok (.ifCond .eq 16, 3) := by decide +kernel
theorem dX4_isKettleAhead_64 : decode cX4_isKettleAhead 64 = .ok (.iload 4, 2) := by decide +kernel
theorem dX4_isKettleAhead_66 : decode cX4_isKettleAhead 66 = .ok (.ifCond .ge 7, 3) := by decide +kernel
theorem dX4_isKettleAhead_69 : decode cX4_isKettleAhead 69 = .ok (.iconst 1, 1) := by decide +kernel
theorem dX4_isKettleAhead_70 : decode cX4_isKettleAhead 70 = .ok (.goto 17, 3) := by decide +kernel
theorem dX4_isKettleAhead_73 : decode cX4_isKettleAhead 73 = .ok (.iconst 0, 1) := by decide +kernel
theorem dX4_isKettleAhead_74 : decode cX4_isKettleAhead 74 = .ok (.goto 13, 3) := by decide +kernel
theorem dX4_isKettleAhead_77 : decode cX4_isKettleAhead 77 = .ok (.iload_n 1, 1) := by decide +kernel
theorem dX4_isKettleAhead_78 : decode cX4_isKettleAhead 78 = .ok (.iload_n 2, 1) := by decide +kernel
theorem dX4_isKettleAhead_79 : decode cX4_isKettleAhead 79 = .ok (.if_icmp .ge 7, 3) := by decide +kernel
theorem dX4_isKettleAhead_82 : decode cX4_isKettleAhead 82 = .ok (.iconst 1, 1) := by decide +kernel
theorem dX4_isKettleAhead_83 : decode cX4_isKettleAhead 83 = .ok (.goto 4, 3) := by decide +kernel
theorem dX4_isKettleAhead_86 : decode cX4_isKettleAhead 86 = .ok (.iconst 0, 1) := by decide +kernel
theorem dX4_isKettleAhead_87 : decode cX4_isKettleAhead 87 = .ok (.ireturn, 1) := by decide +kernel
theorem dX4_settle_0 : decode cX4_settle 0 = .ok (.iload_n 1, 1) := by decide +kernel
theorem dX4_settle_1 : decode cX4_settle 1 = .ok (.ifCond .lt 10, 3) := by decide +kernel
theorem dX4_settle_4 : decode cX4_settle 4 = .ok (.aload_n 0, 1) := by decide +kernel
theorem dX4_settle_5 : decode cX4_settle 5 = .ok (.getfield 22, 3) := by decide +kernel
theorem dX4_settle_8 : decode cX4_settle 8 = .ok (.invokevirtual 326, 3) := by decide +kernel
theorem dX4_settle_11 : decode cX4_settle 11 = .ok (.iload_n 1, 1) := by decide +kernel
theorem dX4_settle_12 : decode cX4_settle 12 = .ok (.ireturn, 1) := by decide +kernel
theorem dX4_takePitch_0 : decode cX4_takePitch 0 = .ok (.iload_n 1, 1) := by decide +kernel
theorem dX4_takePitch_1 : decode cX4_takePitch 1 = .ok (.invokestatic 180, 3) := by decide +kernel
theorem dX4_takePitch_4 : decode cX4_takePitch 4 = .ok (.ifCond .ne 7, 3) := by decide +kernel
theorem dX4_takePitch_7 : decode cX4_takePitch 7 = .ok (.sipush (-1011), 3) := by decide +kernel
theorem dX4_takePitch_10 : decode cX4_takePitch 10 = .ok (.ireturn, 1) := by decide +kernel
theorem dX4_takePitch_11 : decode cX4_takePitch 11 = .ok (.iload_n 2, 1) := by decide +kernel
theorem dX4_takePitch_12 : decode cX4_takePitch 12 = .ok (.invokestatic 59, 3) := by decide +kernel
theorem dX4_takePitch_15 : decode cX4_takePitch 15 = .ok (.ifCond .ne 7, 3) := by decide +kernel
theorem dX4_takePitch_18 : decode cX4_takePitch 18 = .ok (.sipush (-1012), 3) := by decide +kernel
theorem dX4_takePitch_21 : decode cX4_takePitch 21 = .ok (.ireturn, 1) := by decide +kernel
theorem dX4_takePitch_22 : decode cX4_takePitch 22 = .ok (.aload_n 0, 1) := by decide +kernel
theorem dX4_takePitch_23 : decode cX4_takePitch 23 = .ok (.getfield 10, 3) := by decide +kernel
theorem dX4_takePitch_26 : decode cX4_takePitch 26 = .ok (.getfield 63, 3) := by decide +kernel
theorem dX4_takePitch_29 : decode cX4_takePitch 29 = .ok (.iload_n 2, 1) := by decide +kernel
theorem dX4_takePitch_30 : decode cX4_takePitch 30 = .ok (.iaload, 1) := by decide +kernel
theorem dX4_takePitch_31 : decode cX4_takePitch 31 = .ok (.iconst (-1), 1) := by decide +kernel
theorem dX4_takePitch_32 : decode cX4_takePitch 32 = .ok (.if_icmp .eq 18, 3) := by decide +kernel
theorem dX4_takePitch_35 : decode cX4_takePitch 35 = .ok (.aload_n 0, 1) := by decide +kernel
theorem dX4_takePitch_36 : decode cX4_takePitch 36 = .ok (.iconst 2, 1) := by decide +kernel
theorem dX4_takePitch_37 : decode cX4_takePitch 37 = .ok (.aload_n 0, 1) := by decide +kernel
theorem dX4_takePitch_38 : decode cX4_takePitch 38 = .ok (.getfield 10, 3) := by decide +kernel
theorem dX4_takePitch_41 : decode cX4_takePitch 41 = .ok (.getfield 63, 3) := by decide +kernel
theorem dX4_takePitch_44 : decode cX4_takePitch 44 = .ok (.iload_n 2, 1) := by decide +kernel
theorem dX4_takePitch_45 : decode cX4_takePitch 45 = .ok (.iaload, 1) := by decide +kernel
theorem dX4_takePitch_46 : decode cX4_takePitch 46 = .ok (.invokevirtual 329, 3) := by decide +kernel
theorem dX4_takePitch_49 : decode cX4_takePitch 49 = .ok (.ireturn, 1) := by decide +kernel
theorem dX4_takePitch_50 : decode cX4_takePitch 50 = .ok (.aload_n 0, 1) := by decide +kernel
theorem dX4_takePitch_51 : decode cX4_takePitch 51 = .ok (.getfield 10, 3) := by decide +kernel
theorem dX4_takePitch_54 : decode cX4_takePitch 54 = .ok (.iload_n 1, 1) := by decide +kernel
theorem dX4_takePitch_55 : decode cX4_takePitch 55 = .ok (.invokevirtual 186, 3) := by decide +kernel
theorem dX4_takePitch_58 : decode cX4_takePitch 58 = .ok (.istore_n 3, 1) := by decide +kernel
theorem dX4_takePitch_59 : decode cX4_takePitch 59 = .ok (.iload_n 3, 1) := by decide +kernel
theorem dX4_takePitch_60 : decode cX4_takePitch 60 = .ok (.iconst 4, 1) := by decide +kernel
theorem dX4_takePitch_61 : decode cX4_takePitch 61 = .ok (.if_icmp .lt 10, 3) := by decide +kernel
theorem dX4_takePitch_64 : decode cX4_takePitch 64 = .ok (.aload_n 0, 1) := by decide +kernel
theorem dX4_takePitch_65 : decode cX4_takePitch 65 = .ok (.iconst 1, 1) := by decide +kernel
theorem dX4_takePitch_66 : decode cX4_takePitch 66 = .ok (.iload_n 3, 1) := by decide +kernel
theorem dX4_takePitch_67 : decode cX4_takePitch 67 = .ok (.invokevirtual 329, 3) := by decide +kernel
theorem dX4_takePitch_70 : decode cX4_takePitch 70 = .ok (.ireturn, 1) := by decide +kernel
theorem dX4_takePitch_71 : decode cX4_takePitch 71 = .ok (.aload_n 0, 1) := by decide +kernel
theorem dX4_takePitch_72 : decode cX4_takePitch 72 = .ok (.getfield 10, 3) := by decide +kernel
theorem dX4_takePitch_75 : decode cX4_takePitch 75 = .ok (.getfield 63, 3) := by decide +kernel
theorem dX4_takePitch_78 : decode cX4_takePitch 78 = .ok (.iload_n 2, 1) := by decide +kernel
theorem dX4_takePitch_79 : decode cX4_takePitch 79 = .ok (.iload_n 1, 1) := by decide +kernel
theorem dX4_takePitch_80 : decode cX4_takePitch 80 = .ok (.iastore, 1) := by decide +kernel
theorem dX4_takePitch_81 : decode cX4_takePitch 81 = .ok (.iload_n 3, 1) := by decide +kernel
theorem dX4_takePitch_82 : decode cX4_takePitch 82 = .ok (.iconst 1, 1) := by decide +kernel
theorem dX4_takePitch_83 : decode cX4_takePitch 83 = .ok (.iadd, 1) := by decide +kernel
theorem dX4_takePitch_84 : decode cX4_takePitch 84 = .ok (.ireturn, 1) := by decide +kernel
theorem dX4_bringKettle_0 : decode cX4_bringKettle 0 = .ok (.iload_n 1, 1) := by decide +kernel
theorem dX4_bringKettle_1 : decode cX4_bringKettle 1 = .ok (.invokestatic 180, 3) := by decide +kernel
theorem dX4_bringKettle_4 : decode cX4_bringKettle 4 = .ok (.ifCond .ne 7, 3) := by decide +kernel
theorem dX4_bringKettle_7 : decode cX4_bringKettle 7 = .ok (.sipush (-1011), 3) := by decide +kernel
theorem dX4_bringKettle_10 : decode cX4_bringKettle 10 = .ok (.ireturn, 1) := by decide +kernel
theorem dX4_bringKettle_11 : decode cX4_bringKettle 11 = .ok (.iload_n 2, 1) := by decide +kernel
theorem dX4_bringKettle_12 : decode cX4_bringKettle 12 = .ok (.invokestatic 59, 3) := by decide +kernel
theorem dX4_bringKettle_15 : decode cX4_bringKettle 15 = .ok (.ifCond .eq 13, 3) := by decide +kernel
theorem dX4_bringKettle_18 : decode cX4_bringKettle 18 = .ok (.iload_n 3, 1) := by decide +kernel
theorem dX4_bringKettle_19 : decode cX4_bringKettle 19 = .ok (.ifCond .lt 9, 3) := by decide +kernel
theorem dX4_bringKettle_22 : decode cX4_bringKettle 22 = .ok (.iload_n 3, 1) := by decide +kernel
theorem dX4_bringKettle_23 : decode cX4_bringKettle 23 = .ok (.bipush 20, 2) := by decide +kernel
theorem dX4_bringKettle_25 : decode cX4_bringKettle 25 = .ok (.if_icmp .le 7, 3) := by decide +kernel
theorem dX4_bringKettle_28 : decode cX4_bringKettle 28 = .ok (.sipush (-1012), 3) := by decide +kernel
theorem dX4_bringKettle_31 : decode cX4_bringKettle 31 = .ok (.ireturn, 1) := by decide +kernel
theorem dX4_bringKettle_32 : decode cX4_bringKettle 32 = .ok (.aload_n 0, 1) := by decide +kernel
theorem dX4_bringKettle_33 : decode cX4_bringKettle 33 = .ok (.getfield 10, 3) := by decide +kernel
theorem dX4_bringKettle_36 : decode cX4_bringKettle 36 = .ok (.getfield 63, 3) := by decide +kernel
theorem dX4_bringKettle_39 : decode cX4_bringKettle 39 = .ok (.iload_n 2, 1) := by decide +kernel
theorem dX4_bringKettle_40 : decode cX4_bringKettle 40 = .ok (.iaload, 1) := by decide +kernel
theorem dX4_bringKettle_41 : decode cX4_bringKettle 41 = .ok (.iload_n 1, 1) := by decide +kernel
theorem dX4_bringKettle_42 : decode cX4_bringKettle 42 = .ok (.if_icmp .eq 18, 3) := by decide +kernel
theorem dX4_bringKettle_45 : decode cX4_bringKettle 45 = .ok (.aload_n 0, 1) := by decide +kernel
theorem dX4_bringKettle_46 : decode cX4_bringKettle 46 = .ok (.iconst 3, 1) := by decide +kernel
theorem dX4_bringKettle_47 : decode cX4_bringKettle 47 = .ok (.aload_n 0, 1) := by decide +kernel
theorem dX4_bringKettle_48 : decode cX4_bringKettle 48 = .ok (.getfield 10, 3) := by decide +kernel
theorem dX4_bringKettle_51 : decode cX4_bringKettle 51 = .ok (.getfield 63, 3) := by decide +kernel
theorem dX4_bringKettle_54 : decode cX4_bringKettle 54 = .ok (.iload_n 2, 1) := by decide +kernel
theorem dX4_bringKettle_55 : decode cX4_bringKettle 55 = .ok (.iaload, 1) := by decide +kernel
theorem dX4_bringKettle_56 : decode cX4_bringKettle 56 = .ok (.invokevirtual 329, 3) := by decide +kernel
theorem dX4_bringKettle_59 : decode cX4_bringKettle 59 = .ok (.ireturn, 1) := by decide +kernel
theorem dX4_bringKettle_60 : decode cX4_bringKettle 60 = .ok (.aload_n 0, 1) := by decide +kernel
theorem dX4_bringKettle_61 : decode cX4_bringKettle 61 = .ok (.getfield 10, 3) := by decide +kernel
theorem dX4_bringKettle_64 : decode cX4_bringKettle 64 = .ok (.getfield 146, 3) := by decide +kernel
theorem dX4_bringKettle_67 : decode cX4_bringKettle 67 = .ok (.bipush 10, 2) := by decide +kernel
theorem dX4_bringKettle_69 : decode cX4_bringKettle 69 = .ok (.if_icmp .lt 16, 3) := by decide +kernel
theorem dX4_bringKettle_72 : decode cX4_bringKettle 72 = .ok (.aload_n 0, 1) := by decide +kernel
theorem dX4_bringKettle_73 : decode cX4_bringKettle 73 = .ok (.iconst 1, 1) := by decide +kernel
theorem dX4_bringKettle_74 : decode cX4_bringKettle 74 = .ok (.aload_n 0, 1) := by decide +kernel
theorem dX4_bringKettle_75 : decode cX4_bringKettle 75 = .ok (.getfield 10, 3) := by decide +kernel
theorem dX4_bringKettle_78 : decode cX4_bringKettle 78 = .ok (.getfield 146, 3) := by decide +kernel
theorem dX4_bringKettle_81 : decode cX4_bringKettle 81 = .ok (.invokevirtual 329, 3) := by decide +kernel
theorem dX4_bringKettle_84 : decode cX4_bringKettle 84 = .ok (.ireturn, 1) := by decide +kernel
theorem dX4_bringKettle_85 : decode cX4_bringKettle 85 = .ok (.aload_n 0, 1) := by decide +kernel
theorem dX4_bringKettle_86 : decode cX4_bringKettle 86 = .ok (.getfield 10, 3) := by decide +kernel
theorem dX4_bringKettle_89 : decode cX4_bringKettle 89 = .ok (.iload_n 1, 1) := by decide +kernel
theorem dX4_bringKettle_90 : decode cX4_bringKettle 90 = .ok (.iload_n 2, 1) := by decide +kernel
theorem dX4_bringKettle_91 : decode cX4_bringKettle 91 = .ok (.iload_n 3, 1) := by decide +kernel
theorem dX4_bringKettle_92 : decode cX4_bringKettle 92 = .ok (.invokevirtual 332, 3) := by decide +kernel
theorem dX4_bringKettle_95 : decode cX4_bringKettle 95 = .ok (.ireturn, 1) := by decide +kernel
theorem dX4_pourWater_0 : decode cX4_pourWater 0 = .ok (.aload_n 0, 1) := by decide +kernel
theorem dX4_pourWater_1 : decode cX4_pourWater 1 = .ok (.iload_n 1, 1) := by decide +kernel
theorem dX4_pourWater_2 : decode cX4_pourWater 2 = .ok (.invokevirtual 77, 3) := by decide +kernel
theorem dX4_pourWater_5 : decode cX4_pourWater 5 = .ok (.ifCond .ne 7, 3) := by decide +kernel
theorem dX4_pourWater_8 : decode cX4_pourWater 8 = .ok (.sipush (-1011), 3) := by decide +kernel
theorem dX4_pourWater_11 : decode cX4_pourWater 11 = .ok (.ireturn, 1) := by decide +kernel
theorem dX4_pourWater_12 : decode cX4_pourWater 12 = .ok (.iload_n 2, 1) := by decide +kernel
theorem dX4_pourWater_13 : decode cX4_pourWater 13 = .ok (.iconst 1, 1) := by decide +kernel
theorem dX4_pourWater_14 : decode cX4_pourWater 14 = .ok (.if_icmp .lt 9, 3) := by decide +kernel
theorem dX4_pourWater_17 : decode cX4_pourWater 17 = .ok (.iload_n 2, 1) := by decide +kernel
theorem dX4_pourWater_18 : decode cX4_pourWater 18 = .ok (.bipush 20, 2) := by decide +kernel
theorem dX4_pourWater_20 : decode cX4_pourWater 20 = .ok (.if_icmp .le 7, 3) := by decide +kernel
theorem dX4_pourWater_23 : decode cX4_pourWater 23 = .ok (.sipush (-1012), 3) := by decide +kernel
theorem dX4_pourWater_26 : decode cX4_pourWater 26 = .ok (.ireturn, 1) := by decide +kernel
theorem dX4_pourWater_27 : decode cX4_pourWater 27 = .ok (.aload_n 0, 1) := by decide +kernel
theorem dX4_pourWater_28 : decode cX4_pourWater 28 = .ok (.getfield 10, 3) := by decide +kernel
theorem dX4_pourWater_31 : decode cX4_pourWater 31 = .ok (.getfield 86, 3) := by decide +kernel
theorem dX4_pourWater_34 : decode cX4_pourWater 34 = .ok (.iload_n 1, 1) := by decide +kernel
theorem dX4_pourWater_35 : decode cX4_pourWater 35 = .ok (.iaload, 1) := by decide +kernel
theorem dX4_pourWater_36 : decode cX4_pourWater 36 = .ok (.iload_n 2, 1) := by decide +kernel
theorem dX4_pourWater_37 : decode cX4_pourWater 37 = .ok (.iadd, 1) := by decide +kernel
theorem dX4_pourWater_38 : decode cX4_pourWater 38 = .ok (.istore_n 3, 1) := by decide +kernel
theorem dX4_pourWater_39 : decode cX4_pourWater 39 = .ok (.iload_n 3, 1) := by decide +kernel
theorem dX4_pourWater_40 : decode cX4_pourWater 40 = .ok (.bipush 20, 2) := by decide +kernel
theorem dX4_pourWater_42 : decode cX4_pourWater 42 = .ok (.if_icmp .le 11, 3) := by decide +kernel
theorem dX4_pourWater_45 : decode cX4_pourWater 45 = .ok (.aload_n 0, 1) := by decide +kernel
theorem dX4_pourWater_46 : decode cX4_pourWater 46 = .ok (.bipush 11, 2) := by decide +kernel
theorem dX4_pourWater_48 : decode cX4_pourWater 48 = .ok (.iload_n 3, 1) := by decide +kernel
theorem dX4_pourWater_49 : decode cX4_pourWater 49 = .ok (.invokevirtual 329, 3) := by decide +kernel
theorem dX4_pourWater_52 : decode cX4_pourWater 52 = .ok (.ireturn, 1) := by decide +kernel
theorem dX4_pourWater_53 : decode cX4_pourWater 53 = .ok (.aload_n 0, 1) := by decide +kernel
theorem dX4_pourWater_54 : decode cX4_pourWater 54 = .ok (.getfield 10, 3) := by decide +kernel
theorem dX4_pourWater_57 : decode cX4_pourWater 57 = .ok (.getfield 86, 3) := by decide +kernel
theorem dX4_pourWater_60 : decode cX4_pourWater 60 = .ok (.iload_n 1, 1) := by decide +kernel
theorem dX4_pourWater_61 : decode cX4_pourWater 61 = .ok (.iload_n 3, 1) := by decide +kernel
theorem dX4_pourWater_62 : decode cX4_pourWater 62 = .ok (.iastore, 1) := by decide +kernel
theorem dX4_pourWater_63 : decode cX4_pourWater 63 = .ok (.aload_n 0, 1) := by decide +kernel
theorem dX4_pourWater_64 : decode cX4_pourWater 64 = .ok (.getfield 10, 3) := by decide +kernel
theorem dX4_pourWater_67 : decode cX4_pourWater 67 = .ok (.dup, 1) := by decide +kernel
theorem dX4_pourWater_68 : decode cX4_pourWater 68 = .ok (.getfield 277, 3) := by decide +kernel
theorem dX4_pourWater_71 : decode cX4_pourWater 71 = .ok (.iload_n 2, 1) := by decide +kernel
theorem dX4_pourWater_72 : decode cX4_pourWater 72 = .ok (.iadd, 1) := by decide +kernel
theorem dX4_pourWater_73 : decode cX4_pourWater 73 = .ok (.putfield 277, 3) := by decide +kernel
theorem dX4_pourWater_76 : decode cX4_pourWater 76 = .ok (.iload_n 3, 1) := by decide +kernel
theorem dX4_pourWater_77 : decode cX4_pourWater 77 = .ok (.ireturn, 1) := by decide +kernel
theorem dX4_putOnStove_0 : decode cX4_putOnStove 0 = .ok (.aload_n 0, 1) := by decide +kernel
theorem dX4_putOnStove_1 : decode cX4_putOnStove 1 = .ok (.iload_n 1, 1) := by decide +kernel
theorem dX4_putOnStove_2 : decode cX4_putOnStove 2 = .ok (.invokevirtual 77, 3) := by decide +kernel
theorem dX4_putOnStove_5 : decode cX4_putOnStove 5 = .ok (.ifCond .eq 10, 3) := by decide +kernel
theorem dX4_putOnStove_8 : decode cX4_putOnStove 8 = .ok (.iload_n 2, 1) := by decide +kernel
theorem dX4_putOnStove_9 : decode cX4_putOnStove 9 = .ok (.invokestatic 130, 3) := by decide +kernel
theorem dX4_putOnStove_12 : decode cX4_putOnStove 12 = .ok (.ifCond .ne 7, 3) := by decide +kernel
theorem dX4_putOnStove_15 : decode cX4_putOnStove 15 = .ok (.sipush (-1011), 3) := by decide +kernel
theorem dX4_putOnStove_18 : decode cX4_putOnStove 18 = .ok (.ireturn, 1) := by decide +kernel
theorem dX4_putOnStove_19 : decode cX4_putOnStove 19 = .ok (.aload_n 0, 1) := by decide +kernel
theorem dX4_putOnStove_20 : decode cX4_putOnStove 20 = .ok (.getfield 10, 3) := by decide +kernel
theorem dX4_putOnStove_23 : decode cX4_putOnStove 23 = .ok (.getfield 95, 3) := by decide +kernel
theorem dX4_putOnStove_26 : decode cX4_putOnStove 26 = .ok (.iload_n 1, 1) := by decide +kernel
theorem dX4_putOnStove_27 : decode cX4_putOnStove 27 = .ok (.iaload, 1) := by decide +kernel
theorem dX4_putOnStove_28 : decode cX4_putOnStove 28 = .ok (.iconst (-1), 1) := by decide +kernel
theorem dX4_putOnStove_29 : decode cX4_putOnStove 29 = .ok (.if_icmp .eq 19, 3) := by decide +kernel
theorem dX4_putOnStove_32 : decode cX4_putOnStove 32 = .ok (.aload_n 0, 1) := by decide +kernel
theorem dX4_putOnStove_33 : decode cX4_putOnStove 33 = .ok (.iload_n 1, 1) := by decide +kernel
theorem dX4_putOnStove_34 : decode cX4_putOnStove 34 = .ok (.iconst 5, 1) := by decide +kernel
theorem dX4_putOnStove_35 : decode cX4_putOnStove 35 = .ok (.aload_n 0, 1) := by decide +kernel
theorem dX4_putOnStove_36 : decode cX4_putOnStove 36 = .ok (.getfield 10, 3) := by decide +kernel
theorem dX4_putOnStove_39 : decode cX4_putOnStove 39 = .ok (.getfield 95, 3) := by decide +kernel
theorem dX4_putOnStove_42 : decode cX4_putOnStove 42 = .ok (.iload_n 1, 1) := by decide +kernel
theorem dX4_putOnStove_43 : decode cX4_putOnStove 43 = .ok (.iaload, 1) := by decide +kernel
theorem dX4_putOnStove_44 : decode cX4_putOnStove 44 = .ok (.invokevirtual 335, 3) := by decide +kernel
theorem dX4_putOnStove_47 : decode cX4_putOnStove 47 = .ok (.ireturn, 1) := by decide +kernel
theorem dX4_putOnStove_48 : decode cX4_putOnStove 48 = .ok (.aload_n 0, 1) := by decide +kernel
theorem dX4_putOnStove_49 : decode cX4_putOnStove 49 = .ok (.getfield 10, 3) := by decide +kernel
theorem dX4_putOnStove_52 : decode cX4_putOnStove 52 = .ok (.iload_n 2, 1) := by decide +kernel
theorem dX4_putOnStove_53 : decode cX4_putOnStove 53 = .ok (.invokevirtual 136, 3) := by decide +kernel
theorem dX4_putOnStove_56 : decode cX4_putOnStove 56 = .ok (.istore_n 3, 1) := by decide +kernel
theorem dX4_putOnStove_57 : decode cX4_putOnStove 57 = .ok (.iload_n 3, 1) := by decide +kernel
theorem dX4_putOnStove_58 : decode cX4_putOnStove 58 = .ok (.iconst (-1), 1) := by decide +kernel
theorem dX4_putOnStove_59 : decode cX4_putOnStove 59 = .ok (.if_icmp .eq 12, 3) := by decide +kernel
theorem dX4_putOnStove_62 : decode cX4_putOnStove 62 = .ok (.aload_n 0, 1) := by decide +kernel
theorem dX4_putOnStove_63 : decode cX4_putOnStove 63 = .ok (.iload_n 1, 1) := by decide +kernel
theorem dX4_putOnStove_64 : decode cX4_putOnStove 64 = .ok (.bipush 6, 2) := by decide +kernel
theorem dX4_putOnStove_66 : decode cX4_putOnStove 66 = .ok (.iload_n 3, 1) := by decide +kernel
theorem dX4_putOnStove_67 : decode cX4_putOnStove 67 = .ok (.invokevirtual 335, 3) := by decide +kernel
theorem dX4_putOnStove_70 : decode cX4_putOnStove 70 = .ok (.ireturn, 1) := by decide +kernel
theorem dX4_putOnStove_71 : decode cX4_putOnStove 71 = .ok (.aload_n 0, 1) := by decide +kernel
theorem dX4_putOnStove_72 : decode cX4_putOnStove 72 = .ok (.getfield 10, 3) := by decide +kernel
theorem dX4_putOnStove_75 : decode cX4_putOnStove 75 = .ok (.aload_n 0, 1) := by decide +kernel
theorem dX4_putOnStove_76 : decode cX4_putOnStove 76 = .ok (.getfield 10, 3) := by decide +kernel
theorem dX4_putOnStove_79 : decode cX4_putOnStove 79 = .ok (.getfield 83, 3) := by decide +kernel
theorem dX4_putOnStove_82 : decode cX4_putOnStove 82 = .ok (.iload_n 1, 1) := by decide +kernel
theorem dX4_putOnStove_83 : decode cX4_putOnStove 83 = .ok (.iaload, 1) := by decide +kernel
theorem dX4_putOnStove_84 : decode cX4_putOnStove 84 = .ok (.invokevirtual 338, 3) := by decide +kernel
theorem dX4_putOnStove_87 : decode cX4_putOnStove 87 = .ok (.istore 4, 2) := by decide +kernel
theorem dX4_putOnStove_89 : decode cX4_putOnStove 89 = .ok (.iload 4, 2) := by decide +kernel
theorem dX4_putOnStove_91 : decode cX4_putOnStove 91 = .ok (.iconst (-1), 1) := by decide +kernel
theorem dX4_putOnStove_92 : decode cX4_putOnStove 92 = .ok (.if_icmp .eq 13, 3) := by decide +kernel
theorem dX4_putOnStove_95 : decode cX4_putOnStove 95 = .ok (.aload_n 0, 1) := by decide +kernel
theorem dX4_putOnStove_96 : decode cX4_putOnStove 96 = .ok (.iload_n 1, 1) := by decide +kernel
theorem dX4_putOnStove_97 : decode cX4_putOnStove 97 = .ok (.bipush 7, 2) := by decide +kernel
theorem dX4_putOnStove_99 : decode cX4_putOnStove 99 = .ok (.iload 4, 2) := by decide +kernel
theorem dX4_putOnStove_101 : decode cX4_putOnStove 101 = .ok (.invokevirtual 335, 3) := by decide +kernel
theorem dX4_putOnStove_104 : decode cX4_putOnStove 104 = .ok (.ireturn, 1) := by decide +kernel
theorem dX4_putOnStove_105 : decode cX4_putOnStove 105 = .ok (.aload_n 0, 1) := by decide +kernel
theorem dX4_putOnStove_106 : decode cX4_putOnStove 106 = .ok (.getfield 10, 3) := by decide +kernel
theorem dX4_putOnStove_109 : decode cX4_putOnStove 109 = .ok (.getfield 104, 3) := by decide +kernel
theorem dX4_putOnStove_112 : decode cX4_putOnStove 112 = .ok (.iload_n 1, 1) := by decide +kernel
theorem dX4_putOnStove_113 : decode cX4_putOnStove 113 = .ok (.iaload, 1) := by decide +kernel
theorem dX4_putOnStove_114 : decode cX4_putOnStove 114 = .ok (.ifCond .le 20, 3) := by decide +kernel
theorem dX4_putOnStove_117 : decode cX4_putOnStove 117 = .ok (.aload_n 0, 1) := by decide +kernel
theorem dX4_putOnStove_118 : decode cX4_putOnStove 118 = .ok (.iload_n 1, 1) := by decide +kernel
theorem dX4_putOnStove_119 : decode cX4_putOnStove 119 = .ok (.bipush 8, 2) := by decide +kernel
theorem dX4_putOnStove_121 : decode cX4_putOnStove 121 = .ok (.aload_n 0, 1) := by decide +kernel
theorem dX4_putOnStove_122 : decode cX4_putOnStove 122 = .ok (.getfield 10, 3) := by decide +kernel
theorem dX4_putOnStove_125 : decode cX4_putOnStove 125 = .ok (.getfield 104, 3) := by decide +kernel
theorem dX4_putOnStove_128 : decode cX4_putOnStove 128 = .ok (.iload_n 1, 1) := by decide +kernel
theorem dX4_putOnStove_129 : decode cX4_putOnStove 129 = .ok (.iaload, 1) := by decide +kernel
theorem dX4_putOnStove_130 : decode cX4_putOnStove 130 = .ok (.invokevirtual 335, 3) := by decide +kernel
theorem dX4_putOnStove_133 : decode cX4_putOnStove 133 = .ok (.ireturn, 1) := by decide +kernel
theorem dX4_putOnStove_134 : decode cX4_putOnStove 134 = .ok (.aload_n 0, 1) := by decide +kernel
theorem dX4_putOnStove_135 : decode cX4_putOnStove 135 = .ok (.getfield 10, 3) := by decide +kernel
theorem dX4_putOnStove_138 : decode cX4_putOnStove 138 = .ok (.getfield 95, 3) := by decide +kernel
theorem dX4_putOnStove_141 : decode cX4_putOnStove 141 = .ok (.iload_n 1, 1) := by decide +kernel
theorem dX4_putOnStove_142 : decode cX4_putOnStove 142 = .ok (.iload_n 2, 1) := by decide +kernel
theorem dX4_putOnStove_143 : decode cX4_putOnStove 143 = .ok (.iastore, 1) := by decide +kernel
theorem dX4_putOnStove_144 : decode cX4_putOnStove 144 = .ok (.aload_n 0, 1) := by decide +kernel
theorem dX4_putOnStove_145 : decode cX4_putOnStove 145 = .ok (.getfield 10, 3) := by decide +kernel
theorem dX4_putOnStove_148 : decode cX4_putOnStove 148 = .ok (.invokevirtual 259, 3) := by decide +kernel
theorem dX4_putOnStove_151 : decode cX4_putOnStove 151 = .ok (.ireturn, 1) := by decide +kernel
theorem dX4_takeOffStove_0 : decode cX4_takeOffStove 0 = .ok (.aload_n 0, 1) := by decide +kernel
theorem dX4_takeOffStove_1 : decode cX4_takeOffStove 1 = .ok (.iload_n 1, 1) := by decide +kernel
theorem dX4_takeOffStove_2 : decode cX4_takeOffStove 2 = .ok (.invokevirtual 77, 3) := by decide +kernel
theorem dX4_takeOffStove_5 : decode cX4_takeOffStove 5 = .ok (.ifCond .ne 7, 3) := by decide +kernel
theorem dX4_takeOffStove_8 : decode cX4_takeOffStove 8 = .ok (.sipush (-1011), 3) := by decide +kernel
theorem dX4_takeOffStove_11 : decode cX4_takeOffStove 11 = .ok (.ireturn, 1) := by decide +kernel
theorem dX4_takeOffStove_12 : decode cX4_takeOffStove 12 = .ok (.aload_n 0, 1) := by decide +kernel
theorem dX4_takeOffStove_13 : decode cX4_takeOffStove 13 = .ok (.getfield 10, 3) := by decide +kernel
theorem dX4_takeOffStove_16 : decode cX4_takeOffStove 16 = .ok (.getfield 95, 3) := by decide +kernel
theorem dX4_takeOffStove_19 : decode cX4_takeOffStove 19 = .ok (.iload_n 1, 1) := by decide +kernel
theorem dX4_takeOffStove_20 : decode cX4_takeOffStove 20 = .ok (.iaload, 1) := by decide +kernel
theorem dX4_takeOffStove_21 : decode cX4_takeOffStove 21 = .ok (.istore_n 2, 1) := by decide +kernel
theorem dX4_takeOffStove_22 : decode cX4_takeOffStove 22 = .ok (.iload_n 2, 1) := by decide +kernel
theorem dX4_takeOffStove_23 : decode cX4_takeOffStove 23 = .ok (.iconst (-1), 1) := by decide +kernel
theorem dX4_takeOffStove_24 : decode cX4_takeOffStove 24 = .ok (.if_icmp .ne 17, 3) := by decide +kernel
theorem dX4_takeOffStove_27 : decode cX4_takeOffStove 27 = .ok (.aload_n 0, 1) := by decide +kernel
theorem dX4_takeOffStove_28 : decode cX4_takeOffStove 28 = .ok (.bipush 10, 2) := by decide +kernel
theorem dX4_takeOffStove_30 : decode cX4_takeOffStove 30 = .ok (.aload_n 0, 1) := by decide +kernel
theorem dX4_takeOffStove_31 : decode cX4_takeOffStove 31 = .ok (.getfield 10, 3) := by decide +kernel
theorem dX4_takeOffStove_34 : decode cX4_takeOffStove 34 = .ok (.invokevirtual 259, 3) := by decide +kernel
theorem dX4_takeOffStove_37 : decode cX4_takeOffStove 37 = .ok (.invokevirtual 329, 3) := by decide +kernel
theorem dX4_takeOffStove_40 : decode cX4_takeOffStove 40 = .ok (.ireturn, 1) := by decide +kernel
theorem dX4_takeOffStove_41 : decode cX4_takeOffStove 41 = .ok (.aload_n 0, 1) := by decide +kernel
theorem dX4_takeOffStove_42 : decode cX4_takeOffStove 42 = .ok (.getfield 10, 3) := by decide +kernel
theorem dX4_takeOffStove_45 : decode cX4_takeOffStove 45 = .ok (.getfield 95, 3) := by decide +kernel
theorem dX4_takeOffStove_48 : decode cX4_takeOffStove 48 = .ok (.iload_n 1, 1) := by decide +kernel
theorem dX4_takeOffStove_49 : decode cX4_takeOffStove 49 = .ok (.iconst (-1), 1) := by decide +kernel
theorem dX4_takeOffStove_50 : decode cX4_takeOffStove 50 = .ok (.iastore, 1) := by decide +kernel
theorem dX4_takeOffStove_51 : decode cX4_takeOffStove 51 = .ok (.iload_n 2, 1) := by decide +kernel
theorem dX4_takeOffStove_52 : decode cX4_takeOffStove 52 = .ok (.ireturn, 1) := by decide +kernel
theorem dX4_turnStove_0 : decode cX4_turnStove 0 = .ok (.iload_n 1, 1) := by decide +kernel
theorem dX4_turnStove_1 : decode cX4_turnStove 1 = .ok (.invokestatic 130, 3) := by decide +kernel
theorem dX4_turnStove_4 : decode cX4_turnStove 4 = .ok (.ifCond .ne 7, 3) := by decide +kernel
theorem dX4_turnStove_7 : decode cX4_turnStove 7 = .ok (.sipush (-1011), 3) := by decide +kernel
theorem dX4_turnStove_10 : decode cX4_turnStove 10 = .ok (.ireturn, 1) := by decide +kernel
theorem dX4_turnStove_11 : decode cX4_turnStove 11 = .ok (.iload_n 2, 1) := by decide +kernel
theorem dX4_turnStove_12 : decode cX4_turnStove 12 = .ok (.ifCond .lt 8, 3) := by decide +kernel
theorem dX4_turnStove_15 : decode cX4_turnStove 15 = .ok (.iload_n 2, 1) := by decide +kernel
theorem dX4_turnStove_16 : decode cX4_turnStove 16 = .ok (.iconst 5, 1) := by decide +kernel
theorem dX4_turnStove_17 : decode cX4_turnStove 17 = .ok (.if_icmp .le 7, 3) := by decide +kernel
theorem dX4_turnStove_20 : decode cX4_turnStove 20 = .ok (.sipush (-1012), 3) := by decide +kernel
theorem dX4_turnStove_23 : decode cX4_turnStove 23 = .ok (.ireturn, 1) := by decide +kernel
theorem dX4_turnStove_24 : decode cX4_turnStove 24 = .ok (.aload_n 0, 1) := by decide +kernel
theorem dX4_turnStove_25 : decode cX4_turnStove 25 = .ok (.getfield 10, 3) := by decide +kernel
theorem dX4_turnStove_28 : decode cX4_turnStove 28 = .ok (.getfield 133, 3) := by decide +kernel
theorem dX4_turnStove_31 : decode cX4_turnStove 31 = .ok (.iload_n 1, 1) := by decide +kernel
theorem dX4_turnStove_32 : decode cX4_turnStove 32 = .ok (.iaload, 1) := by decide +kernel
theorem dX4_turnStove_33 : decode cX4_turnStove 33 = .ok (.istore_n 3, 1) := by decide +kernel
theorem dX4_turnStove_34 : decode cX4_turnStove 34 = .ok (.iload_n 3, 1) := by decide +kernel
theorem dX4_turnStove_35 : decode cX4_turnStove 35 = .ok (.iload_n 2, 1) := by decide +kernel
theorem dX4_turnStove_36 : decode cX4_turnStove 36 = .ok (.if_icmp .ne 11, 3) := by decide +kernel
theorem dX4_turnStove_39 : decode cX4_turnStove 39 = .ok (.aload_n 0, 1) := by decide +kernel
theorem dX4_turnStove_40 : decode cX4_turnStove 40 = .ok (.bipush 9, 2) := by decide +kernel
theorem dX4_turnStove_42 : decode cX4_turnStove 42 = .ok (.iload_n 2, 1) := by decide +kernel
theorem dX4_turnStove_43 : decode cX4_turnStove 43 = .ok (.invokevirtual 329, 3) := by decide +kernel
theorem dX4_turnStove_46 : decode cX4_turnStove 46 = .ok (.ireturn, 1) := by decide +kernel
theorem dX4_turnStove_47 : decode cX4_turnStove 47 = .ok (.aload_n 0, 1) := by decide +kernel
theorem dX4_turnStove_48 : decode cX4_turnStove 48 = .ok (.getfield 10, 3) := by decide +kernel
theorem dX4_turnStove_51 : decode cX4_turnStove 51 = .ok (.getfield 133, 3) := by decide +kernel
theorem dX4_turnStove_54 : decode cX4_turnStove 54 = .ok (.iload_n 1, 1) := by decide +kernel
theorem dX4_turnStove_55 : decode cX4_turnStove 55 = .ok (.iload_n 2, 1) := by decide +kernel
theorem dX4_turnStove_56 : decode cX4_turnStove 56 = .ok (.iastore, 1) := by decide +kernel
theorem dX4_turnStove_57 : decode cX4_turnStove 57 = .ok (.iload_n 3, 1) := by decide +kernel
theorem dX4_turnStove_58 : decode cX4_turnStove 58 = .ok (.ireturn, 1) := by decide +kernel
theorem dX4_moveLid_0 : decode cX4_moveLid 0 = .ok (.aload_n 0, 1) := by decide +kernel
theorem dX4_moveLid_1 : decode cX4_moveLid 1 = .ok (.iload_n 1, 1) := by decide +kernel
theorem dX4_moveLid_2 : decode cX4_moveLid 2 = .ok (.invokevirtual 77, 3) := by decide +kernel
theorem dX4_moveLid_5 : decode cX4_moveLid 5 = .ok (.ifCond .ne 7, 3) := by decide +kernel
theorem dX4_moveLid_8 : decode cX4_moveLid 8 = .ok (.sipush (-1011), 3) := by decide +kernel
theorem dX4_moveLid_11 : decode cX4_moveLid 11 = .ok (.ireturn, 1) := by decide +kernel
theorem dX4_moveLid_12 : decode cX4_moveLid 12 = .ok (.iload_n 2, 1) := by decide +kernel
theorem dX4_moveLid_13 : decode cX4_moveLid 13 = .ok (.ifCond .eq 12, 3) := by decide +kernel
theorem dX4_moveLid_16 : decode cX4_moveLid 16 = .ok (.iload_n 2, 1) := by decide +kernel
theorem dX4_moveLid_17 : decode cX4_moveLid 17 = .ok (.iconst 1, 1) := by decide +kernel
theorem dX4_moveLid_18 : decode cX4_moveLid 18 = .ok (.if_icmp .eq 7, 3) := by decide +kernel
theorem dX4_moveLid_21 : decode cX4_moveLid 21 = .ok (.sipush (-1012), 3) := by decide +kernel
theorem dX4_moveLid_24 : decode cX4_moveLid 24 = .ok (.ireturn, 1) := by decide +kernel
theorem dX4_moveLid_25 : decode cX4_moveLid 25 = .ok (.aload_n 0, 1) := by decide +kernel
theorem dX4_moveLid_26 : decode cX4_moveLid 26 = .ok (.getfield 10, 3) := by decide +kernel
theorem dX4_moveLid_29 : decode cX4_moveLid 29 = .ok (.getfield 92, 3) := by decide +kernel
theorem dX4_moveLid_32 : decode cX4_moveLid 32 = .ok (.iload_n 1, 1) := by decide +kernel
theorem dX4_moveLid_33 : decode cX4_moveLid 33 = .ok (.iaload, 1) := by decide +kernel
theorem dX4_moveLid_34 : decode cX4_moveLid 34 = .ok (.iload_n 2, 1) := by decide +kernel
theorem dX4_moveLid_35 : decode cX4_moveLid 35 = .ok (.if_icmp .ne 11, 3) := by decide +kernel
theorem dX4_moveLid_38 : decode cX4_moveLid 38 = .ok (.aload_n 0, 1) := by decide +kernel
theorem dX4_moveLid_39 : decode cX4_moveLid 39 = .ok (.bipush 9, 2) := by decide +kernel
theorem dX4_moveLid_41 : decode cX4_moveLid 41 = .ok (.iload_n 2, 1) := by decide +kernel
theorem dX4_moveLid_42 : decode cX4_moveLid 42 = .ok (.invokevirtual 329, 3) := by decide +kernel
theorem dX4_moveLid_45 : decode cX4_moveLid 45 = .ok (.ireturn, 1) := by decide +kernel
theorem dX4_moveLid_46 : decode cX4_moveLid 46 = .ok (.iload_n 2, 1) := by decide +kernel
theorem dX4_moveLid_47 : decode cX4_moveLid 47 = .ok (.iconst 1, 1) := by decide +kernel
theorem dX4_moveLid_48 : decode cX4_moveLid 48 = .ok (.if_icmp .ne 36, 3) := by decide +kernel
theorem dX4_moveLid_51 : decode cX4_moveLid 51 = .ok (.aload_n 0, 1) := by decide +kernel
theorem dX4_moveLid_52 : decode cX4_moveLid 52 = .ok (.getfield 10, 3) := by decide +kernel
theorem dX4_moveLid_55 : decode cX4_moveLid 55 = .ok (.getfield 341, 3) := by decide +kernel
theorem dX4_moveLid_58 : decode cX4_moveLid 58 = .ok (.iload_n 1, 1) := by decide +kernel
theorem dX4_moveLid_59 : decode cX4_moveLid 59 = .ok (.iaload, 1) := by decide +kernel
theorem dX4_moveLid_60 : decode cX4_moveLid 60 = .ok (.iconst 1, 1) := by decide +kernel
theorem dX4_moveLid_61 : decode cX4_moveLid 61 = .ok (.if_icmp .ne 23, 3) := by decide +kernel
theorem dX4_moveLid_64 : decode cX4_moveLid 64 = .ok (.aload_n 0, 1) := by decide +kernel
theorem dX4_moveLid_65 : decode cX4_moveLid 65 = .ok (.bipush 12, 2) := by decide +kernel
theorem dX4_moveLid_67 : decode cX4_moveLid 67 = .ok (.bipush 6, 2) := by decide +kernel
theorem dX4_moveLid_69 : decode cX4_moveLid 69 = .ok (.aload_n 0, 1) := by decide +kernel
theorem dX4_moveLid_70 : decode cX4_moveLid 70 = .ok (.getfield 10, 3) := by decide +kernel
theorem dX4_moveLid_73 : decode cX4_moveLid 73 = .ok (.getfield 271, 3) := by decide +kernel
theorem dX4_moveLid_76 : decode cX4_moveLid 76 = .ok (.bipush 6, 2) := by decide +kernel
theorem dX4_moveLid_78 : decode cX4_moveLid 78 = .ok (.irem, 1) := by decide +kernel
theorem dX4_moveLid_79 : decode cX4_moveLid 79 = .ok (.isub, 1) := by decide +kernel
theorem dX4_moveLid_80 : decode cX4_moveLid 80 = .ok (.invokevirtual 329, 3) := by decide +kernel
theorem dX4_moveLid_83 : decode cX4_moveLid 83 = .ok (.ireturn, 1) := by decide +kernel
theorem dX4_moveLid_84 : decode cX4_moveLid 84 = .ok (.aload_n 0, 1) := by decide +kernel
theorem dX4_moveLid_85 : decode cX4_moveLid 85 = .ok (.getfield 10, 3) := by decide +kernel
theorem dX4_moveLid_88 : decode cX4_moveLid 88 = .ok (.getfield 92, 3) := by decide +kernel
theorem dX4_moveLid_91 : decode cX4_moveLid 91 = .ok (.iload_n 1, 1) := by decide +kernel
theorem dX4_moveLid_92 : decode cX4_moveLid 92 = .ok (.iload_n 2, 1) := by decide +kernel
theorem dX4_moveLid_93 : decode cX4_moveLid 93 = .ok (.iastore, 1) := by decide +kernel
theorem dX4_moveLid_94 : decode cX4_moveLid 94 = .ok (.aload_n 0, 1) := by decide +kernel
theorem dX4_moveLid_95 : decode cX4_moveLid 95 = .ok (.getfield 10, 3) := by decide +kernel
theorem dX4_moveLid_98 : decode cX4_moveLid 98 = .ok (.invokevirtual 265, 3) := by decide +kernel
theorem dX4_moveLid_101 : decode cX4_moveLid 101 = .ok (.ireturn, 1) := by decide +kernel
theorem dX4_makeAppeal_0 : decode cX4_makeAppeal 0 = .ok (.iload_n 1, 1) := by decide +kernel
theorem dX4_makeAppeal_1 : decode cX4_makeAppeal 1 = .ok (.invokestatic 180, 3) := by decide +kernel
theorem dX4_makeAppeal_4 : decode cX4_makeAppeal 4 = .ok (.ifCond .eq 11, 3) := by decide +kernel
theorem dX4_makeAppeal_7 : decode cX4_makeAppeal 7 = .ok (.aload_n 0, 1) := by decide +kernel
theorem dX4_makeAppeal_8 : decode cX4_makeAppeal 8 = .ok (.iload_n 2, 1) := by decide +kernel
theorem dX4_makeAppeal_9 : decode cX4_makeAppeal 9 = .ok (.invokevirtual 77, 3) := by decide +kernel
theorem dX4_makeAppeal_12 : decode cX4_makeAppeal 12 = .ok (.ifCond .ne 7, 3) := by decide +kernel
theorem dX4_makeAppeal_15 : decode cX4_makeAppeal 15 = .ok (.sipush (-1011), 3) := by decide +kernel
theorem dX4_makeAppeal_18 : decode cX4_makeAppeal 18 = .ok (.ireturn, 1) := by decide +kernel
theorem dX4_makeAppeal_19 : decode cX4_makeAppeal 19 = .ok (.aload_n 0, 1) := by decide +kernel
theorem dX4_makeAppeal_20 : decode cX4_makeAppeal 20 = .ok (.getfield 10, 3) := by decide +kernel
theorem dX4_makeAppeal_23 : decode cX4_makeAppeal 23 = .ok (.getfield 80, 3) := by decide +kernel
theorem dX4_makeAppeal_26 : decode cX4_makeAppeal 26 = .ok (.iload_n 2, 1) := by decide +kernel
theorem dX4_makeAppeal_27 : decode cX4_makeAppeal 27 = .ok (.iaload, 1) := by decide +kernel
theorem dX4_makeAppeal_28 : decode cX4_makeAppeal 28 = .ok (.iload_n 1, 1) := by decide +kernel
theorem dX4_makeAppeal_29 : decode cX4_makeAppeal 29 = .ok (.if_icmp .ne 11, 3) := by decide +kernel
theorem dX4_makeAppeal_32 : decode cX4_makeAppeal 32 = .ok (.aload_n 0, 1) := by decide +kernel
theorem dX4_makeAppeal_33 : decode cX4_makeAppeal 33 = .ok (.bipush 13, 2) := by decide +kernel
theorem dX4_makeAppeal_35 : decode cX4_makeAppeal 35 = .ok (.iload_n 1, 1) := by decide +kernel
theorem dX4_makeAppeal_36 : decode cX4_makeAppeal 36 = .ok (.invokevirtual 329, 3) := by decide +kernel
theorem dX4_makeAppeal_39 : decode cX4_makeAppeal 39 = .ok (.ireturn, 1) := by decide +kernel
theorem dX4_makeAppeal_40 : decode cX4_makeAppeal 40 = .ok (.aload_n 0, 1) := by decide +kernel
theorem dX4_makeAppeal_41 : decode cX4_makeAppeal 41 = .ok (.getfield 10, 3) := by decide +kernel
theorem dX4_makeAppeal_44 : decode cX4_makeAppeal 44 = .ok (.getfield 92, 3) := by decide +kernel
theorem dX4_makeAppeal_47 : decode cX4_makeAppeal 47 = .ok (.iload_n 2, 1) := by decide +kernel
theorem dX4_makeAppeal_48 : decode cX4_makeAppeal 48 = .ok (.iaload, 1) := by decide +kernel
theorem dX4_makeAppeal_49 : decode cX4_makeAppeal 49 = .ok (.ifCond .ne 17, 3) := by decide +kernel
theorem dX4_makeAppeal_52 : decode cX4_makeAppeal 52 = .ok (.aload_n 0, 1) := by decide +kernel
theorem dX4_makeAppeal_53 : decode cX4_makeAppeal 53 = .ok (.bipush 15, 2) := by decide +kernel
theorem dX4_makeAppeal_55 : decode cX4_makeAppeal 55 = .ok (.aload_n 0, 1) := by decide +kernel
theorem dX4_makeAppeal_56 : decode cX4_makeAppeal 56 = .ok (.getfield 10, 3) := by decide +kernel
theorem dX4_makeAppeal_59 : decode cX4_makeAppeal 59 = .ok (.invokevirtual 265, 3) := by decide +kernel
theorem dX4_makeAppeal_62 : decode cX4_makeAppeal 62 = .ok (.invokevirtual 329, 3) := by decide +kernel
theorem dX4_makeAppeal_65 : decode cX4_makeAppeal 65 = .ok (.ireturn, 1) := by decide +kernel
theorem dX4_makeAppeal_66 : decode cX4_makeAppeal 66 = .ok (.aload_n 0, 1) := by decide +kernel
theorem dX4_makeAppeal_67 : decode cX4_makeAppeal 67 = .ok (.getfield 10, 3) := by decide +kernel
theorem dX4_makeAppeal_70 : decode cX4_makeAppeal 70 = .ok (.getfield 107, 3) := by decide +kernel
theorem dX4_makeAppeal_73 : decode cX4_makeAppeal 73 = .ok (.iload_n 2, 1) := by decide +kernel
theorem dX4_makeAppeal_74 : decode cX4_makeAppeal 74 = .ok (.iaload, 1) := by decide +kernel
theorem dX4_makeAppeal_75 : decode cX4_makeAppeal 75 = .ok (.iload_n 1, 1) := by decide +kernel
theorem dX4_makeAppeal_76 : decode cX4_makeAppeal 76 = .ok (.invokestatic 150, 3) := by decide +kernel
theorem dX4_makeAppeal_79 : decode cX4_makeAppeal 79 = .ok (.ifCond .eq 22, 3) := by decide +kernel
theorem dX4_makeAppeal_82 : decode cX4_makeAppeal 82 = .ok (.aload_n 0, 1) := by decide +kernel
theorem dX4_makeAppeal_83 : decode cX4_makeAppeal 83 = .ok (.bipush 14, 2) := by decide +kernel
theorem dX4_makeAppeal_85 : decode cX4_makeAppeal 85 = .ok (.aload_n 0, 1) := by decide +kernel
theorem dX4_makeAppeal_86 : decode cX4_makeAppeal 86 = .ok (.getfield 10, 3) := by decide +kernel
theorem dX4_makeAppeal_89 : decode cX4_makeAppeal 89 = .ok (.getfield 107, 3) := by decide +kernel
theorem dX4_makeAppeal_92 : decode cX4_makeAppeal 92 = .ok (.iload_n 2, 1) := by decide +kernel
theorem dX4_makeAppeal_93 : decode cX4_makeAppeal 93 = .ok (.iaload, 1) := by decide +kernel
theorem dX4_makeAppeal_94 : decode cX4_makeAppeal 94 = .ok (.invokestatic 110, 3) := by decide +kernel
theorem dX4_makeAppeal_97 : decode cX4_makeAppeal 97 = .ok (.invokevirtual 329, 3) := by decide +kernel
theorem dX4_makeAppeal_100 : decode cX4_makeAppeal 100 = .ok (.ireturn, 1) := by decide +kernel
theorem dX4_makeAppeal_101 : decode cX4_makeAppeal 101 = .ok (.aload_n 0, 1) := by decide +kernel
theorem dX4_makeAppeal_102 : decode cX4_makeAppeal 102 = .ok (.getfield 10, 3) := by decide +kernel
theorem dX4_makeAppeal_105 : decode cX4_makeAppeal 105 = .ok (.getfield 198, 3) := by decide +kernel
theorem dX4_makeAppeal_108 : decode cX4_makeAppeal 108 = .ok (.iload_n 1, 1) := by decide +kernel
theorem dX4_makeAppeal_109 : decode cX4_makeAppeal 109 = .ok (.dup2, 1) := by decide +kernel
theorem dX4_makeAppeal_110 : decode cX4_makeAppeal 110 = .ok (.iaload, 1) := by decide +kernel
theorem dX4_makeAppeal_111 : decode cX4_makeAppeal 111 = .ok (.iconst 1, 1) := by decide +kernel
theorem dX4_makeAppeal_112 : decode cX4_makeAppeal 112 = .ok (.iadd, 1) := by decide +kernel
theorem dX4_makeAppeal_113 : decode cX4_makeAppeal 113 = .ok (.iastore, 1) := by decide +kernel
theorem dX4_makeAppeal_114 : decode cX4_makeAppeal 114 = .ok (.aload_n 0, 1) := by decide +kernel
theorem dX4_makeAppeal_115 : decode cX4_makeAppeal 115 = .ok (.getfield 10, 3) := by decide +kernel
theorem dX4_makeAppeal_118 : decode cX4_makeAppeal 118 = .ok (.getfield 107, 3) := by decide +kernel
theorem dX4_makeAppeal_121 : decode cX4_makeAppeal 121 = .ok (.iload_n 2, 1) := by decide +kernel
theorem dX4_makeAppeal_122 : decode cX4_makeAppeal 122 = .ok (.dup2, 1) := by decide +kernel
theorem dX4_makeAppeal_123 : decode cX4_makeAppeal 123 = .ok (.iaload, 1) := by decide +kernel
theorem dX4_makeAppeal_124 : decode cX4_makeAppeal 124 = .ok (.iconst 1, 1) := by decide +kernel
theorem dX4_makeAppeal_125 : decode cX4_makeAppeal 125 = .ok (.iload_n 1, 1) := by decide +kernel
theorem dX4_makeAppeal_126 : decode cX4_makeAppeal 126 = .ok (.ishl, 1) := by decide +kernel
theorem dX4_makeAppeal_127 : decode cX4_makeAppeal 127 = .ok (.ior, 1) := by decide +kernel
theorem dX4_makeAppeal_128 : decode cX4_makeAppeal 128 = .ok (.iastore, 1) := by decide +kernel
theorem dX4_makeAppeal_129 : decode cX4_makeAppeal 129 = .ok (.aload_n 0, 1) := by decide +kernel
theorem dX4_makeAppeal_130 : decode cX4_makeAppeal 130 = .ok (.getfield 10, 3) := by decide +kernel
theorem dX4_makeAppeal_133 : decode cX4_makeAppeal 133 = .ok (.getfield 107, 3) := by decide +kernel
theorem dX4_makeAppeal_136 : decode cX4_makeAppeal 136 = .ok (.iload_n 2, 1) := by decide +kernel
theorem dX4_makeAppeal_137 : decode cX4_makeAppeal 137 = .ok (.iaload, 1) := by decide +kernel
theorem dX4_makeAppeal_138 : decode cX4_makeAppeal 138 = .ok (.invokestatic 110, 3) := by decide +kernel
theorem dX4_makeAppeal_141 : decode cX4_makeAppeal 141 = .ok (.iconst 2, 1) := by decide +kernel
theorem dX4_makeAppeal_142 : decode cX4_makeAppeal 142 = .ok (.if_icmp .ge 5, 3) := by decide +kernel
theorem dX4_makeAppeal_145 : decode cX4_makeAppeal 145 = .ok (.iconst 0, 1) := by decide +kernel
theorem dX4_makeAppeal_146 : decode cX4_makeAppeal 146 = .ok (.ireturn, 1) := by decide +kernel
theorem dX4_makeAppeal_147 : decode cX4_makeAppeal 147 = .ok (.aload_n 0, 1) := by decide +kernel
theorem dX4_makeAppeal_148 : decode cX4_makeAppeal 148 = .ok (.getfield 10, 3) := by decide +kernel
theorem dX4_makeAppeal_151 : decode cX4_makeAppeal 151 = .ok (.iload_n 2, 1) := by decide +kernel
theorem dX4_makeAppeal_152 : decode cX4_makeAppeal 152 = .ok (.invokevirtual 344, 3) := by decide +kernel
theorem dX4_makeAppeal_155 : decode cX4_makeAppeal 155 = .ok (.iconst 1, 1) := by decide +kernel
theorem dX4_makeAppeal_156 : decode cX4_makeAppeal 156 = .ok (.ireturn, 1) := by decide +kernel
theorem dX4_passMinutes_0 : decode cX4_passMinutes 0 = .ok (.iload_n 1, 1) := by decide +kernel
theorem dX4_passMinutes_1 : decode cX4_passMinutes 1 = .ok (.iconst 1, 1) := by decide +kernel
theorem dX4_passMinutes_2 : decode cX4_passMinutes 2 = .ok (.if_icmp .lt 9, 3) := by decide +kernel
theorem dX4_passMinutes_5 : decode cX4_passMinutes 5 = .ok (.iload_n 1, 1) := by decide +kernel
theorem dX4_passMinutes_6 : decode cX4_passMinutes 6 = .ok (.bipush 9, 2) := by decide +kernel
theorem dX4_passMinutes_8 : decode cX4_passMinutes 8 = .ok (.if_icmp .le 7, 3) := by decide +kernel
theorem dX4_passMinutes_11 : decode cX4_passMinutes 11 = .ok (.sipush (-1012), 3) := by decide +kernel
theorem dX4_passMinutes_14 : decode cX4_passMinutes 14 = .ok (.ireturn, 1) := by decide +kernel
theorem dX4_passMinutes_15 : decode cX4_passMinutes 15 = .ok (.iconst 0, 1) := by decide +kernel
theorem dX4_passMinutes_16 : decode cX4_passMinutes 16 = .ok (.istore_n 2, 1) := by decide +kernel
theorem dX4_passMinutes_17 : decode cX4_passMinutes 17 = .ok (.iconst 0, 1) := by decide +kernel
theorem dX4_passMinutes_18 : decode cX4_passMinutes 18 = .ok (.istore_n 3, 1) := by decide +kernel
theorem dX4_passMinutes_19 : decode cX4_passMinutes 19 = .ok (.iload_n 3, 1) := by decide +kernel
theorem dX4_passMinutes_20 : decode cX4_passMinutes 20 = .ok (.iload_n 1, 1) := by decide +kernel
theorem dX4_passMinutes_21 : decode cX4_passMinutes 21 = .ok (.if_icmp .ge 39, 3) := by decide +kernel
theorem dX4_passMinutes_24 : decode cX4_passMinutes 24 = .ok (.iload_n 2, 1) := by decide +kernel
theorem dX4_passMinutes_25 : decode cX4_passMinutes 25 = .ok (.aload_n 0, 1) := by decide +kernel
theorem dX4_passMinutes_26 : decode cX4_passMinutes 26 = .ok (.getfield 10, 3) := by decide +kernel
theorem dX4_passMinutes_29 : decode cX4_passMinutes 29 = .ok (.invokevirtual 347, 3) := by decide +kernel
theorem dX4_passMinutes_32 : decode cX4_passMinutes 32 = .ok (.iadd, 1) := by decide +kernel
theorem dX4_passMinutes_33 : decode cX4_passMinutes 33 = .ok (.istore_n 2, 1) := by decide +kernel
theorem dX4_passMinutes_34 : decode cX4_passMinutes 34 = .ok (.aload_n 0, 1) := by decide +kernel
theorem dX4_passMinutes_35 : decode cX4_passMinutes 35 = .ok (.getfield 10, 3) := by decide +kernel
theorem dX4_passMinutes_38 : decode cX4_passMinutes 38 = .ok (.getfield 271, 3) := by decide +kernel
theorem dX4_passMinutes_41 : decode cX4_passMinutes 41 = .ok (.bipush 6, 2) := by decide +kernel
theorem dX4_passMinutes_43 : decode cX4_passMinutes 43 = .ok (.irem, 1) := by decide +kernel
theorem dX4_passMinutes_44 : decode cX4_passMinutes 44 = .ok (.ifCond .ne 10, 3) := by decide +kernel
theorem dX4_passMinutes_47 : decode cX4_passMinutes 47 = .ok (.aload_n 0, 1) := by decide +kernel
theorem dX4_passMinutes_48 : decode cX4_passMinutes 48 = .ok (.getfield 10, 3) := by decide +kernel
theorem dX4_passMinutes_51 : decode cX4_passMinutes 51 = .ok (.invokevirtual 350, 3) := by decide +kernel
theorem dX4_passMinutes_54 : decode cX4_passMinutes 54 = .ok (.iinc 3 1, 3) := by decide +kernel
theorem dX4_passMinutes_57 : decode cX4_passMinutes 57 = .ok (.goto (-38), 3) := by decide +kernel
theorem dX4_passMinutes_60 : decode cX4_passMinutes 60 = .ok (.iload_n 2, 1) := by decide +kernel
theorem dX4_passMinutes_61 : decode cX4_passMinutes 61 = .ok (.ireturn, 1) := by decide +kernel
theorem dX4_refuse_0 : decode cX4_refuse 0 = .ok (.aload_n 0, 1) := by decide +kernel
theorem dX4_refuse_1 : decode cX4_refuse 1 = .ok (.getfield 29, 3) := by decide +kernel
theorem dX4_refuse_4 : decode cX4_refuse 4 = .ok (.iconst 0, 1) := by decide +kernel
theorem dX4_refuse_5 : decode cX4_refuse 5 = .ok (.putfield 252, 3) := by decide +kernel
theorem dX4_refuse_8 : decode cX4_refuse 8 = .ok (.aload_n 0, 1) := by decide +kernel
theorem dX4_refuse_9 : decode cX4_refuse 9 = .ok (.getfield 29, 3) := by decide +kernel
theorem dX4_refuse_12 : decode cX4_refuse 12 = .ok (.iload_n 1, 1) := by decide +kernel
theorem dX4_refuse_13 : decode cX4_refuse 13 = .ok (.iload_n 2, 1) := by decide +kernel
theorem dX4_refuse_14 : decode cX4_refuse 14 = .ok (.invokevirtual 359, 3) := by decide +kernel
theorem dX4_refuse_17 : decode cX4_refuse 17 = .ok (.sipush (-1014), 3) := by decide +kernel
theorem dX4_refuse_20 : decode cX4_refuse 20 = .ok (.ireturn, 1) := by decide +kernel
theorem dX4_refuseStove_0 : decode cX4_refuseStove 0 = .ok (.aload_n 0, 1) := by decide +kernel
theorem dX4_refuseStove_1 : decode cX4_refuseStove 1 = .ok (.iload_n 2, 1) := by decide +kernel
theorem dX4_refuseStove_2 : decode cX4_refuseStove 2 = .ok (.iload_n 3, 1) := by decide +kernel
theorem dX4_refuseStove_3 : decode cX4_refuseStove 3 = .ok (.invokevirtual 329, 3) := by decide +kernel
theorem dX4_refuseStove_6 : decode cX4_refuseStove 6 = .ok (.pop, 1) := by decide +kernel
theorem dX4_refuseStove_7 : decode cX4_refuseStove 7 = .ok (.aload_n 0, 1) := by decide +kernel
theorem dX4_refuseStove_8 : decode cX4_refuseStove 8 = .ok (.getfield 29, 3) := by decide +kernel
theorem dX4_refuseStove_11 : decode cX4_refuseStove 11 = .ok (.iconst 4, 1) := by decide +kernel
theorem dX4_refuseStove_12 : decode cX4_refuseStove 12 = .ok (.iload_n 1, 1) := by decide +kernel
theorem dX4_refuseStove_13 : decode cX4_refuseStove 13 = .ok (.invokevirtual 359, 3) := by decide +kernel
theorem dX4_refuseStove_16 : decode cX4_refuseStove 16 = .ok (.sipush (-1014), 3) := by decide +kernel
theorem dX4_refuseStove_19 : decode cX4_refuseStove 19 = .ok (.ireturn, 1) := by decide +kernel
theorem dX4_tellSigns_0 : decode cX4_tellSigns 0 = .ok (.aload_n 0, 1) := by decide +kernel
theorem dX4_tellSigns_1 : decode cX4_tellSigns 1 = .ok (.getfield 10, 3) := by decide +kernel
theorem dX4_tellSigns_4 : decode cX4_tellSigns 4 = .ok (.getfield 92, 3) := by decide +kernel
theorem dX4_tellSigns_7 : decode cX4_tellSigns 7 = .ok (.iload_n 1, 1) := by decide +kernel
theorem dX4_tellSigns_8 : decode cX4_tellSigns 8 = .ok (.iaload, 1) := by decide +kernel
theorem dX4_tellSigns_9 : decode cX4_tellSigns 9 = .ok (.ifCond .ne 13, 3) := by decide +kernel
theorem dX4_tellSigns_12 : decode cX4_tellSigns 12 = .ok (.aload_n 0, 1) := by decide +kernel
theorem dX4_tellSigns_13 : decode cX4_tellSigns 13 = .ok (.getfield 43, 3) := by decide +kernel
theorem dX4_tellSigns_16 : decode cX4_tellSigns 16 = .ok (.bipush 95, 2) := by decide +kernel
theorem dX4_tellSigns_18 : decode cX4_tellSigns 18 = .ok (.invokevirtual 240, 3) := by decide +kernel
theorem dX4_tellSigns_21 : decode cX4_tellSigns 21 = .ok (.pop, 1) := by decide +kernel
theorem dX4_tellSigns_22 : decode cX4_tellSigns 22 = .ok (.aload_n 0, 1) := by decide +kernel
theorem dX4_tellSigns_23 : decode cX4_tellSigns 23 = .ok (.getfield 10, 3) := by decide +kernel
theorem dX4_tellSigns_26 : decode cX4_tellSigns 26 = .ok (.getfield 341, 3) := by decide +kernel
theorem dX4_tellSigns_29 : decode cX4_tellSigns 29 = .ok (.iload_n 1, 1) := by decide +kernel
theorem dX4_tellSigns_30 : decode cX4_tellSigns 30 = .ok (.iaload, 1) := by decide +kernel
theorem dX4_tellSigns_31 : decode cX4_tellSigns 31 = .ok (.iconst 1, 1) := by decide +kernel
theorem dX4_tellSigns_32 : decode cX4_tellSigns 32 = .ok (.if_icmp .ne 13, 3) := by decide +kernel
theorem dX4_tellSigns_35 : decode cX4_tellSigns 35 = .ok (.aload_n 0, 1) := by decide +kernel
theorem dX4_tellSigns_36 : decode cX4_tellSigns 36 = .ok (.getfield 43, 3) := by decide +kernel
theorem dX4_tellSigns_39 : decode cX4_tellSigns 39 = .ok (.bipush 35, 2) := by decide +kernel
theorem dX4_tellSigns_41 : decode cX4_tellSigns 41 = .ok (.invokevirtual 240, 3) := by decide +kernel
theorem dX4_tellSigns_44 : decode cX4_tellSigns 44 = .ok (.pop, 1) := by decide +kernel
theorem dX4_tellSigns_45 : decode cX4_tellSigns 45 = .ok (.aload_n 0, 1) := by decide +kernel
theorem dX4_tellSigns_46 : decode cX4_tellSigns 46 = .ok (.getfield 10, 3) := by decide +kernel
theorem dX4_tellSigns_49 : decode cX4_tellSigns 49 = .ok (.getfield 95, 3) := by decide +kernel
theorem dX4_tellSigns_52 : decode cX4_tellSigns 52 = .ok (.iload_n 1, 1) := by decide +kernel
theorem dX4_tellSigns_53 : decode cX4_tellSigns 53 = .ok (.iaload, 1) := by decide +kernel
theorem dX4_tellSigns_54 : decode cX4_tellSigns 54 = .ok (.iconst (-1), 1) := by decide +kernel
theorem dX4_tellSigns_55 : decode cX4_tellSigns 55 = .ok (.if_icmp .eq 25, 3) := by decide +kernel
theorem dX4_tellSigns_58 : decode cX4_tellSigns 58 = .ok (.aload_n 0, 1) := by decide +kernel
theorem dX4_tellSigns_59 : decode cX4_tellSigns 59 = .ok (.getfield 43, 3) := by decide +kernel
theorem dX4_tellSigns_62 : decode cX4_tellSigns 62 = .ok (.bipush 64, 2) := by decide +kernel
theorem dX4_tellSigns_64 : decode cX4_tellSigns 64 = .ok (.invokevirtual 240, 3) := by decide +kernel
theorem dX4_tellSigns_67 : decode cX4_tellSigns 67 = .ok (.aload_n 0, 1) := by decide +kernel
theorem dX4_tellSigns_68 : decode cX4_tellSigns 68 = .ok (.getfield 10, 3) := by decide +kernel
theorem dX4_tellSigns_71 : decode cX4_tellSigns 71 = .ok (.getfield 95, 3) := by decide +kernel
theorem dX4_tellSigns_74 : decode cX4_tellSigns 74 = .ok (.iload_n 1, 1) := by decide +kernel
theorem dX4_tellSigns_75 : decode cX4_tellSigns 75 = .ok (.iaload, 1) := by decide +kernel
theorem dX4_tellSigns_76 : decode cX4_tellSigns 76 = .ok (.invokevirtual 236, 3) := by decide +kernel
theorem dX4_tellSigns_79 : decode cX4_tellSigns 79 = .ok (.pop, 1) := by decide +kernel
theorem dX4_tellSigns_80 : decode cX4_tellSigns 80 = .ok (.aload_n 0, 1) := by decide +kernel
theorem dX4_tellSigns_81 : decode cX4_tellSigns 81 = .ok (.getfield 10, 3) := by decide +kernel
theorem dX4_tellSigns_84 : decode cX4_tellSigns 84 = .ok (.iload_n 1, 1) := by decide +kernel
theorem dX4_tellSigns_85 : decode cX4_tellSigns 85 = .ok (.invokevirtual 101, 3) := by decide +kernel
theorem dX4_tellSigns_88 : decode cX4_tellSigns 88 = .ok (.ifCond .eq 13, 3) := by decide +kernel
theorem dX4_tellSigns_91 : decode cX4_tellSigns 91 = .ok (.aload_n 0, 1) := by decide +kernel
theorem dX4_tellSigns_92 : decode cX4_tellSigns 92 = .ok (.getfield 43, 3) := by decide +kernel
theorem dX4_tellSigns_95 : decode cX4_tellSigns 95 = .ok (.bipush 33, 2) := by decide +kernel
theorem dX4_tellSigns_97 : decode cX4_tellSigns 97 = .ok (.invokevirtual 240, 3) := by decide +kernel
theorem dX4_tellSigns_100 : decode cX4_tellSigns 100 = .ok (.pop, 1) := by decide +kernel
theorem dX4_tellSigns_101 : decode cX4_tellSigns 101 = .ok (.aload_n 0, 1) := by decide +kernel
theorem dX4_tellSigns_102 : decode cX4_tellSigns 102 = .ok (.getfield 10, 3) := by decide +kernel
theorem dX4_tellSigns_105 : decode cX4_tellSigns 105 = .ok (.getfield 104, 3) := by decide +kernel
theorem dX4_tellSigns_108 : decode cX4_tellSigns 108 = .ok (.iload_n 1, 1) := by decide +kernel
theorem dX4_tellSigns_109 : decode cX4_tellSigns 109 = .ok (.iaload, 1) := by decide +kernel
theorem dX4_tellSigns_110 : decode cX4_tellSigns 110 = .ok (.ifCond .le 25, 3) := by decide +kernel
theorem dX4_tellSigns_113 : decode cX4_tellSigns 113 = .ok (.aload_n 0, 1) := by decide +kernel
theorem dX4_tellSigns_114 : decode cX4_tellSigns 114 = .ok (.getfield 43, 3) := by decide +kernel
theorem dX4_tellSigns_117 : decode cX4_tellSigns 117 = .ok (.bipush 120, 2) := by decide +kernel
theorem dX4_tellSigns_119 : decode cX4_tellSigns 119 = .ok (.invokevirtual 240, 3) := by decide +kernel
theorem dX4_tellSigns_122 : decode cX4_tellSigns 122 = .ok (.aload_n 0, 1) := by decide +kernel
theorem dX4_tellSigns_123 : decode cX4_tellSigns 123 = .ok (.getfield 10, 3) := by decide +kernel
theorem dX4_tellSigns_126 : decode cX4_tellSigns 126 = .ok (.getfield 104, 3) := by decide +kernel
theorem dX4_tellSigns_129 : decode cX4_tellSigns 129 = .ok (.iload_n 1, 1) := by decide +kernel
theorem dX4_tellSigns_130 : decode cX4_tellSigns 130 = .ok (.iaload, 1) := by decide +kernel
theorem dX4_tellSigns_131 : decode cX4_tellSigns 131 = .ok (.invokevirtual 236, 3) := by decide +kernel
theorem dX4_tellSigns_134 : decode cX4_tellSigns 134 = .ok (.pop, 1) := by decide +kernel
theorem dX4_tellSigns_135 : decode cX4_tellSigns 135 = .ok (.return_, 1) := by decide +kernel
end
section
theorem dX0_init_0 : decode cX0_init 0 = .ok (.aload_n 0, 1) := by decide +kernel
theorem dX0_init_1 : decode cX0_init 1 = .ok (.invokespecial 3, 3) := by decide +kernel
theorem dX0_init_4 : decode cX0_init 4 = .ok (.aload_n 0, 1) := by decide +kernel
theorem dX0_init_5 : decode cX0_init 5 = .ok (.bipush 9, 2) := by decide +kernel
theorem dX0_init_7 : decode cX0_init 7 = .ok (.anewarray 9, 3) := by decide +kernel
theorem dX0_init_10 : decode cX0_init 10 = .ok (.putfield 11, 3) := by decide +kernel
theorem dX0_init_13 : decode cX0_init 13 = .ok (.iconst 0, 1) := by decide +kernel
theorem dX0_init_14 : decode cX0_init 14 = .ok (.istore_n 1, 1) := by decide +kernel
theorem dX0_init_15 : decode cX0_init 15 = .ok (.iload_n 1, 1) := by decide +kernel
theorem dX0_init_16 : decode cX0_init 16 = .ok (.aload_n 0, 1) := by decide +kernel
theorem dX0_init_17 : decode cX0_init 17 = .ok (.getfield 11, 3) := by decide +kernel
theorem dX0_init_20 : decode cX0_init 20 = .ok (.arraylength, 1) := by decide +kernel
theorem dX0_init_21 : decode cX0_init 21 = .ok (.if_icmp .ge 22, 3) := by decide +kernel
theorem dX0_init_24 : decode cX0_init 24 = .ok (.aload_n 0, 1) := by decide +kernel
theorem dX0_init_25 : decode cX0_init 25 = .ok (.getfield 11, 3) := by decide +kernel
theorem dX0_init_28 : decode cX0_init 28 = .ok (.iload_n 1, 1) := by decide +kernel
theorem dX0_init_29 : decode cX0_init 29 = .ok (.new 9, 3) := by decide +kernel
theorem dX0_init_32 : decode cX0_init 32 = .ok (.dup, 1) := by decide +kernel
theorem dX0_init_33 : decode cX0_init 33 = .ok (.invokespecial 17, 3) := by decide +kernel
theorem dX0_init_36 : decode cX0_init 36 = .ok (.aastore, 1) := by decide +kernel
theorem dX0_init_37 : decode cX0_init 37 = .ok (.iinc 1 1, 3) := by decide +kernel
theorem dX0_init_40 : decode cX0_init 40 = .ok (.goto (-25), 3) := by decide +kernel
theorem dX0_init_43 : decode cX0_init 43 = .ok (.return_, 1) := by decide +kernel
theorem dX0_begin_0 : decode cX0_begin 0 = .ok (.aload_n 0, 1) := by decide +kernel
theorem dX0_begin_1 : decode cX0_begin 1 = .ok (.getfield 11, 3) := by decide +kernel
theorem dX0_begin_4 : decode cX0_begin 4 = .ok (.aload_n 0, 1) := by decide +kernel
theorem dX0_begin_5 : decode cX0_begin 5 = .ok (.getfield 18, 3) := by decide +kernel
theorem dX0_begin_8 : decode cX0_begin 8 = .ok (.aaload, 1) := by decide +kernel
theorem dX0_begin_9 : decode cX0_begin 9 = .ok (.aload_n 1, 1) := by decide +kernel
theorem dX0_begin_10 : decode cX0_begin 10 = .ok (.invokevirtual 22, 3) := by decide +kernel
theorem dX0_begin_13 : decode cX0_begin 13 = .ok (.return_, 1) := by decide +kernel
theorem dX0_keepBegun_0 : decode cX0_keepBegun 0 = .ok (.aload_n 0, 1) := by decide +kernel
theorem dX0_keepBegun_1 : decode cX0_keepBegun 1 = .ok (.aload_n 0, 1) := by decide +kernel
theorem dX0_keepBegun_2 : decode cX0_keepBegun 2 = .ok (.getfield 18, 3) := by decide +kernel
theorem dX0_keepBegun_5 : decode cX0_keepBegun 5 = .ok (.iconst 1, 1) := by decide +kernel
theorem dX0_keepBegun_6 : decode cX0_keepBegun 6 = .ok (.iadd, 1) := by decide +kernel
theorem dX0_keepBegun_7 : decode cX0_keepBegun 7 = .ok (.bipush 9, 2) := by decide +kernel
theorem dX0_keepBegun_9 : decode cX0_keepBegun 9 = .ok (.irem, 1) := by decide +kernel
theorem dX0_keepBegun_10 : decode cX0_keepBegun 10 = .ok (.putfield 18, 3) := by decide +kernel
theorem dX0_keepBegun_13 : decode cX0_keepBegun 13 = .ok (.aload_n 0, 1) := by decide +kernel
theorem dX0_keepBegun_14 : decode cX0_keepBegun 14 = .ok (.bipush 8, 2) := by decide +kernel
theorem dX0_keepBegun_16 : decode cX0_keepBegun 16 = .ok (.aload_n 0, 1) := by decide +kernel
theorem dX0_keepBegun_17 : decode cX0_keepBegun 17 = .ok (.getfield 26, 3) := by decide +kernel
theorem dX0_keepBegun_20 : decode cX0_keepBegun 20 = .ok (.iconst 1, 1) := by decide +kernel
theorem dX0_keepBegun_21 : decode cX0_keepBegun 21 = .ok (.iadd, 1) := by decide +kernel
theorem dX0_keepBegun_22 : decode cX0_keepBegun 22 = .ok (.invokestatic 29, 3) := by decide +kernel
theorem dX0_keepBegun_25 : decode cX0_keepBegun 25 = .ok (.putfield 26, 3) := by decide +kernel
theorem dX0_keepBegun_28 : decode cX0_keepBegun 28 = .ok (.return_, 1) := by decide +kernel
theorem dX1_init_0 : decode cX1_init 0 = .ok (.aload_n 0, 1) := by decide +kernel
theorem dX1_init_1 : decode cX1_init 1 = .ok (.invokespecial 3, 3) := by decide +kernel
theorem dX1_init_4 : decode cX1_init 4 = .ok (.aload_n 0, 1) := by decide +kernel
theorem dX1_init_5 : decode cX1_init 5 = .ok (.bipush 60, 2) := by decide +kernel
theorem dX1_init_7 : decode cX1_init 7 = .ok (.newarray .char, 2) := by decide +kernel
theorem dX1_init_9 : decode cX1_init 9 = .ok (.putfield 9, 3) := by decide +kernel
theorem dX1_init_12 : decode cX1_init 12 = .ok (.aload_n 0, 1) := by decide +kernel
theorem dX1_init_13 : decode cX1_init 13 = .ok (.bipush 11, 2) := by decide +kernel
theorem dX1_init_15 : decode cX1_init 15 = .ok (.newarray .int, 2) := by decide +kernel
theorem dX1_init_17 : decode cX1_init 17 = .ok (.putfield 15, 3) := by decide +kernel
theorem dX1_init_20 : decode cX1_init 20 = .ok (.aload_n 0, 1) := by decide +kernel
theorem dX1_init_21 : decode cX1_init 21 = .ok (.bipush 33, 2) := by decide +kernel
theorem dX1_init_23 : decode cX1_init 23 = .ok (.newarray .int, 2) := by decide +kernel
theorem dX1_init_25 : decode cX1_init 25 = .ok (.putfield 19, 3) := by decide +kernel
theorem dX1_init_28 : decode cX1_init 28 = .ok (.return_, 1) := by decide +kernel
theorem dX2_init_0 : decode cX2_init 0 = .ok (.aload_n 0, 1) := by decide +kernel
theorem dX2_init_1 : decode cX2_init 1 = .ok (.invokespecial 3, 3) := by decide +kernel
theorem dX2_init_4 : decode cX2_init 4 = .ok (.aload_n 0, 1) := by decide +kernel
theorem dX2_init_5 : decode cX2_init 5 = .ok (.iconst 3, 1) := by decide +kernel
theorem dX2_init_6 : decode cX2_init 6 = .ok (.newarray .int, 2) := by decide +kernel
theorem dX2_init_8 : decode cX2_init 8 = .ok (.putfield 9, 3) := by decide +kernel
theorem dX2_init_11 : decode cX2_init 11 = .ok (.aload_n 0, 1) := by decide +kernel
theorem dX2_init_12 : decode cX2_init 12 = .ok (.iconst 3, 1) := by decide +kernel
theorem dX2_init_13 : decode cX2_init 13 = .ok (.newarray .int, 2) := by decide +kernel
theorem dX2_init_15 : decode cX2_init 15 = .ok (.putfield 15, 3) := by decide +kernel
theorem dX2_init_18 : decode cX2_init 18 = .ok (.return_, 1) := by decide +kernel
theorem dX2_putAhead_0 : decode cX2_putAhead 0 = .ok (.iconst 2, 1) := by decide +kernel
theorem dX2_putAhead_1 : decode cX2_putAhead 1 = .ok (.istore_n 3, 1) := by decide +kernel
theorem dX2_putAhead_2 : decode cX2_putAhead 2 = .ok (.iload_n 3, 1) := by decide +kernel
theorem dX2_putAhead_3 : decode cX2_putAhead 3 = .ok (.ifCond .le 37, 3) := by decide +kernel
theorem dX2_putAhead_6 : decode cX2_putAhead 6 = .ok (.aload_n 0, 1) := by decide +kernel
theorem dX2_putAhead_7 : decode cX2_putAhead 7 = .ok (.getfield 9, 3) := by decide +kernel
theorem dX2_putAhead_10 : decode cX2_putAhead 10 = .ok (.iload_n 3, 1) := by decide +kernel
theorem dX2_putAhead_11 : decode cX2_putAhead 11 = .ok (.aload_n 0, 1) := by decide +kernel
theorem dX2_putAhead_12 : decode cX2_putAhead 12 = .ok (.getfield 9, 3) := by decide +kernel
theorem dX2_putAhead_15 : decode cX2_putAhead 15 = .ok (.iload_n 3, 1) := by decide +kernel
theorem dX2_putAhead_16 : decode cX2_putAhead 16 = .ok (.iconst 1, 1) := by decide +kernel
theorem dX2_putAhead_17 : decode cX2_putAhead 17 = .ok (.isub, 1) := by decide +kernel
theorem dX2_putAhead_18 : decode cX2_putAhead 18 = .ok (.iaload, 1) := by decide +kernel
theorem dX2_putAhead_19 : decode cX2_putAhead 19 = .ok (.iastore, 1) := by decide +kernel
theorem dX2_putAhead_20 : decode cX2_putAhead 20 = .ok (.aload_n 0, 1) := by decide +kernel
theorem dX2_putAhead_21 : decode cX2_putAhead 21 = .ok (.getfield 15, 3) := by decide +kernel
theorem dX2_putAhead_24 : decode cX2_putAhead 24 = .ok (.iload_n 3, 1) := by decide +kernel
theorem dX2_putAhead_25 : decode cX2_putAhead 25 = .ok (.aload_n 0, 1) := by decide +kernel
theorem dX2_putAhead_26 : decode cX2_putAhead 26 = .ok (.getfield 15, 3) := by decide +kernel
theorem dX2_putAhead_29 : decode cX2_putAhead 29 = .ok (.iload_n 3, 1) := by decide +kernel
theorem dX2_putAhead_30 : decode cX2_putAhead 30 = .ok (.iconst 1, 1) := by decide +kernel
theorem dX2_putAhead_31 : decode cX2_putAhead 31 = .ok (.isub, 1) := by decide +kernel
theorem dX2_putAhead_32 : decode cX2_putAhead 32 = .ok (.iaload, 1) := by decide +kernel
theorem dX2_putAhead_33 : decode cX2_putAhead 33 = .ok (.iastore, 1) := by decide +kernel
theorem dX2_putAhead_34 : decode cX2_putAhead 34 = .ok (.iinc 3 (-1), 3) := by decide +kernel
theorem dX2_putAhead_37 : decode cX2_putAhead 37 = .ok (.goto (-35), 3) := by decide +kernel
theorem dX2_putAhead_40 : decode cX2_putAhead 40 = .ok (.aload_n 0, 1) := by decide +kernel
theorem dX2_putAhead_41 : decode cX2_putAhead 41 = .ok (.getfield 9, 3) := by decide +kernel
theorem dX2_putAhead_44 : decode cX2_putAhead 44 = .ok (.iconst 0, 1) := by decide +kernel
theorem dX2_putAhead_45 : decode cX2_putAhead 45 = .ok (.iload_n 1, 1) := by decide +kernel
theorem dX2_putAhead_46 : decode cX2_putAhead 46 = .ok (.iastore, 1) := by decide +kernel
theorem dX2_putAhead_47 : decode cX2_putAhead 47 = .ok (.aload_n 0, 1) := by decide +kernel
theorem dX2_putAhead_48 : decode cX2_putAhead 48 = .ok (.getfield 15, 3) := by decide +kernel
theorem dX2_putAhead_51 : decode cX2_putAhead 51 = .ok (.iconst 0, 1) := by decide +kernel
theorem dX2_putAhead_52 : decode cX2_putAhead 52 = .ok (.iload_n 2, 1) := by decide +kernel
theorem dX2_putAhead_53 : decode cX2_putAhead 53 = .ok (.iastore, 1) := by decide +kernel
theorem dX2_putAhead_54 : decode cX2_putAhead 54 = .ok (.aload_n 0, 1) := by decide +kernel
theorem dX2_putAhead_55 : decode cX2_putAhead 55 = .ok (.iconst 3, 1) := by decide +kernel
theorem dX2_putAhead_56 : decode cX2_putAhead 56 = .ok (.aload_n 0, 1) := by decide +kernel
theorem dX2_putAhead_57 : decode cX2_putAhead 57 = .ok (.getfield 18, 3) := by decide +kernel
theorem dX2_putAhead_60 : decode cX2_putAhead 60 = .ok (.iconst 1, 1) := by decide +kernel
theorem dX2_putAhead_61 : decode cX2_putAhead 61 = .ok (.iadd, 1) := by decide +kernel
theorem dX2_putAhead_62 : decode cX2_putAhead 62 = .ok (.invokestatic 22, 3) := by decide +kernel
theorem dX2_putAhead_65 : decode cX2_putAhead 65 = .ok (.putfield 18, 3) := by decide +kernel
theorem dX2_putAhead_68 : decode cX2_putAhead 68 = .ok (.return_, 1) := by decide +kernel
theorem dX3_init_0 : decode cX3_init 0 = .ok (.aload_n 0, 1) := by decide +kernel
theorem dX3_init_1 : decode cX3_init 1 = .ok (.invokespecial 3, 3) := by decide +kernel
theorem dX3_init_4 : decode cX3_init 4 = .ok (.aload_n 0, 1) := by decide +kernel
theorem dX3_init_5 : decode cX3_init 5 = .ok (.bipush 13, 2) := by decide +kernel
theorem dX3_init_7 : decode cX3_init 7 = .ok (.newarray .int, 2) := by decide +kernel
theorem dX3_init_9 : decode cX3_init 9 = .ok (.putfield 9, 3) := by decide +kernel
theorem dX3_init_12 : decode cX3_init 12 = .ok (.aload_n 0, 1) := by decide +kernel
theorem dX3_init_13 : decode cX3_init 13 = .ok (.iconst 4, 1) := by decide +kernel
theorem dX3_init_14 : decode cX3_init 14 = .ok (.newarray .int, 2) := by decide +kernel
theorem dX3_init_16 : decode cX3_init 16 = .ok (.putfield 15, 3) := by decide +kernel
theorem dX3_init_19 : decode cX3_init 19 = .ok (.aload_n 0, 1) := by decide +kernel
theorem dX3_init_20 : decode cX3_init 20 = .ok (.iconst 4, 1) := by decide +kernel
theorem dX3_init_21 : decode cX3_init 21 = .ok (.newarray .int, 2) := by decide +kernel
theorem dX3_init_23 : decode cX3_init 23 = .ok (.putfield 18, 3) := by decide +kernel
theorem dX3_init_26 : decode cX3_init 26 = .ok (.aload_n 0, 1) := by decide +kernel
theorem dX3_init_27 : decode cX3_init 27 = .ok (.iconst 4, 1) := by decide +kernel
theorem dX3_init_28 : decode cX3_init 28 = .ok (.newarray .int, 2) := by decide +kernel
theorem dX3_init_30 : decode cX3_init 30 = .ok (.putfield 21, 3) := by decide +kernel
theorem dX3_init_33 : decode cX3_init 33 = .ok (.aload_n 0, 1) := by decide +kernel
theorem dX3_init_34 : decode cX3_init 34 = .ok (.bipush 6, 2) := by decide +kernel
theorem dX3_init_36 : decode cX3_init 36 = .ok (.newarray .int, 2) := by decide +kernel
theorem dX3_init_38 : decode cX3_init 38 = .ok (.putfield 24, 3) := by decide +kernel
theorem dX3_init_41 : decode cX3_init 41 = .ok (.aload_n 0, 1) := by decide +kernel
theorem dX3_init_42 : decode cX3_init 42 = .ok (.bipush 10, 2) := by decide +kernel
theorem dX3_init_44 : decode cX3_init 44 = .ok (.newarray .int, 2) := by decide +kernel
theorem dX3_init_46 : decode cX3_init 46 = .ok (.putfield 27, 3) := by decide +kernel
theorem dX3_init_49 : decode cX3_init 49 = .ok (.aload_n 0, 1) := by decide +kernel
theorem dX3_init_50 : decode cX3_init 50 = .ok (.bipush 10, 2) := by decide +kernel
theorem dX3_init_52 : decode cX3_init 52 = .ok (.newarray .int, 2) := by decide +kernel
theorem dX3_init_54 : decode cX3_init 54 = .ok (.putfield 30, 3) := by decide +kernel
theorem dX3_init_57 : decode cX3_init 57 = .ok (.aload_n 0, 1) := by decide +kernel
theorem dX3_init_58 : decode cX3_init 58 = .ok (.bipush 10, 2) := by decide +kernel
theorem dX3_init_60 : decode cX3_init 60 = .ok (.newarray .int, 2) := by decide +kernel
theorem dX3_init_62 : decode cX3_init 62 = .ok (.putfield 33, 3) := by decide +kernel
theorem dX3_init_65 : decode cX3_init 65 = .ok (.aload_n 0, 1) := by decide +kernel
theorem dX3_init_66 : decode cX3_init 66 = .ok (.bipush 10, 2) := by decide +kernel
theorem dX3_init_68 : decode cX3_init 68 = .ok (.newarray .int, 2) := by decide +kernel
theorem dX3_init_70 : decode cX3_init 70 = .ok (.putfield 36, 3) := by decide +kernel
theorem dX3_init_73 : decode cX3_init 73 = .ok (.aload_n 0, 1) := by decide +kernel
theorem dX3_init_74 : decode cX3_init 74 = .ok (.bipush 10, 2) := by decide +kernel
theorem dX3_init_76 : decode cX3_init 76 = .ok (.newarray .int, 2) := by decide +kernel
theorem dX3_init_78 : decode cX3_init 78 = .ok (.putfield 39, 3) := by decide +kernel
theorem dX3_init_81 : decode cX3_init 81 = .ok (.aload_n 0, 1) := by decide +kernel
theorem dX3_init_82 : decode cX3_init 82 = .ok (.bipush 10, 2) := by decide +kernel
theorem dX3_init_84 : decode cX3_init 84 = .ok (.newarray .int, 2) := by decide +kernel
theorem dX3_init_86 : decode cX3_init 86 = .ok (.putfield 42, 3) := by decide +kernel
theorem dX3_init_89 : decode cX3_init 89 = .ok (.aload_n 0, 1) := by decide +kernel
theorem dX3_init_90 : decode cX3_init 90 = .ok (.bipush 10, 2) := by decide +kernel
theorem dX3_init_92 : decode cX3_init 92 = .ok (.newarray .int, 2) := by decide +kernel
theorem dX3_init_94 : decode cX3_init 94 = .ok (.putfield 45, 3) := by decide +kernel
theorem dX3_init_97 : decode cX3_init 97 = .ok (.aload_n 0, 1) := by decide +kernel
theorem dX3_init_98 : decode cX3_init 98 = .ok (.bipush 10, 2) := by decide +kernel
theorem dX3_init_100 : decode cX3_init 100 = .ok (.newarray .int, 2) := by decide +kernel
theorem dX3_init_102 : decode cX3_init 102 = .ok (.putfield 48, 3) := by decide +kernel
theorem dX3_init_105 : decode cX3_init 105 = .ok (.aload_n 0, 1) := by decide +kernel
theorem dX3_init_106 : decode cX3_init 106 = .ok (.bipush 10, 2) := by decide +kernel
theorem dX3_init_108 : decode cX3_init 108 = .ok (.newarray .int, 2) := by decide +kernel
theorem dX3_init_110 : decode cX3_init 110 = .ok (.putfield 51, 3) := by decide +kernel
theorem dX3_init_113 : decode cX3_init 113 = .ok (.aload_n 0, 1) := by decide +kernel
theorem dX3_init_114 : decode cX3_init 114 = .ok (.getfield 9, 3) := by decide +kernel
theorem dX3_init_117 : decode cX3_init 117 = .ok (.iconst (-1), 1) := by decide +kernel
theorem dX3_init_118 : decode cX3_init 118 = .ok (.invokestatic 54, 3) := by decide +kernel
theorem dX3_init_121 : decode cX3_init 121 = .ok (.return_, 1) := by decide +kernel
theorem dX3_copyFrom_0 : decode cX3_copyFrom 0 = .ok (.aload_n 1, 1) := by decide +kernel
theorem dX3_copyFrom_1 : decode cX3_copyFrom 1 = .ok (.getfield 9, 3) := by decide +kernel
theorem dX3_copyFrom_4 : decode cX3_copyFrom 4 = .ok (.aload_n 0, 1) := by decide +kernel
theorem dX3_copyFrom_5 : decode cX3_copyFrom 5 = .ok (.getfield 9, 3) := by decide +kernel
theorem dX3_copyFrom_8 : decode cX3_copyFrom 8 = .ok (.invokestatic 60, 3) := by decide +kernel
theorem dX3_copyFrom_11 : decode cX3_copyFrom 11 = .ok (.aload_n 1, 1) := by decide +kernel
theorem dX3_copyFrom_12 : decode cX3_copyFrom 12 = .ok (.getfield 15, 3) := by decide +kernel
theorem dX3_copyFrom_15 : decode cX3_copyFrom 15 = .ok (.aload_n 0, 1) := by decide +kernel
theorem dX3_copyFrom_16 : decode cX3_copyFrom 16 = .ok (.getfield 15, 3) := by decide +kernel
theorem dX3_copyFrom_19 : decode cX3_copyFrom 19 = .ok (.invokestatic 60, 3) := by decide +kernel
theorem dX3_copyFrom_22 : decode cX3_copyFrom 22 = .ok (.aload_n 1, 1) := by decide +kernel
theorem dX3_copyFrom_23 : decode cX3_copyFrom 23 = .ok (.getfield 18, 3) := by decide +kernel
theorem dX3_copyFrom_26 : decode cX3_copyFrom 26 = .ok (.aload_n 0, 1) := by decide +kernel
theorem dX3_copyFrom_27 : decode cX3_copyFrom 27 = .ok (.getfield 18, 3) := by decide +kernel
theorem dX3_copyFrom_30 : decode cX3_copyFrom 30 = .ok (.invokestatic 60, 3) := by decide +kernel
theorem dX3_copyFrom_33 : decode cX3_copyFrom 33 = .ok (.aload_n 1, 1) := by decide +kernel
theorem dX3_copyFrom_34 : decode cX3_copyFrom 34 = .ok (.getfield 21, 3) := by decide +kernel
theorem dX3_copyFrom_37 : decode cX3_copyFrom 37 = .ok (.aload_n 0, 1) := by decide +kernel
theorem dX3_copyFrom_38 : decode cX3_copyFrom 38 = .ok (.getfield 21, 3) := by decide +kernel
theorem dX3_copyFrom_41 : decode cX3_copyFrom 41 = .ok (.invokestatic 60, 3) := by decide +kernel
theorem dX3_copyFrom_44 : decode cX3_copyFrom 44 = .ok (.aload_n 1, 1) := by decide +kernel
theorem dX3_copyFrom_45 : decode cX3_copyFrom 45 = .ok (.getfield 24, 3) := by decide +kernel
theorem dX3_copyFrom_48 : decode cX3_copyFrom 48 = .ok (.aload_n 0, 1) := by decide +kernel
theorem dX3_copyFrom_49 : decode cX3_copyFrom 49 = .ok (.getfield 24, 3) := by decide +kernel
theorem dX3_copyFrom_52 : decode cX3_copyFrom 52 = .ok (.invokestatic 60, 3) := by decide +kernel
theorem dX3_copyFrom_55 : decode cX3_copyFrom 55 = .ok (.aload_n 1, 1) := by decide +kernel
theorem dX3_copyFrom_56 : decode cX3_copyFrom 56 = .ok (.getfield 27, 3) := by decide +kernel
theorem dX3_copyFrom_59 : decode cX3_copyFrom 59 = .ok (.aload_n 0, 1) := by decide +kernel
theorem dX3_copyFrom_60 : decode cX3_copyFrom 60 = .ok (.getfield 27, 3) := by decide +kernel
theorem dX3_copyFrom_63 : decode cX3_copyFrom 63 = .ok (.invokestatic 60, 3) := by decide +kernel
theorem dX3_copyFrom_66 : decode cX3_copyFrom 66 = .ok (.aload_n 1, 1) := by decide +kernel
theorem dX3_copyFrom_67 : decode cX3_copyFrom 67 = .ok (.getfield 30, 3) := by decide +kernel
theorem dX3_copyFrom_70 : decode cX3_copyFrom 70 = .ok (.aload_n 0, 1) := by decide +kernel
theorem dX3_copyFrom_71 : decode cX3_copyFrom 71 = .ok (.getfield 30, 3) := by decide +kernel
theorem dX3_copyFrom_74 : decode cX3_copyFrom 74 = .ok (.invokestatic 60, 3) := by decide +kernel
theorem dX3_copyFrom_77 : decode cX3_copyFrom 77 = .ok (.aload_n 1, 1) := by decide +kernel
theorem dX3_copyFrom_78 : decode cX3_copyFrom 78 = .ok (.getfield 33, 3) := by decide +kernel
theorem dX3_copyFrom_81 : decode cX3_copyFrom 81 = .ok (.aload_n 0, 1) := by decide +kernel
theorem dX3_copyFrom_82 : decode cX3_copyFrom 82 = .ok (.getfield 33, 3) := by decide +kernel
theorem dX3_copyFrom_85 : decode cX3_copyFrom 85 = .ok (.invokestatic 60, 3) := by decide +kernel
theorem dX3_copyFrom_88 : decode cX3_copyFrom 88 = .ok (.aload_n 1, 1) := by decide +kernel
theorem dX3_copyFrom_89 : decode cX3_copyFrom 89 = .ok (.getfield 36, 3) := by decide +kernel
theorem dX3_copyFrom_92 : decode cX3_copyFrom 92 = .ok (.aload_n 0, 1) := by decide +kernel
theorem dX3_copyFrom_93 : decode cX3_copyFrom 93 = .ok (.getfield 36, 3) := by decide +kernel
theorem dX3_copyFrom_96 : decode cX3_copyFrom 96 = .ok (.invokestatic 60, 3) := by decide +kernel
theorem dX3_copyFrom_99 : decode cX3_copyFrom 99 = .ok (.aload_n 1, 1) := by decide +kernel
theorem dX3_copyFrom_100 : decode cX3_copyFrom 100 = .ok (.getfield 39, 3) := by decide +kernel
theorem dX3_copyFrom_103 : decode cX3_copyFrom 103 = .ok (.aload_n 0, 1) := by decide +kernel
theorem dX3_copyFrom_104 : decode cX3_copyFrom 104 = .ok (.getfield 39, 3) := by decide +kernel
theorem dX3_copyFrom_107 : decode cX3_copyFrom 107 = .ok (.invokestatic 60, 3) := by decide +kernel
theorem dX3_copyFrom_110 : decode cX3_copyFrom 110 = .ok (.aload_n 1, 1) := by decide +kernel
theorem dX3_copyFrom_111 : decode cX3_copyFrom 111 = .ok (.getfield 42, 3) := by decide +kernel
theorem dX3_copyFrom_114 : decode cX3_copyFrom 114 = .ok (.aload_n 0, 1) := by decide +kernel
theorem dX3_copyFrom_115 : decode cX3_copyFrom 115 = .ok (.getfield 42, 3) := by decide +kernel
theorem dX3_copyFrom_118 : decode cX3_copyFrom 118 = .ok (.invokestatic 60, 3) := by decide +kernel
theorem dX3_copyFrom_121 : decode cX3_copyFrom 121 = .ok (.aload_n 1, 1) := by decide +kernel
theorem dX3_copyFrom_122 : decode cX3_copyFrom 122 = .ok (.getfield 45, 3) := by decide +kernel
theorem dX3_copyFrom_125 : decode cX3_copyFrom 125 = .ok (.aload_n 0, 1) := by decide +kernel
theorem dX3_copyFrom_126 : decode cX3_copyFrom 126 = .ok (.getfield 45, 3) := by decide +kernel
theorem dX3_copyFrom_129 : decode cX3_copyFrom 129 = .ok (.invokestatic 60, 3) := by decide +kernel
theorem dX3_copyFrom_132 : decode cX3_copyFrom 132 = .ok (.aload_n 1, 1) := by decide +kernel
theorem dX3_copyFrom_133 : decode cX3_copyFrom 133 = .ok (.getfield 48, 3) := by decide +kernel
theorem dX3_copyFrom_136 : decode cX3_copyFrom 136 = .ok (.aload_n 0, 1) := by decide +kernel
theorem dX3_copyFrom_137 : decode cX3_copyFrom 137 = .ok (.getfield 48, 3) := by decide +kernel
theorem dX3_copyFrom_140 : decode cX3_copyFrom 140 = .ok (.invokestatic 60, 3) := by decide +kernel
theorem dX3_copyFrom_143 : decode cX3_copyFrom 143 = .ok (.aload_n 1, 1) := by decide +kernel
theorem dX3_copyFrom_144 : decode cX3_copyFrom 144 = .ok (.getfield 51, 3) := by decide +kernel
theorem dX3_copyFrom_147 : decode cX3_copyFrom 147 = .ok (.aload_n 0, 1) := by decide +kernel
theorem dX3_copyFrom_148 : decode cX3_copyFrom 148 = .ok (.getfield 51, 3) := by decide +kernel
theorem dX3_copyFrom_151 : decode cX3_copyFrom 151 = .ok (.invokestatic 60, 3) := by decide +kernel
theorem dX3_copyFrom_154 : decode cX3_copyFrom 154 = .ok (.aload_n 0, 1) := by decide +kernel
theorem dX3_copyFrom_155 : decode cX3_copyFrom 155 = .ok (.aload_n 1, 1) := by decide +kernel
theorem dX3_copyFrom_156 : decode cX3_copyFrom 156 = .ok (.getfield 64, 3) := by decide +kernel
theorem dX3_copyFrom_159 : decode cX3_copyFrom 159 = .ok (.putfield 64, 3) := by decide +kernel
theorem dX3_copyFrom_162 : decode cX3_copyFrom 162 = .ok (.aload_n 0, 1) := by decide +kernel
theorem dX3_copyFrom_163 : decode cX3_copyFrom 163 = .ok (.aload_n 1, 1) := by decide +kernel
theorem dX3_copyFrom_164 : decode cX3_copyFrom 164 = .ok (.getfield 68, 3) := by decide +kernel
theorem dX3_copyFrom_167 : decode cX3_copyFrom 167 = .ok (.putfield 68, 3) := by decide +kernel
theorem dX3_copyFrom_170 : decode cX3_copyFrom 170 = .ok (.aload_n 0, 1) := by decide +kernel
theorem dX3_copyFrom_171 : decode cX3_copyFrom 171 = .ok (.aload_n 1, 1) := by decide +kernel
theorem dX3_copyFrom_172 : decode cX3_copyFrom 172 = .ok (.getfield 71, 3) := by decide +kernel
theorem dX3_copyFrom_175 : decode cX3_copyFrom 175 = .ok (.putfield 71, 3) := by decide +kernel
theorem dX3_copyFrom_178 : decode cX3_copyFrom 178 = .ok (.aload_n 0, 1) := by decide +kernel
theorem dX3_copyFrom_179 : decode cX3_copyFrom 179 = .ok (.aload_n 1, 1) := by decide +kernel
theorem dX3_copyFrom_180 : decode cX3_copyFrom 180 = .ok (.getfield 74, 3) := by decide +kernel
theorem dX3_copyFrom_183 : decode cX3_copyFrom 183 = .ok (.putfield 74, 3) := by decide +kernel
theorem dX3_copyFrom_186 : decode cX3_copyFrom 186 = .ok (.return_, 1) := by decide +kernel
theorem dX3_copyRow_0 : decode cX3_copyRow 0 = .ok (.aload_n 0, 1) := by decide +kernel
theorem dX3_copyRow_1 : decode cX3_copyRow 1 = .ok (.iconst 0, 1) := by decide +kernel
theorem dX3_copyRow_2 : decode cX3_copyRow 2 = .ok (.aload_n 1, 1) := by decide +kernel
theorem dX3_copyRow_3 : decode cX3_copyRow 3 = .ok (.iconst 0, 1) := by decide +kernel
theorem dX3_copyRow_4 : decode cX3_copyRow 4 = .ok (.aload_n 0, 1) := by decide +kernel
theorem dX3_copyRow_5 : decode cX3_copyRow 5 = .ok (.arraylength, 1) := by decide +kernel
theorem dX3_copyRow_6 : decode cX3_copyRow 6 = .ok (.aload_n 1, 1) := by decide +kernel
theorem dX3_copyRow_7 : decode cX3_copyRow 7 = .ok (.arraylength, 1) := by decide +kernel
theorem dX3_copyRow_8 : decode cX3_copyRow 8 = .ok (.invokestatic 77, 3) := by decide +kernel
theorem dX3_copyRow_11 : decode cX3_copyRow 11 = .ok (.invokestatic 83, 3) := by decide +kernel
theorem dX3_copyRow_14 : decode cX3_copyRow 14 = .ok (.return_, 1) := by decide +kernel
theorem dX3_addKettle_0 : decode cX3_addKettle 0 = .ok (.aload_n 0, 1) := by decide +kernel
theorem dX3_addKettle_1 : decode cX3_addKettle 1 = .ok (.getfield 64, 3) := by decide +kernel
theorem dX3_addKettle_4 : decode cX3_addKettle 4 = .ok (.istore 4, 2) := by decide +kernel
theorem dX3_addKettle_6 : decode cX3_addKettle 6 = .ok (.aload_n 0, 1) := by decide +kernel
theorem dX3_addKettle_7 : decode cX3_addKettle 7 = .ok (.getfield 27, 3) := by decide +kernel
theorem dX3_addKettle_10 : decode cX3_addKettle 10 = .ok (.iload 4, 2) := by decide +kernel
theorem dX3_addKettle_12 : decode cX3_addKettle 12 = .ok (.iload_n 1, 1) := by decide +kernel
theorem dX3_addKettle_13 : decode cX3_addKettle 13 = .ok (.iastore, 1) := by decide +kernel
theorem dX3_addKettle_14 : decode cX3_addKettle 14 = .ok (.aload_n 0, 1) := by decide +kernel
theorem dX3_addKettle_15 : decode cX3_addKettle 15 = .ok (.getfield 30, 3) := by decide +kernel
theorem dX3_addKettle_18 : decode cX3_addKettle 18 = .ok (.iload 4, 2) := by decide +kernel
theorem dX3_addKettle_20 : decode cX3_addKettle 20 = .ok (.iload_n 2, 1) := by decide +kernel
theorem dX3_addKettle_21 : decode cX3_addKettle 21 = .ok (.iastore, 1) := by decide +kernel
theorem dX3_addKettle_22 : decode cX3_addKettle 22 = .ok (.aload_n 0, 1) := by decide +kernel
theorem dX3_addKettle_23 : decode cX3_addKettle 23 = .ok (.getfield 33, 3) := by decide +kernel
theorem dX3_addKettle_26 : decode cX3_addKettle 26 = .ok (.iload 4, 2) := by decide +kernel
theorem dX3_addKettle_28 : decode cX3_addKettle 28 = .ok (.iload_n 3, 1) := by decide +kernel
theorem dX3_addKettle_29 : decode cX3_addKettle 29 = .ok (.iastore, 1) := by decide +kernel
theorem dX3_addKettle_30 : decode cX3_addKettle 30 = .ok (.aload_n 0, 1) := by decide +kernel
theorem dX3_addKettle_31 : decode cX3_addKettle 31 = .ok (.getfield 36, 3) := by decide +kernel
theorem dX3_addKettle_34 : decode cX3_addKettle 34 = .ok (.iload 4, 2) := by decide +kernel
theorem dX3_addKettle_36 : decode cX3_addKettle 36 = .ok (.bipush 20, 2) := by decide +kernel
theorem dX3_addKettle_38 : decode cX3_addKettle 38 = .ok (.iastore, 1) := by decide +kernel
theorem dX3_addKettle_39 : decode cX3_addKettle 39 = .ok (.aload_n 0, 1) := by decide +kernel
theorem dX3_addKettle_40 : decode cX3_addKettle 40 = .ok (.getfield 39, 3) := by decide +kernel
theorem dX3_addKettle_43 : decode cX3_addKettle 43 = .ok (.iload 4, 2) := by decide +kernel
theorem dX3_addKettle_45 : decode cX3_addKettle 45 = .ok (.iconst (-1), 1) := by decide +kernel
theorem dX3_addKettle_46 : decode cX3_addKettle 46 = .ok (.iastore, 1) := by decide +kernel
theorem dX3_addKettle_47 : decode cX3_addKettle 47 = .ok (.aload_n 0, 1) := by decide +kernel
theorem dX3_addKettle_48 : decode cX3_addKettle 48 = .ok (.getfield 42, 3) := by decide +kernel
theorem dX3_addKettle_51 : decode cX3_addKettle 51 = .ok (.iload 4, 2) := by decide +kernel
theorem dX3_addKettle_53 : decode cX3_addKettle 53 = .ok (.iconst 0, 1) := by decide +kernel
theorem dX3_addKettle_54 : decode cX3_addKettle 54 = .ok (.iastore, 1) := by decide +kernel
theorem dX3_addKettle_55 : decode cX3_addKettle 55 = .ok (.aload_n 0, 1) := by decide +kernel
theorem dX3_addKettle_56 : decode cX3_addKettle 56 = .ok (.getfield 45, 3) := by decide +kernel
theorem dX3_addKettle_59 : decode cX3_addKettle 59 = .ok (.iload 4, 2) := by decide +kernel
theorem dX3_addKettle_61 : decode cX3_addKettle 61 = .ok (.iconst 1, 1) := by decide +kernel
theorem dX3_addKettle_62 : decode cX3_addKettle 62 = .ok (.iastore, 1) := by decide +kernel
theorem dX3_addKettle_63 : decode cX3_addKettle 63 = .ok (.aload_n 0, 1) := by decide +kernel
theorem dX3_addKettle_64 : decode cX3_addKettle 64 = .ok (.getfield 48, 3) := by decide +kernel
theorem dX3_addKettle_67 : decode cX3_addKettle 67 = .ok (.iload 4, 2) := by decide +kernel
theorem dX3_addKettle_69 : decode cX3_addKettle 69 = .ok (.iconst 0, 1) := by decide +kernel
theorem dX3_addKettle_70 : decode cX3_addKettle 70 = .ok (.iastore, 1) := by decide +kernel
theorem dX3_addKettle_71 : decode cX3_addKettle 71 = .ok (.aload_n 0, 1) := by decide +kernel
theorem dX3_addKettle_72 : decode cX3_addKettle 72 = .ok (.getfield 51, 3) := by decide +kernel
theorem dX3_addKettle_75 : decode cX3_addKettle 75 = .ok (.iload 4, 2) := by decide +kernel
theorem dX3_addKettle_77 : decode cX3_addKettle 77 = .ok (.iconst 0, 1) := by decide +kernel
theorem dX3_addKettle_78 : decode cX3_addKettle 78 = .ok (.iastore, 1) := by decide +kernel
theorem dX3_addKettle_79 : decode cX3_addKettle 79 = .ok (.aload_n 0, 1) := by decide +kernel
theorem dX3_addKettle_80 : decode cX3_addKettle 80 = .ok (.dup, 1) := by decide +kernel
theorem dX3_addKettle_81 : decode cX3_addKettle 81 = .ok (.getfield 64, 3) := by decide +kernel
theorem dX3_addKettle_84 : decode cX3_addKettle 84 = .ok (.iconst 1, 1) := by decide +kernel
theorem dX3_addKettle_85 : decode cX3_addKettle 85 = .ok (.iadd, 1) := by decide +kernel
theorem dX3_addKettle_86 : decode cX3_addKettle 86 = .ok (.putfield 64, 3) := by decide +kernel
theorem dX3_addKettle_89 : decode cX3_addKettle 89 = .ok (.aload_n 0, 1) := by decide +kernel
theorem dX3_addKettle_90 : decode cX3_addKettle 90 = .ok (.dup, 1) := by decide +kernel
theorem dX3_addKettle_91 : decode cX3_addKettle 91 = .ok (.getfield 71, 3) := by decide +kernel
theorem dX3_addKettle_94 : decode cX3_addKettle 94 = .ok (.iload_n 3, 1) := by decide +kernel
theorem dX3_addKettle_95 : decode cX3_addKettle 95 = .ok (.iadd, 1) := by decide +kernel
theorem dX3_addKettle_96 : decode cX3_addKettle 96 = .ok (.putfield 71, 3) := by decide +kernel
theorem dX3_addKettle_99 : decode cX3_addKettle 99 = .ok (.iload 4, 2) := by decide +kernel
theorem dX3_addKettle_101 : decode cX3_addKettle 101 = .ok (.ireturn, 1) := by decide +kernel
theorem dX3_barLid_0 : decode cX3_barLid 0 = .ok (.aload_n 0, 1) := by decide +kernel
theorem dX3_barLid_1 : decode cX3_barLid 1 = .ok (.getfield 45, 3) := by decide +kernel
theorem dX3_barLid_4 : decode cX3_barLid 4 = .ok (.iload_n 1, 1) := by decide +kernel
theorem dX3_barLid_5 : decode cX3_barLid 5 = .ok (.iconst 0, 1) := by decide +kernel
theorem dX3_barLid_6 : decode cX3_barLid 6 = .ok (.iastore, 1) := by decide +kernel
theorem dX3_barLid_7 : decode cX3_barLid 7 = .ok (.aload_n 0, 1) := by decide +kernel
theorem dX3_barLid_8 : decode cX3_barLid 8 = .ok (.getfield 48, 3) := by decide +kernel
theorem dX3_barLid_11 : decode cX3_barLid 11 = .ok (.iload_n 1, 1) := by decide +kernel
theorem dX3_barLid_12 : decode cX3_barLid 12 = .ok (.iconst 1, 1) := by decide +kernel
theorem dX3_barLid_13 : decode cX3_barLid 13 = .ok (.iastore, 1) := by decide +kernel
theorem dX3_barLid_14 : decode cX3_barLid 14 = .ok (.aload_n 0, 1) := by decide +kernel
theorem dX3_barLid_15 : decode cX3_barLid 15 = .ok (.getfield 51, 3) := by decide +kernel
theorem dX3_barLid_18 : decode cX3_barLid 18 = .ok (.iload_n 1, 1) := by decide +kernel
theorem dX3_barLid_19 : decode cX3_barLid 19 = .ok (.iconst 0, 1) := by decide +kernel
theorem dX3_barLid_20 : decode cX3_barLid 20 = .ok (.iastore, 1) := by decide +kernel
theorem dX3_barLid_21 : decode cX3_barLid 21 = .ok (.return_, 1) := by decide +kernel
theorem dX3_passMinute_0 : decode cX3_passMinute 0 = .ok (.iconst 0, 1) := by decide +kernel
theorem dX3_passMinute_1 : decode cX3_passMinute 1 = .ok (.istore_n 1, 1) := by decide +kernel
theorem dX3_passMinute_2 : decode cX3_passMinute 2 = .ok (.iconst 0, 1) := by decide +kernel
theorem dX3_passMinute_3 : decode cX3_passMinute 3 = .ok (.istore_n 2, 1) := by decide +kernel
theorem dX3_passMinute_4 : decode cX3_passMinute 4 = .ok (.iload_n 2, 1) := by decide +kernel
theorem dX3_passMinute_5 : decode cX3_passMinute 5 = .ok (.aload_n 0, 1) := by decide +kernel
theorem dX3_passMinute_6 : decode cX3_passMinute 6 = .ok (.getfield 64, 3) := by decide +kernel
theorem dX3_passMinute_9 : decode cX3_passMinute 9 = .ok (.if_icmp .ge 20, 3) := by decide +kernel
theorem dX3_passMinute_12 : decode cX3_passMinute 12 = .ok (.aload_n 0, 1) := by decide +kernel
theorem dX3_passMinute_13 : decode cX3_passMinute 13 = .ok (.iload_n 2, 1) := by decide +kernel
theorem dX3_passMinute_14 : decode cX3_passMinute 14 = .ok (.invokevirtual 89, 3) := by decide +kernel
theorem dX3_passMinute_17 : decode cX3_passMinute 17 = .ok (.ifCond .eq 6, 3) := by decide +kernel
theorem dX3_passMinute_20 : decode cX3_passMinute 20 = .ok (.iinc 1 1, 3) := by decide +kernel
theorem dX3_passMinute_23 : decode cX3_passMinute 23 = .ok (.iinc 2 1, 3) := by decide +kernel
theorem dX3_passMinute_26 : decode cX3_passMinute 26 = .ok (.goto (-22), 3) := by decide +kernel
theorem dX3_passMinute_29 : decode cX3_passMinute 29 = .ok (.aload_n 0, 1) := by decide +kernel
theorem dX3_passMinute_30 : decode cX3_passMinute 30 = .ok (.dup, 1) := by decide +kernel
theorem dX3_passMinute_31 : decode cX3_passMinute 31 = .ok (.getfield 68, 3) := by decide +kernel
theorem dX3_passMinute_34 : decode cX3_passMinute 34 = .ok (.iconst 1, 1) := by decide +kernel
theorem dX3_passMinute_35 : decode cX3_passMinute 35 = .ok (.iadd, 1) := by decide +kernel
theorem dX3_passMinute_36 : decode cX3_passMinute 36 = .ok (.putfield 68, 3) := by decide +kernel
theorem dX3_passMinute_39 : decode cX3_passMinute 39 = .ok (.iload_n 1, 1) := by decide +kernel
theorem dX3_passMinute_40 : decode cX3_passMinute 40 = .ok (.ireturn, 1) := by decide +kernel
theorem dX3_passMinuteOver_0 : decode cX3_passMinuteOver 0 = .ok (.aload_n 0, 1) := by decide +kernel
theorem dX3_passMinuteOver_1 : decode cX3_passMinuteOver 1 = .ok (.iload_n 1, 1) := by decide +kernel
theorem dX3_passMinuteOver_2 : decode cX3_passMinuteOver 2 = .ok (.invokevirtual 93, 3) := by decide +kernel
theorem dX3_passMinuteOver_5 : decode cX3_passMinuteOver 5 = .ok (.istore_n 2, 1) := by decide +kernel
theorem dX3_passMinuteOver_6 : decode cX3_passMinuteOver 6 = .ok (.iload_n 2, 1) := by decide +kernel
theorem dX3_passMinuteOver_7 : decode cX3_passMinuteOver 7 = .ok (.ifCond .eq 32, 3) := by decide +kernel
theorem dX3_passMinuteOver_10 : decode cX3_passMinuteOver 10 = .ok (.aload_n 0, 1) := by decide +kernel
theorem dX3_passMinuteOver_11 : decode cX3_passMinuteOver 11 = .ok (.getfield 33, 3) := by decide +kernel
theorem dX3_passMinuteOver_14 : decode cX3_passMinuteOver 14 = .ok (.iload_n 1, 1) := by decide +kernel
theorem dX3_passMinuteOver_15 : decode cX3_passMinuteOver 15 = .ok (.iaload, 1) := by decide +kernel
theorem dX3_passMinuteOver_16 : decode cX3_passMinuteOver 16 = .ok (.ifCond .le 23, 3) := by decide +kernel
theorem dX3_passMinuteOver_19 : decode cX3_passMinuteOver 19 = .ok (.aload_n 0, 1) := by decide +kernel
theorem dX3_passMinuteOver_20 : decode cX3_passMinuteOver 20 = .ok (.getfield 33, 3) := by decide +kernel
theorem dX3_passMinuteOver_23 : decode cX3_passMinuteOver 23 = .ok (.iload_n 1, 1) := by decide +kernel
theorem dX3_passMinuteOver_24 : decode cX3_passMinuteOver 24 = .ok (.dup2, 1) := by decide +kernel
theorem dX3_passMinuteOver_25 : decode cX3_passMinuteOver 25 = .ok (.iaload, 1) := by decide +kernel
theorem dX3_passMinuteOver_26 : decode cX3_passMinuteOver 26 = .ok (.iconst 1, 1) := by decide +kernel
theorem dX3_passMinuteOver_27 : decode cX3_passMinuteOver 27 = .ok (.isub, 1) := by decide +kernel
theorem dX3_passMinuteOver_28 : decode cX3_passMinuteOver 28 = .ok (.iastore, 1) := by decide +kernel
theorem dX3_passMinuteOver_29 : decode cX3_passMinuteOver 29 = .ok (.aload_n 0, 1) := by decide +kernel
theorem dX3_passMinuteOver_30 : decode cX3_passMinuteOver 30 = .ok (.dup, 1) := by decide +kernel
theorem dX3_passMinuteOver_31 : decode cX3_passMinuteOver 31 = .ok (.getfield 74, 3) := by decide +kernel
theorem dX3_passMinuteOver_34 : decode cX3_passMinuteOver 34 = .ok (.iconst 1, 1) := by decide +kernel
theorem dX3_passMinuteOver_35 : decode cX3_passMinuteOver 35 = .ok (.iadd, 1) := by decide +kernel
theorem dX3_passMinuteOver_36 : decode cX3_passMinuteOver 36 = .ok (.putfield 74, 3) := by decide +kernel
theorem dX3_passMinuteOver_39 : decode cX3_passMinuteOver 39 = .ok (.iload_n 2, 1) := by decide +kernel
theorem dX3_passMinuteOver_40 : decode cX3_passMinuteOver 40 = .ok (.ifCond .eq 16, 3) := by decide +kernel
theorem dX3_passMinuteOver_43 : decode cX3_passMinuteOver 43 = .ok (.aload_n 0, 1) := by decide +kernel
theorem dX3_passMinuteOver_44 : decode cX3_passMinuteOver 44 = .ok (.getfield 33, 3) := by decide +kernel
theorem dX3_passMinuteOver_47 : decode cX3_passMinuteOver 47 = .ok (.iload_n 1, 1) := by decide +kernel
theorem dX3_passMinuteOver_48 : decode cX3_passMinuteOver 48 = .ok (.iaload, 1) := by decide +kernel
theorem dX3_passMinuteOver_49 : decode cX3_passMinuteOver 49 = .ok (.ifCond .ne 7, 3) := by decide +kernel
theorem dX3_passMinuteOver_52 : decode cX3_passMinuteOver 52 = .ok (.iconst 1, 1) := by decide +kernel
theorem dX3_passMinuteOver_53 : decode cX3_passMinuteOver 53 = .ok (.goto 4, 3) := by decide +kernel
theorem dX3_passMinuteOver_56 : decode cX3_passMinuteOver 56 = .ok (.iconst 0, 1) := by decide +kernel
theorem dX3_passMinuteOver_57 : decode cX3_passMinuteOver 57 = .ok (.istore_n 3, 1) := by decide +kernel
theorem dX3_passMinuteOver_58 : decode cX3_passMinuteOver 58 = .ok (.iload_n 3, 1) := by decide +kernel
theorem dX3_passMinuteOver_59 : decode cX3_passMinuteOver 59 = .ok (.ifCond .eq 11, 3) := by decide +kernel
theorem dX3_passMinuteOver_62 : decode cX3_passMinuteOver 62 = .ok (.aload_n 0, 1) := by decide +kernel
theorem dX3_passMinuteOver_63 : decode cX3_passMinuteOver 63 = .ok (.iload_n 1, 1) := by decide +kernel
theorem dX3_passMinuteOver_64 : decode cX3_passMinuteOver 64 = .ok (.invokevirtual 96, 3) := by decide +kernel
theorem dX3_passMinuteOver_67 : decode cX3_passMinuteOver 67 = .ok (.goto 22, 3) := by decide +kernel
theorem dX3_passMinuteOver_70 : decode cX3_passMinuteOver 70 = .ok (.aload_n 0, 1) := by decide +kernel
theorem dX3_passMinuteOver_71 : decode cX3_passMinuteOver 71 = .ok (.getfield 42, 3) := by decide +kernel
theorem dX3_passMinuteOver_74 : decode cX3_passMinuteOver 74 = .ok (.iload_n 1, 1) := by decide +kernel
theorem dX3_passMinuteOver_75 : decode cX3_passMinuteOver 75 = .ok (.iaload, 1) := by decide +kernel
theorem dX3_passMinuteOver_76 : decode cX3_passMinuteOver 76 = .ok (.ifCond .le 13, 3) := by decide +kernel
theorem dX3_passMinuteOver_79 : decode cX3_passMinuteOver 79 = .ok (.aload_n 0, 1) := by decide +kernel
theorem dX3_passMinuteOver_80 : decode cX3_passMinuteOver 80 = .ok (.getfield 42, 3) := by decide +kernel
theorem dX3_passMinuteOver_83 : decode cX3_passMinuteOver 83 = .ok (.iload_n 1, 1) := by decide +kernel
theorem dX3_passMinuteOver_84 : decode cX3_passMinuteOver 84 = .ok (.dup2, 1) := by decide +kernel
theorem dX3_passMinuteOver_85 : decode cX3_passMinuteOver 85 = .ok (.iaload, 1) := by decide +kernel
theorem dX3_passMinuteOver_86 : decode cX3_passMinuteOver 86 = .ok (.iconst 1, 1) := by decide +kernel
theorem dX3_passMinuteOver_87 : decode cX3_passMinuteOver 87 = .ok (.isub, 1) := by decide +kernel
theorem dX3_passMinuteOver_88 : decode cX3_passMinuteOver 88 = .ok (.iastore, 1) := by decide +kernel
theorem dX3_passMinuteOver_89 : decode cX3_passMinuteOver 89 = .ok (.aload_n 0, 1) := by decide +kernel
theorem dX3_passMinuteOver_90 : decode cX3_passMinuteOver 90 = .ok (.iload_n 1, 1) := by decide +kernel
theorem dX3_passMinuteOver_91 : decode cX3_passMinuteOver 91 = .ok (.invokevirtual 100, 3) := by decide +kernel
theorem dX3_passMinuteOver_94 : decode cX3_passMinuteOver 94 = .ok (.iload_n 3, 1) := by decide +kernel
theorem dX3_passMinuteOver_95 : decode cX3_passMinuteOver 95 = .ok (.ireturn, 1) := by decide +kernel
theorem dX3_boilDry_0 : decode cX3_boilDry 0 = .ok (.aload_n 0, 1) := by decide +kernel
theorem dX3_boilDry_1 : decode cX3_boilDry 1 = .ok (.getfield 27, 3) := by decide +kernel
theorem dX3_boilDry_4 : decode cX3_boilDry 4 = .ok (.iload_n 1, 1) := by decide +kernel
theorem dX3_boilDry_5 : decode cX3_boilDry 5 = .ok (.iaload, 1) := by decide +kernel
theorem dX3_boilDry_6 : decode cX3_boilDry 6 = .ok (.istore_n 2, 1) := by decide +kernel
theorem dX3_boilDry_7 : decode cX3_boilDry 7 = .ok (.aload_n 0, 1) := by decide +kernel
theorem dX3_boilDry_8 : decode cX3_boilDry 8 = .ok (.getfield 39, 3) := by decide +kernel
theorem dX3_boilDry_11 : decode cX3_boilDry 11 = .ok (.iload_n 1, 1) := by decide +kernel
theorem dX3_boilDry_12 : decode cX3_boilDry 12 = .ok (.iconst (-1), 1) := by decide +kernel
theorem dX3_boilDry_13 : decode cX3_boilDry 13 = .ok (.iastore, 1) := by decide +kernel
theorem dX3_boilDry_14 : decode cX3_boilDry 14 = .ok (.aload_n 0, 1) := by decide +kernel
theorem dX3_boilDry_15 : decode cX3_boilDry 15 = .ok (.getfield 42, 3) := by decide +kernel
theorem dX3_boilDry_18 : decode cX3_boilDry 18 = .ok (.iload_n 1, 1) := by decide +kernel
theorem dX3_boilDry_19 : decode cX3_boilDry 19 = .ok (.bipush 6, 2) := by decide +kernel
theorem dX3_boilDry_21 : decode cX3_boilDry 21 = .ok (.iastore, 1) := by decide +kernel
theorem dX3_boilDry_22 : decode cX3_boilDry 22 = .ok (.aload_n 0, 1) := by decide +kernel
theorem dX3_boilDry_23 : decode cX3_boilDry 23 = .ok (.getfield 15, 3) := by decide +kernel
theorem dX3_boilDry_26 : decode cX3_boilDry 26 = .ok (.iload_n 2, 1) := by decide +kernel
theorem dX3_boilDry_27 : decode cX3_boilDry 27 = .ok (.dup2, 1) := by decide +kernel
theorem dX3_boilDry_28 : decode cX3_boilDry 28 = .ok (.iaload, 1) := by decide +kernel
theorem dX3_boilDry_29 : decode cX3_boilDry 29 = .ok (.iconst 2, 1) := by decide +kernel
theorem dX3_boilDry_30 : decode cX3_boilDry 30 = .ok (.isub, 1) := by decide +kernel
theorem dX3_boilDry_31 : decode cX3_boilDry 31 = .ok (.iastore, 1) := by decide +kernel
theorem dX3_boilDry_32 : decode cX3_boilDry 32 = .ok (.aload_n 0, 1) := by decide +kernel
theorem dX3_boilDry_33 : decode cX3_boilDry 33 = .ok (.getfield 18, 3) := by decide +kernel
theorem dX3_boilDry_36 : decode cX3_boilDry 36 = .ok (.iload_n 2, 1) := by decide +kernel
theorem dX3_boilDry_37 : decode cX3_boilDry 37 = .ok (.dup2, 1) := by decide +kernel
theorem dX3_boilDry_38 : decode cX3_boilDry 38 = .ok (.iaload, 1) := by decide +kernel
theorem dX3_boilDry_39 : decode cX3_boilDry 39 = .ok (.iconst 1, 1) := by decide +kernel
theorem dX3_boilDry_40 : decode cX3_boilDry 40 = .ok (.iadd, 1) := by decide +kernel
theorem dX3_boilDry_41 : decode cX3_boilDry 41 = .ok (.iastore, 1) := by decide +kernel
theorem dX3_boilDry_42 : decode cX3_boilDry 42 = .ok (.return_, 1) := by decide +kernel
theorem dX3_changeTemperature_0 : decode cX3_changeTemperature 0 = .ok (.aload_n 0, 1) := by decide +kernel
theorem dX3_changeTemperature_1 : decode cX3_changeTemperature 1 = .ok (.getfield 39, 3) := by decide +kernel
theorem dX3_changeTemperature_4 : decode cX3_changeTemperature 4 = .ok (.iload_n 1, 1) := by decide +kernel
theorem dX3_changeTemperature_5 : decode cX3_changeTemperature 5 = .ok (.iaload, 1) := by decide +kernel
theorem dX3_changeTemperature_6 : decode cX3_changeTemperature 6 = .ok (.iconst (-1), 1) := by decide +kernel
theorem dX3_changeTemperature_7 : decode cX3_changeTemperature 7 = .ok (.if_icmp .ne 25, 3) := by decide +kernel
theorem dX3_changeTemperature_10 : decode cX3_changeTemperature 10 = .ok (.aload_n 0, 1) := by decide +kernel
theorem dX3_changeTemperature_11 : decode cX3_changeTemperature 11 = .ok (.getfield 36, 3) := by decide +kernel
theorem dX3_changeTemperature_14 : decode cX3_changeTemperature 14 = .ok (.iload_n 1, 1) := by decide +kernel
theorem dX3_changeTemperature_15 : decode cX3_changeTemperature 15 = .ok (.bipush 20, 2) := by decide +kernel
theorem dX3_changeTemperature_17 : decode cX3_changeTemperature 17 = .ok (.aload_n 0, 1) := by decide +kernel
theorem dX3_changeTemperature_18 : decode cX3_changeTemperature 18 = .ok (.getfield 36, 3) := by decide +kernel
theorem dX3_changeTemperature_21 : decode cX3_changeTemperature 21 = .ok (.iload_n 1, 1) := by decide +kernel
theorem dX3_changeTemperature_22 : decode cX3_changeTemperature 22 = .ok (.iaload, 1) := by decide +kernel
theorem dX3_changeTemperature_23 : decode cX3_changeTemperature 23 = .ok (.iconst 5, 1) := by decide +kernel
theorem dX3_changeTemperature_24 : decode cX3_changeTemperature 24 = .ok (.isub, 1) := by decide +kernel
theorem dX3_changeTemperature_25 : decode cX3_changeTemperature 25 = .ok (.invokestatic 103, 3) := by decide +kernel
theorem dX3_changeTemperature_28 : decode cX3_changeTemperature 28 = .ok (.iastore, 1) := by decide +kernel
theorem dX3_changeTemperature_29 : decode cX3_changeTemperature 29 = .ok (.goto 28, 3) := by decide +kernel
theorem dX3_changeTemperature_32 : decode cX3_changeTemperature 32 = .ok (.aload_n 0, 1) := by decide +kernel
theorem dX3_changeTemperature_33 : decode cX3_changeTemperature 33 = .ok (.getfield 36, 3) := by decide +kernel
theorem dX3_changeTemperature_36 : decode cX3_changeTemperature 36 = .ok (.iload_n 1, 1) := by decide +kernel
theorem dX3_changeTemperature_37 : decode cX3_changeTemperature 37 = .ok (.bipush 100, 2) := by decide +kernel
theorem dX3_changeTemperature_39 : decode cX3_changeTemperature 39 = .ok (.aload_n 0, 1) := by decide +kernel
theorem dX3_changeTemperature_40 : decode cX3_changeTemperature 40 = .ok (.getfield 36, 3) := by decide +kernel
theorem dX3_changeTemperature_43 : decode cX3_changeTemperature 43 = .ok (.iload_n 1, 1) := by decide +kernel
theorem dX3_changeTemperature_44 : decode cX3_changeTemperature 44 = .ok (.iaload, 1) := by decide +kernel
theorem dX3_changeTemperature_45 : decode cX3_changeTemperature 45 = .ok (.iconst 5, 1) := by decide +kernel
theorem dX3_changeTemperature_46 : decode cX3_changeTemperature 46 = .ok (.aload_n 0, 1) := by decide +kernel
theorem dX3_changeTemperature_47 : decode cX3_changeTemperature 47 = .ok (.iload_n 1, 1) := by decide +kernel
theorem dX3_changeTemperature_48 : decode cX3_changeTemperature 48 = .ok (.invokevirtual 106, 3) := by decide +kernel
theorem dX3_changeTemperature_51 : decode cX3_changeTemperature 51 = .ok (.imul, 1) := by decide +kernel
theorem dX3_changeTemperature_52 : decode cX3_changeTemperature 52 = .ok (.iadd, 1) := by decide +kernel
theorem dX3_changeTemperature_53 : decode cX3_changeTemperature 53 = .ok (.invokestatic 77, 3) := by decide +kernel
theorem dX3_changeTemperature_56 : decode cX3_changeTemperature 56 = .ok (.iastore, 1) := by decide +kernel
theorem dX3_changeTemperature_57 : decode cX3_changeTemperature 57 = .ok (.return_, 1) := by decide +kernel
theorem dX3_holdHarmony_0 : decode cX3_holdHarmony 0 = .ok (.aload_n 0, 1) := by decide +kernel
theorem dX3_holdHarmony_1 : decode cX3_holdHarmony 1 = .ok (.invokevirtual 110, 3) := by decide +kernel
theorem dX3_holdHarmony_4 : decode cX3_holdHarmony 4 = .ok (.istore_n 1, 1) := by decide +kernel
theorem dX3_holdHarmony_5 : decode cX3_holdHarmony 5 = .ok (.iconst 0, 1) := by decide +kernel
theorem dX3_holdHarmony_6 : decode cX3_holdHarmony 6 = .ok (.istore_n 2, 1) := by decide +kernel
theorem dX3_holdHarmony_7 : decode cX3_holdHarmony 7 = .ok (.iload_n 2, 1) := by decide +kernel
theorem dX3_holdHarmony_8 : decode cX3_holdHarmony 8 = .ok (.aload_n 0, 1) := by decide +kernel
theorem dX3_holdHarmony_9 : decode cX3_holdHarmony 9 = .ok (.getfield 64, 3) := by decide +kernel
theorem dX3_holdHarmony_12 : decode cX3_holdHarmony 12 = .ok (.if_icmp .ge 92, 3) := by decide +kernel
theorem dX3_holdHarmony_15 : decode cX3_holdHarmony 15 = .ok (.iload_n 2, 1) := by decide +kernel
theorem dX3_holdHarmony_16 : decode cX3_holdHarmony 16 = .ok (.iconst 1, 1) := by decide +kernel
theorem dX3_holdHarmony_17 : decode cX3_holdHarmony 17 = .ok (.iadd, 1) := by decide +kernel
theorem dX3_holdHarmony_18 : decode cX3_holdHarmony 18 = .ok (.istore_n 3, 1) := by decide +kernel
theorem dX3_holdHarmony_19 : decode cX3_holdHarmony 19 = .ok (.iload_n 3, 1) := by decide +kernel
theorem dX3_holdHarmony_20 : decode cX3_holdHarmony 20 = .ok (.aload_n 0, 1) := by decide +kernel
theorem dX3_holdHarmony_21 : decode cX3_holdHarmony 21 = .ok (.getfield 64, 3) := by decide +kernel
theorem dX3_holdHarmony_24 : decode cX3_holdHarmony 24 = .ok (.if_icmp .ge 74, 3) := by decide +kernel
theorem dX3_holdHarmony_27 : decode cX3_holdHarmony 27 = .ok (.iload_n 1, 1) := by decide +kernel
theorem dX3_holdHarmony_28 : decode cX3_holdHarmony 28 = .ok (.iload_n 2, 1) := by decide +kernel
theorem dX3_holdHarmony_29 : decode cX3_holdHarmony 29 = .ok (.invokestatic 114, 3) := by decide +kernel
theorem dX3_holdHarmony_32 : decode cX3_holdHarmony 32 = .ok (.ifCond .eq 60, 3) := by decide +kernel
theorem dX3_holdHarmony_35 : decode cX3_holdHarmony 35 = .ok (.iload_n 1, 1) := by decide +kernel
theorem dX3_holdHarmony_36 : decode cX3_holdHarmony 36 = .ok (.iload_n 3, 1) := by decide +kernel
theorem dX3_holdHarmony_37 : decode cX3_holdHarmony 37 = .ok (.invokestatic 114, 3) := by decide +kernel
theorem dX3_holdHarmony_40 : decode cX3_holdHarmony 40 = .ok (.ifCond .eq 52, 3) := by decide +kernel
theorem dX3_holdHarmony_43 : decode cX3_holdHarmony 43 = .ok (.aload_n 0, 1) := by decide +kernel
theorem dX3_holdHarmony_44 : decode cX3_holdHarmony 44 = .ok (.getfield 30, 3) := by decide +kernel
theorem dX3_holdHarmony_47 : decode cX3_holdHarmony 47 = .ok (.iload_n 2, 1) := by decide +kernel
theorem dX3_holdHarmony_48 : decode cX3_holdHarmony 48 = .ok (.iaload, 1) := by decide +kernel
theorem dX3_holdHarmony_49 : decode cX3_holdHarmony 49 = .ok (.aload_n 0, 1) := by decide +kernel
theorem dX3_holdHarmony_50 : decode cX3_holdHarmony 50 = .ok (.getfield 30, 3) := by decide +kernel
theorem dX3_holdHarmony_53 : decode cX3_holdHarmony 53 = .ok (.iload_n 3, 1) := by decide +kernel
theorem dX3_holdHarmony_54 : decode cX3_holdHarmony 54 = .ok (.iaload, 1) := by decide +kernel
theorem dX3_holdHarmony_55 : decode cX3_holdHarmony 55 = .ok (.invokestatic 118, 3) := by decide +kernel
theorem dX3_holdHarmony_58 : decode cX3_holdHarmony 58 = .ok (.istore 4, 2) := by decide +kernel
theorem dX3_holdHarmony_60 : decode cX3_holdHarmony 60 = .ok (.aload_n 0, 1) := by decide +kernel
theorem dX3_holdHarmony_61 : decode cX3_holdHarmony 61 = .ok (.getfield 15, 3) := by decide +kernel
theorem dX3_holdHarmony_64 : decode cX3_holdHarmony 64 = .ok (.aload_n 0, 1) := by decide +kernel
theorem dX3_holdHarmony_65 : decode cX3_holdHarmony 65 = .ok (.getfield 27, 3) := by decide +kernel
theorem dX3_holdHarmony_68 : decode cX3_holdHarmony 68 = .ok (.iload_n 2, 1) := by decide +kernel
theorem dX3_holdHarmony_69 : decode cX3_holdHarmony 69 = .ok (.iaload, 1) := by decide +kernel
theorem dX3_holdHarmony_70 : decode cX3_holdHarmony 70 = .ok (.dup2, 1) := by decide +kernel
theorem dX3_holdHarmony_71 : decode cX3_holdHarmony 71 = .ok (.iaload, 1) := by decide +kernel
theorem dX3_holdHarmony_72 : decode cX3_holdHarmony 72 = .ok (.iload 4, 2) := by decide +kernel
theorem dX3_holdHarmony_74 : decode cX3_holdHarmony 74 = .ok (.iadd, 1) := by decide +kernel
theorem dX3_holdHarmony_75 : decode cX3_holdHarmony 75 = .ok (.iastore, 1) := by decide +kernel
theorem dX3_holdHarmony_76 : decode cX3_holdHarmony 76 = .ok (.aload_n 0, 1) := by decide +kernel
theorem dX3_holdHarmony_77 : decode cX3_holdHarmony 77 = .ok (.getfield 15, 3) := by decide +kernel
theorem dX3_holdHarmony_80 : decode cX3_holdHarmony 80 = .ok (.aload_n 0, 1) := by decide +kernel
theorem dX3_holdHarmony_81 : decode cX3_holdHarmony 81 = .ok (.getfield 27, 3) := by decide +kernel
theorem dX3_holdHarmony_84 : decode cX3_holdHarmony 84 = .ok (.iload_n 3, 1) := by decide +kernel
theorem dX3_holdHarmony_85 : decode cX3_holdHarmony 85 = .ok (.iaload, 1) := by decide +kernel
theorem dX3_holdHarmony_86 : decode cX3_holdHarmony 86 = .ok (.dup2, 1) := by decide +kernel
theorem dX3_holdHarmony_87 : decode cX3_holdHarmony 87 = .ok (.iaload, 1) := by decide +kernel
theorem dX3_holdHarmony_88 : decode cX3_holdHarmony 88 = .ok (.iload 4, 2) := by decide +kernel
theorem dX3_holdHarmony_90 : decode cX3_holdHarmony 90 = .ok (.iadd, 1) := by decide +kernel
theorem dX3_holdHarmony_91 : decode cX3_holdHarmony 91 = .ok (.iastore, 1) := by decide +kernel
theorem dX3_holdHarmony_92 : decode cX3_holdHarmony 92 = .ok (.iinc 3 1, 3) := by decide +kernel
theorem dX3_holdHarmony_95 : decode cX3_holdHarmony 95 = .ok (.goto (-76), 3) := by decide +kernel
theorem dX3_holdHarmony_98 : decode cX3_holdHarmony 98 = .ok (.iinc 2 1, 3) := by decide +kernel
theorem dX3_holdHarmony_101 : decode cX3_holdHarmony 101 = .ok (.goto (-94), 3) := by decide +kernel
theorem dX3_holdHarmony_104 : decode cX3_holdHarmony 104 = .ok (.aload_n 0, 1) := by decide +kernel
theorem dX3_holdHarmony_105 : decode cX3_holdHarmony 105 = .ok (.getfield 48, 3) := by decide +kernel
theorem dX3_holdHarmony_108 : decode cX3_holdHarmony 108 = .ok (.iconst 0, 1) := by decide +kernel
theorem dX3_holdHarmony_109 : decode cX3_holdHarmony 109 = .ok (.invokestatic 54, 3) := by decide +kernel
theorem dX3_holdHarmony_112 : decode cX3_holdHarmony 112 = .ok (.return_, 1) := by decide +kernel
theorem dX3_heatUnder_0 : decode cX3_heatUnder 0 = .ok (.aload_n 0, 1) := by decide +kernel
theorem dX3_heatUnder_1 : decode cX3_heatUnder 1 = .ok (.getfield 39, 3) := by decide +kernel
theorem dX3_heatUnder_4 : decode cX3_heatUnder 4 = .ok (.iload_n 1, 1) := by decide +kernel
theorem dX3_heatUnder_5 : decode cX3_heatUnder 5 = .ok (.iaload, 1) := by decide +kernel
theorem dX3_heatUnder_6 : decode cX3_heatUnder 6 = .ok (.istore_n 2, 1) := by decide +kernel
theorem dX3_heatUnder_7 : decode cX3_heatUnder 7 = .ok (.iload_n 2, 1) := by decide +kernel
theorem dX3_heatUnder_8 : decode cX3_heatUnder 8 = .ok (.ifCond .lt 18, 3) := by decide +kernel
theorem dX3_heatUnder_11 : decode cX3_heatUnder 11 = .ok (.iload_n 2, 1) := by decide +kernel
theorem dX3_heatUnder_12 : decode cX3_heatUnder 12 = .ok (.bipush 6, 2) := by decide +kernel
theorem dX3_heatUnder_14 : decode cX3_heatUnder 14 = .ok (.if_icmp .ge 12, 3) := by decide +kernel
theorem dX3_heatUnder_17 : decode cX3_heatUnder 17 = .ok (.aload_n 0, 1) := by decide +kernel
theorem dX3_heatUnder_18 : decode cX3_heatUnder 18 = .ok (.getfield 24, 3) := by decide +kernel
theorem dX3_heatUnder_21 : decode cX3_heatUnder 21 = .ok (.iload_n 2, 1) := by decide +kernel
theorem dX3_heatUnder_22 : decode cX3_heatUnder 22 = .ok (.iaload, 1) := by decide +kernel
theorem dX3_heatUnder_23 : decode cX3_heatUnder 23 = .ok (.goto 4, 3) := by decide +kernel
theorem dX3_heatUnder_26 : decode cX3_heatUnder 26 = .ok (.iconst 0, 1) := by decide +kernel
theorem dX3_heatUnder_27 : decode cX3_heatUnder 27 = .ok (.ireturn, 1) := by decide +kernel
theorem dX3_boils_0 : decode cX3_boils 0 = .ok (.aload_n 0, 1) := by decide +kernel
theorem dX3_boils_1 : decode cX3_boils 1 = .ok (.iload_n 1, 1) := by decide +kernel
theorem dX3_boils_2 : decode cX3_boils 2 = .ok (.invokevirtual 106, 3) := by decide +kernel
theorem dX3_boils_5 : decode cX3_boils 5 = .ok (.ifCond .le 18, 3) := by decide +kernel
theorem dX3_boils_8 : decode cX3_boils 8 = .ok (.aload_n 0, 1) := by decide +kernel
theorem dX3_boils_9 : decode cX3_boils 9 = .ok (.getfield 36, 3) := by decide +kernel
theorem dX3_boils_12 : decode cX3_boils 12 = .ok (.iload_n 1, 1) := by decide +kernel
theorem dX3_boils_13 : decode cX3_boils 13 = .ok (.iaload, 1) := by decide +kernel
theorem dX3_boils_14 : decode cX3_boils 14 = .ok (.bipush 100, 2) := by decide +kernel
theorem dX3_boils_16 : decode cX3_boils 16 = .ok (.if_icmp .ne 7, 3) := by decide +kernel
theorem dX3_boils_19 : decode cX3_boils 19 = .ok (.iconst 1, 1) := by decide +kernel
theorem dX3_boils_20 : decode cX3_boils 20 = .ok (.goto 4, 3) := by decide +kernel
theorem dX3_boils_23 : decode cX3_boils 23 = .ok (.iconst 0, 1) := by decide +kernel
theorem dX3_boils_24 : decode cX3_boils 24 = .ok (.ireturn, 1) := by decide +kernel
theorem dX3_whistles_0 : decode cX3_whistles 0 = .ok (.aload_n 0, 1) := by decide +kernel
theorem dX3_whistles_1 : decode cX3_whistles 1 = .ok (.invokevirtual 110, 3) := by decide +kernel
theorem dX3_whistles_4 : decode cX3_whistles 4 = .ok (.iload_n 1, 1) := by decide +kernel
theorem dX3_whistles_5 : decode cX3_whistles 5 = .ok (.invokestatic 114, 3) := by decide +kernel
theorem dX3_whistles_8 : decode cX3_whistles 8 = .ok (.ireturn, 1) := by decide +kernel
theorem dX3_whistlers_0 : decode cX3_whistlers 0 = .ok (.iconst 0, 1) := by decide +kernel
theorem dX3_whistlers_1 : decode cX3_whistlers 1 = .ok (.istore_n 1, 1) := by decide +kernel
theorem dX3_whistlers_2 : decode cX3_whistlers 2 = .ok (.iconst 0, 1) := by decide +kernel
theorem dX3_whistlers_3 : decode cX3_whistlers 3 = .ok (.istore_n 2, 1) := by decide +kernel
theorem dX3_whistlers_4 : decode cX3_whistlers 4 = .ok (.iload_n 2, 1) := by decide +kernel
theorem dX3_whistlers_5 : decode cX3_whistlers 5 = .ok (.aload_n 0, 1) := by decide +kernel
theorem dX3_whistlers_6 : decode cX3_whistlers 6 = .ok (.getfield 64, 3) := by decide +kernel
theorem dX3_whistlers_9 : decode cX3_whistlers 9 = .ok (.if_icmp .ge 42, 3) := by decide +kernel
theorem dX3_whistlers_12 : decode cX3_whistlers 12 = .ok (.aload_n 0, 1) := by decide +kernel
theorem dX3_whistlers_13 : decode cX3_whistlers 13 = .ok (.iload_n 2, 1) := by decide +kernel
theorem dX3_whistlers_14 : decode cX3_whistlers 14 = .ok (.invokevirtual 93, 3) := by decide +kernel
theorem dX3_whistlers_17 : decode cX3_whistlers 17 = .ok (.ifCond .eq 28, 3) := by decide +kernel
theorem dX3_whistlers_20 : decode cX3_whistlers 20 = .ok (.aload_n 0, 1) := by decide +kernel
theorem dX3_whistlers_21 : decode cX3_whistlers 21 = .ok (.getfield 33, 3) := by decide +kernel
theorem dX3_whistlers_24 : decode cX3_whistlers 24 = .ok (.iload_n 2, 1) := by decide +kernel
theorem dX3_whistlers_25 : decode cX3_whistlers 25 = .ok (.iaload, 1) := by decide +kernel
theorem dX3_whistlers_26 : decode cX3_whistlers 26 = .ok (.ifCond .le 19, 3) := by decide +kernel
theorem dX3_whistlers_29 : decode cX3_whistlers 29 = .ok (.aload_n 0, 1) := by decide +kernel
theorem dX3_whistlers_30 : decode cX3_whistlers 30 = .ok (.getfield 45, 3) := by decide +kernel
theorem dX3_whistlers_33 : decode cX3_whistlers 33 = .ok (.iload_n 2, 1) := by decide +kernel
theorem dX3_whistlers_34 : decode cX3_whistlers 34 = .ok (.iaload, 1) := by decide +kernel
theorem dX3_whistlers_35 : decode cX3_whistlers 35 = .ok (.iconst 1, 1) := by decide +kernel
theorem dX3_whistlers_36 : decode cX3_whistlers 36 = .ok (.if_icmp .ne 9, 3) := by decide +kernel
theorem dX3_whistlers_39 : decode cX3_whistlers 39 = .ok (.iload_n 1, 1) := by decide +kernel
theorem dX3_whistlers_40 : decode cX3_whistlers 40 = .ok (.iconst 1, 1) := by decide +kernel
theorem dX3_whistlers_41 : decode cX3_whistlers 41 = .ok (.iload_n 2, 1) := by decide +kernel
theorem dX3_whistlers_42 : decode cX3_whistlers 42 = .ok (.ishl, 1) := by decide +kernel
theorem dX3_whistlers_43 : decode cX3_whistlers 43 = .ok (.ior, 1) := by decide +kernel
theorem dX3_whistlers_44 : decode cX3_whistlers 44 = .ok (.istore_n 1, 1) := by decide +kernel
theorem dX3_whistlers_45 : decode cX3_whistlers 45 = .ok (.iinc 2 1, 3) := by decide +kernel
theorem dX3_whistlers_48 : decode cX3_whistlers 48 = .ok (.goto (-44), 3) := by decide +kernel
theorem dX3_whistlers_51 : decode cX3_whistlers 51 = .ok (.iload_n 1, 1) := by decide +kernel
theorem dX3_whistlers_52 : decode cX3_whistlers 52 = .ok (.ireturn, 1) := by decide +kernel
theorem dX3_whistledPitches_0 : decode cX3_whistledPitches 0 = .ok (.aload_n 0, 1) := by decide +kernel
theorem dX3_whistledPitches_1 : decode cX3_whistledPitches 1 = .ok (.invokevirtual 110, 3) := by decide +kernel
theorem dX3_whistledPitches_4 : decode cX3_whistledPitches 4 = .ok (.istore_n 1, 1) := by decide +kernel
theorem dX3_whistledPitches_5 : decode cX3_whistledPitches 5 = .ok (.iconst 0, 1) := by decide +kernel
theorem dX3_whistledPitches_6 : decode cX3_whistledPitches 6 = .ok (.istore_n 2, 1) := by decide +kernel
theorem dX3_whistledPitches_7 : decode cX3_whistledPitches 7 = .ok (.iconst 0, 1) := by decide +kernel
theorem dX3_whistledPitches_8 : decode cX3_whistledPitches 8 = .ok (.istore_n 3, 1) := by decide +kernel
theorem dX3_whistledPitches_9 : decode cX3_whistledPitches 9 = .ok (.iload_n 3, 1) := by decide +kernel
theorem dX3_whistledPitches_10 : decode cX3_whistledPitches 10 = .ok (.aload_n 0, 1) := by decide +kernel
theorem dX3_whistledPitches_11 : decode cX3_whistledPitches 11 = .ok (.getfield 64, 3) := by decide +kernel
theorem dX3_whistledPitches_14 : decode cX3_whistledPitches 14 = .ok (.if_icmp .ge 28, 3) := by decide +kernel
theorem dX3_whistledPitches_17 : decode cX3_whistledPitches 17 = .ok (.iload_n 1, 1) := by decide +kernel
theorem dX3_whistledPitches_18 : decode cX3_whistledPitches 18 = .ok (.iload_n 3, 1) := by decide +kernel
theorem dX3_whistledPitches_19 : decode cX3_whistledPitches 19 = .ok (.invokestatic 114, 3) := by decide +kernel
theorem dX3_whistledPitches_22 : decode cX3_whistledPitches 22 = .ok (.ifCond .eq 14, 3) := by decide +kernel
theorem dX3_whistledPitches_25 : decode cX3_whistledPitches 25 = .ok (.iload_n 2, 1) := by decide +kernel
theorem dX3_whistledPitches_26 : decode cX3_whistledPitches 26 = .ok (.iconst 1, 1) := by decide +kernel
theorem dX3_whistledPitches_27 : decode cX3_whistledPitches 27 = .ok (.aload_n 0, 1) := by decide +kernel
theorem dX3_whistledPitches_28 : decode cX3_whistledPitches 28 = .ok (.getfield 30, 3) := by decide +kernel
theorem dX3_whistledPitches_31 : decode cX3_whistledPitches 31 = .ok (.iload_n 3, 1) := by decide +kernel
theorem dX3_whistledPitches_32 : decode cX3_whistledPitches 32 = .ok (.iaload, 1) := by decide +kernel
theorem dX3_whistledPitches_33 : decode cX3_whistledPitches 33 = .ok (.ishl, 1) := by decide +kernel
theorem dX3_whistledPitches_34 : decode cX3_whistledPitches 34 = .ok (.ior, 1) := by decide +kernel
theorem dX3_whistledPitches_35 : decode cX3_whistledPitches 35 = .ok (.istore_n 2, 1) := by decide +kernel
theorem dX3_whistledPitches_36 : decode cX3_whistledPitches 36 = .ok (.iinc 3 1, 3) := by decide +kernel
theorem dX3_whistledPitches_39 : decode cX3_whistledPitches 39 = .ok (.goto (-30), 3) := by decide +kernel
theorem dX3_whistledPitches_42 : decode cX3_whistledPitches 42 = .ok (.iload_n 2, 1) := by decide +kernel
theorem dX3_whistledPitches_43 : decode cX3_whistledPitches 43 = .ok (.ireturn, 1) := by decide +kernel
theorem dX3_kettleOn_0 : decode cX3_kettleOn 0 = .ok (.iconst 0, 1) := by decide +kernel
theorem dX3_kettleOn_1 : decode cX3_kettleOn 1 = .ok (.istore_n 2, 1) := by decide +kernel
theorem dX3_kettleOn_2 : decode cX3_kettleOn 2 = .ok (.iload_n 2, 1) := by decide +kernel
theorem dX3_kettleOn_3 : decode cX3_kettleOn 3 = .ok (.aload_n 0, 1) := by decide +kernel
theorem dX3_kettleOn_4 : decode cX3_kettleOn 4 = .ok (.getfield 64, 3) := by decide +kernel
theorem dX3_kettleOn_7 : decode cX3_kettleOn 7 = .ok (.if_icmp .ge 21, 3) := by decide +kernel
theorem dX3_kettleOn_10 : decode cX3_kettleOn 10 = .ok (.aload_n 0, 1) := by decide +kernel
theorem dX3_kettleOn_11 : decode cX3_kettleOn 11 = .ok (.getfield 39, 3) := by decide +kernel
theorem dX3_kettleOn_14 : decode cX3_kettleOn 14 = .ok (.iload_n 2, 1) := by decide +kernel
theorem dX3_kettleOn_15 : decode cX3_kettleOn 15 = .ok (.iaload, 1) := by decide +kernel
theorem dX3_kettleOn_16 : decode cX3_kettleOn 16 = .ok (.iload_n 1, 1) := by decide +kernel
theorem dX3_kettleOn_17 : decode cX3_kettleOn 17 = .ok (.if_icmp .ne 5, 3) := by decide +kernel
theorem dX3_kettleOn_20 : decode cX3_kettleOn 20 = .ok (.iload_n 2, 1) := by decide +kernel
theorem dX3_kettleOn_21 : decode cX3_kettleOn 21 = .ok (.ireturn, 1) := by decide +kernel
theorem dX3_kettleOn_22 : decode cX3_kettleOn 22 = .ok (.iinc 2 1, 3) := by decide +kernel
theorem dX3_kettleOn_25 : decode cX3_kettleOn 25 = .ok (.goto (-23), 3) := by decide +kernel
theorem dX3_kettleOn_28 : decode cX3_kettleOn 28 = .ok (.iconst (-1), 1) := by decide +kernel
theorem dX3_kettleOn_29 : decode cX3_kettleOn 29 = .ok (.ireturn, 1) := by decide +kernel
theorem dX3_stoveWithPitch_0 : decode cX3_stoveWithPitch 0 = .ok (.iconst 0, 1) := by decide +kernel
theorem dX3_stoveWithPitch_1 : decode cX3_stoveWithPitch 1 = .ok (.istore_n 2, 1) := by decide +kernel
theorem dX3_stoveWithPitch_2 : decode cX3_stoveWithPitch 2 = .ok (.iload_n 2, 1) := by decide +kernel
theorem dX3_stoveWithPitch_3 : decode cX3_stoveWithPitch 3 = .ok (.aload_n 0, 1) := by decide +kernel
theorem dX3_stoveWithPitch_4 : decode cX3_stoveWithPitch 4 = .ok (.getfield 64, 3) := by decide +kernel
theorem dX3_stoveWithPitch_7 : decode cX3_stoveWithPitch 7 = .ok (.if_icmp .ge 36, 3) := by decide +kernel
theorem dX3_stoveWithPitch_10 : decode cX3_stoveWithPitch 10 = .ok (.aload_n 0, 1) := by decide +kernel
theorem dX3_stoveWithPitch_11 : decode cX3_stoveWithPitch 11 = .ok (.getfield 30, 3) := by decide +kernel
theorem dX3_stoveWithPitch_14 : decode cX3_stoveWithPitch 14 = .ok (.iload_n 2, 1) := by decide +kernel
theorem dX3_stoveWithPitch_15 : decode cX3_stoveWithPitch 15 = .ok (.iaload, 1) := by decide +kernel
theorem dX3_stoveWithPitch_16 : decode cX3_stoveWithPitch 16 = .ok (.iload_n 1, 1) := by decide +kernel
theorem dX3_stoveWithPitch_17 : decode cX3_stoveWithPitch 17 = .ok (.if_icmp .ne 20, 3) := by decide +kernel
theorem dX3_stoveWithPitch_20 : decode cX3_stoveWithPitch 20 = .ok (.aload_n 0, 1) := by decide +kernel
theorem dX3_stoveWithPitch_21 : decode cX3_stoveWithPitch 21 = .ok (.getfield 39, 3) := by decide +kernel
theorem dX3_stoveWithPitch_24 : decode cX3_stoveWithPitch 24 = .ok (.iload_n 2, 1) := by decide +kernel
theorem dX3_stoveWithPitch_25 : decode cX3_stoveWithPitch 25 = .ok (.iaload, 1) := by decide +kernel
theorem dX3_stoveWithPitch_26 : decode cX3_stoveWithPitch 26 = .ok (.iconst (-1), 1) := by decide +kernel
theorem dX3_stoveWithPitch_27 : decode cX3_stoveWithPitch 27 = .ok (.if_icmp .eq 10, 3) := by decide +kernel
theorem dX3_stoveWithPitch_30 : decode cX3_stoveWithPitch 30 = .ok (.aload_n 0, 1) := by decide +kernel
theorem dX3_stoveWithPitch_31 : decode cX3_stoveWithPitch 31 = .ok (.getfield 39, 3) := by decide +kernel
theorem dX3_stoveWithPitch_34 : decode cX3_stoveWithPitch 34 = .ok (.iload_n 2, 1) := by decide +kernel
theorem dX3_stoveWithPitch_35 : decode cX3_stoveWithPitch 35 = .ok (.iaload, 1) := by decide +kernel
theorem dX3_stoveWithPitch_36 : decode cX3_stoveWithPitch 36 = .ok (.ireturn, 1) := by decide +kernel
theorem dX3_stoveWithPitch_37 : decode cX3_stoveWithPitch 37 = .ok (.iinc 2 1, 3) := by decide +kernel
theorem dX3_stoveWithPitch_40 : decode cX3_stoveWithPitch 40 = .ok (.goto (-38), 3) := by decide +kernel
theorem dX3_stoveWithPitch_43 : decode cX3_stoveWithPitch 43 = .ok (.iconst (-1), 1) := by decide +kernel
theorem dX3_stoveWithPitch_44 : decode cX3_stoveWithPitch 44 = .ok (.ireturn, 1) := by decide +kernel
theorem dX3_hasPitchOnTwoStoves_0 : decode cX3_hasPitchOnTwoStoves 0 = .ok (.iconst 0, 1) := by decide +kernel
theorem dX3_hasPitchOnTwoStoves_1 : decode cX3_hasPitchOnTwoStoves 1 = .ok (.istore_n 1, 1) := by decide +kernel
theorem dX3_hasPitchOnTwoStoves_2 : decode cX3_hasPitchOnTwoStoves 2 = .ok (.iconst 0, 1) := by decide +kernel
theorem dX3_hasPitchOnTwoStoves_3 : decode cX3_hasPitchOnTwoStoves 3 = .ok (.istore_n 2, 1) := by decide +kernel
theorem dX3_hasPitchOnTwoStoves_4 : decode cX3_hasPitchOnTwoStoves 4 = .ok (.iload_n 2, 1) := by decide +kernel
theorem dX3_hasPitchOnTwoStoves_5 : decode cX3_hasPitchOnTwoStoves 5 = .ok (.aload_n 0, 1) := by decide +kernel
theorem dX3_hasPitchOnTwoStoves_6 : decode cX3_hasPitchOnTwoStoves 6 = .ok (.getfield 64, 3) := by decide +kernel
theorem dX3_hasPitchOnTwoStoves_9 : decode cX3_hasPitchOnTwoStoves 9 = .ok (.if_icmp .ge 45, 3) := by decide +kernel
theorem dX3_hasPitchOnTwoStoves_12 : decode cX3_hasPitchOnTwoStoves 12 = .ok (.aload_n 0, 1) := by decide +kernel
theorem dX3_hasPitchOnTwoStoves_13 : decode cX3_hasPitchOnTwoStoves 13 = .ok (.getfield 39, 3) := by decide +kernel
theorem dX3_hasPitchOnTwoStoves_16 : decode cX3_hasPitchOnTwoStoves 16 = .ok (.iload_n 2, 1) := by decide +kernel
theorem dX3_hasPitchOnTwoStoves_17 : decode cX3_hasPitchOnTwoStoves 17 = .ok (.iaload, 1) := by decide +kernel
theorem dX3_hasPitchOnTwoStoves_18 : decode cX3_hasPitchOnTwoStoves 18 = .ok (.iconst (-1), 1) := by decide +kernel
theorem dX3_hasPitchOnTwoStoves_19 : decode cX3_hasPitchOnTwoStoves 19 = .ok (.if_icmp .eq 29, 3) := by decide +kernel
theorem dX3_hasPitchOnTwoStoves_22 : decode cX3_hasPitchOnTwoStoves 22 = .ok (.iload_n 1, 1) := by decide +kernel
theorem dX3_hasPitchOnTwoStoves_23 : decode cX3_hasPitchOnTwoStoves 23 = .ok (.aload_n 0, 1) := by decide +kernel
theorem dX3_hasPitchOnTwoStoves_24 : decode cX3_hasPitchOnTwoStoves 24 = .ok (.getfield 30, 3) := by decide +kernel
theorem dX3_hasPitchOnTwoStoves_27 : decode cX3_hasPitchOnTwoStoves 27 = .ok (.iload_n 2, 1) := by decide +kernel
theorem dX3_hasPitchOnTwoStoves_28 : decode cX3_hasPitchOnTwoStoves 28 = .ok (.iaload, 1) := by decide +kernel
theorem dX3_hasPitchOnTwoStoves_29 : decode cX3_hasPitchOnTwoStoves 29 = .ok (.invokestatic 114, 3) := by decide +kernel
theorem dX3_hasPitchOnTwoStoves_32 : decode cX3_hasPitchOnTwoStoves 32 = .ok (.ifCond .eq 5, 3) := by decide +kernel
theorem dX3_hasPitchOnTwoStoves_35 : decode cX3_hasPitchOnTwoStoves 35 = .ok (.iconst 1, 1) := by decide +kernel
theorem dX3_hasPitchOnTwoStoves_36 : decode cX3_hasPitchOnTwoStoves 36 = .ok (.ireturn, 1) := by decide +kernel
theorem dX3_hasPitchOnTwoStoves_37 : decode cX3_hasPitchOnTwoStoves 37 = .ok (.iload_n 1, 1) := by decide +kernel
theorem dX3_hasPitchOnTwoStoves_38 : decode cX3_hasPitchOnTwoStoves 38 = .ok (.iconst 1, 1) := by decide +kernel
theorem dX3_hasPitchOnTwoStoves_39 : decode cX3_hasPitchOnTwoStoves 39 = .ok (.aload_n 0, 1) := by decide +kernel
theorem dX3_hasPitchOnTwoStoves_40 : decode cX3_hasPitchOnTwoStoves 40 = .ok (.getfield 30, 3) := by decide +kernel
theorem dX3_hasPitchOnTwoStoves_43 : decode cX3_hasPitchOnTwoStoves 43 = .ok (.iload_n 2, 1) := by decide +kernel
theorem dX3_hasPitchOnTwoStoves_44 : decode cX3_hasPitchOnTwoStoves 44 = .ok (.iaload, 1) := by decide +kernel
theorem dX3_hasPitchOnTwoStoves_45 : decode cX3_hasPitchOnTwoStoves 45 = .ok (.ishl, 1) := by decide +kernel
theorem dX3_hasPitchOnTwoStoves_46 : decode cX3_hasPitchOnTwoStoves 46 = .ok (.ior, 1) := by decide +kernel
theorem dX3_hasPitchOnTwoStoves_47 : decode cX3_hasPitchOnTwoStoves 47 = .ok (.istore_n 1, 1) := by decide +kernel
theorem dX3_hasPitchOnTwoStoves_48 : decode cX3_hasPitchOnTwoStoves 48 = .ok (.iinc 2 1, 3) := by decide +kernel
theorem dX3_hasPitchOnTwoStoves_51 : decode cX3_hasPitchOnTwoStoves 51 = .ok (.goto (-47), 3) := by decide +kernel
theorem dX3_hasPitchOnTwoStoves_54 : decode cX3_hasPitchOnTwoStoves 54 = .ok (.iconst 0, 1) := by decide +kernel
theorem dX3_hasPitchOnTwoStoves_55 : decode cX3_hasPitchOnTwoStoves 55 = .ok (.ireturn, 1) := by decide +kernel
theorem dX3_countPitchesOf_0 : decode cX3_countPitchesOf 0 = .ok (.iconst 0, 1) := by decide +kernel
theorem dX3_countPitchesOf_1 : decode cX3_countPitchesOf 1 = .ok (.istore_n 2, 1) := by decide +kernel
theorem dX3_countPitchesOf_2 : decode cX3_countPitchesOf 2 = .ok (.iconst 1, 1) := by decide +kernel
theorem dX3_countPitchesOf_3 : decode cX3_countPitchesOf 3 = .ok (.istore_n 3, 1) := by decide +kernel
theorem dX3_countPitchesOf_4 : decode cX3_countPitchesOf 4 = .ok (.iload_n 3, 1) := by decide +kernel
theorem dX3_countPitchesOf_5 : decode cX3_countPitchesOf 5 = .ok (.bipush 12, 2) := by decide +kernel
theorem dX3_countPitchesOf_7 : decode cX3_countPitchesOf 7 = .ok (.if_icmp .gt 22, 3) := by decide +kernel
theorem dX3_countPitchesOf_10 : decode cX3_countPitchesOf 10 = .ok (.aload_n 0, 1) := by decide +kernel
theorem dX3_countPitchesOf_11 : decode cX3_countPitchesOf 11 = .ok (.getfield 9, 3) := by decide +kernel
theorem dX3_countPitchesOf_14 : decode cX3_countPitchesOf 14 = .ok (.iload_n 3, 1) := by decide +kernel
theorem dX3_countPitchesOf_15 : decode cX3_countPitchesOf 15 = .ok (.iaload, 1) := by decide +kernel
theorem dX3_countPitchesOf_16 : decode cX3_countPitchesOf 16 = .ok (.iload_n 1, 1) := by decide +kernel
theorem dX3_countPitchesOf_17 : decode cX3_countPitchesOf 17 = .ok (.if_icmp .ne 6, 3) := by decide +kernel
theorem dX3_countPitchesOf_20 : decode cX3_countPitchesOf 20 = .ok (.iinc 2 1, 3) := by decide +kernel
theorem dX3_countPitchesOf_23 : decode cX3_countPitchesOf 23 = .ok (.iinc 3 1, 3) := by decide +kernel
theorem dX3_countPitchesOf_26 : decode cX3_countPitchesOf 26 = .ok (.goto (-22), 3) := by decide +kernel
theorem dX3_countPitchesOf_29 : decode cX3_countPitchesOf 29 = .ok (.iload_n 2, 1) := by decide +kernel
theorem dX3_countPitchesOf_30 : decode cX3_countPitchesOf 30 = .ok (.ireturn, 1) := by decide +kernel
theorem dX3_countKettlesOf_0 : decode cX3_countKettlesOf 0 = .ok (.iconst 0, 1) := by decide +kernel
theorem dX3_countKettlesOf_1 : decode cX3_countKettlesOf 1 = .ok (.istore_n 2, 1) := by decide +kernel
theorem dX3_countKettlesOf_2 : decode cX3_countKettlesOf 2 = .ok (.iconst 0, 1) := by decide +kernel
theorem dX3_countKettlesOf_3 : decode cX3_countKettlesOf 3 = .ok (.istore_n 3, 1) := by decide +kernel
theorem dX3_countKettlesOf_4 : decode cX3_countKettlesOf 4 = .ok (.iload_n 3, 1) := by decide +kernel
theorem dX3_countKettlesOf_5 : decode cX3_countKettlesOf 5 = .ok (.aload_n 0, 1) := by decide +kernel
theorem dX3_countKettlesOf_6 : decode cX3_countKettlesOf 6 = .ok (.getfield 64, 3) := by decide +kernel
theorem dX3_countKettlesOf_9 : decode cX3_countKettlesOf 9 = .ok (.if_icmp .ge 22, 3) := by decide +kernel
theorem dX3_countKettlesOf_12 : decode cX3_countKettlesOf 12 = .ok (.aload_n 0, 1) := by decide +kernel
theorem dX3_countKettlesOf_13 : decode cX3_countKettlesOf 13 = .ok (.getfield 27, 3) := by decide +kernel
theorem dX3_countKettlesOf_16 : decode cX3_countKettlesOf 16 = .ok (.iload_n 3, 1) := by decide +kernel
theorem dX3_countKettlesOf_17 : decode cX3_countKettlesOf 17 = .ok (.iaload, 1) := by decide +kernel
theorem dX3_countKettlesOf_18 : decode cX3_countKettlesOf 18 = .ok (.iload_n 1, 1) := by decide +kernel
theorem dX3_countKettlesOf_19 : decode cX3_countKettlesOf 19 = .ok (.if_icmp .ne 6, 3) := by decide +kernel
theorem dX3_countKettlesOf_22 : decode cX3_countKettlesOf 22 = .ok (.iinc 2 1, 3) := by decide +kernel
theorem dX3_countKettlesOf_25 : decode cX3_countKettlesOf 25 = .ok (.iinc 3 1, 3) := by decide +kernel
theorem dX3_countKettlesOf_28 : decode cX3_countKettlesOf 28 = .ok (.goto (-24), 3) := by decide +kernel
theorem dX3_countKettlesOf_31 : decode cX3_countKettlesOf 31 = .ok (.iload_n 2, 1) := by decide +kernel
theorem dX3_countKettlesOf_32 : decode cX3_countKettlesOf 32 = .ok (.ireturn, 1) := by decide +kernel
theorem dX3_countWhistlersOf_0 : decode cX3_countWhistlersOf 0 = .ok (.aload_n 0, 1) := by decide +kernel
theorem dX3_countWhistlersOf_1 : decode cX3_countWhistlersOf 1 = .ok (.invokevirtual 110, 3) := by decide +kernel
theorem dX3_countWhistlersOf_4 : decode cX3_countWhistlersOf 4 = .ok (.istore_n 2, 1) := by decide +kernel
theorem dX3_countWhistlersOf_5 : decode cX3_countWhistlersOf 5 = .ok (.iconst 0, 1) := by decide +kernel
theorem dX3_countWhistlersOf_6 : decode cX3_countWhistlersOf 6 = .ok (.istore_n 3, 1) := by decide +kernel
theorem dX3_countWhistlersOf_7 : decode cX3_countWhistlersOf 7 = .ok (.iconst 0, 1) := by decide +kernel
theorem dX3_countWhistlersOf_8 : decode cX3_countWhistlersOf 8 = .ok (.istore 4, 2) := by decide +kernel
theorem dX3_countWhistlersOf_10 : decode cX3_countWhistlersOf 10 = .ok (.iload 4, 2) := by decide +kernel
theorem dX3_countWhistlersOf_12 : decode cX3_countWhistlersOf 12 = .ok (.aload_n 0, 1) := by decide +kernel
theorem dX3_countWhistlersOf_13 : decode cX3_countWhistlersOf 13 = .ok (.getfield 64, 3) := by decide +kernel
theorem dX3_countWhistlersOf_16 : decode cX3_countWhistlersOf 16 = .ok (.if_icmp .ge 32, 3) := by decide +kernel
theorem dX3_countWhistlersOf_19 : decode cX3_countWhistlersOf 19 = .ok (.aload_n 0, 1) := by decide +kernel
theorem dX3_countWhistlersOf_20 : decode cX3_countWhistlersOf 20 = .ok (.getfield 27, 3) := by decide +kernel
theorem dX3_countWhistlersOf_23 : decode cX3_countWhistlersOf 23 = .ok (.iload 4, 2) := by decide +kernel
theorem dX3_countWhistlersOf_25 : decode cX3_countWhistlersOf 25 = .ok (.iaload, 1) := by decide +kernel
theorem dX3_countWhistlersOf_26 : decode cX3_countWhistlersOf 26 = .ok (.iload_n 1, 1) := by decide +kernel
theorem dX3_countWhistlersOf_27 : decode cX3_countWhistlersOf 27 = .ok (.if_icmp .ne 15, 3) := by decide +kernel
theorem dX3_countWhistlersOf_30 : decode cX3_countWhistlersOf 30 = .ok (.iload_n 2, 1) := by decide +kernel
theorem dX3_countWhistlersOf_31 : decode cX3_countWhistlersOf 31 = .ok (.iload 4, 2) := by decide +kernel
theorem dX3_countWhistlersOf_33 : decode cX3_countWhistlersOf 33 = .ok (.invokestatic 114, 3) := by decide +kernel
theorem dX3_countWhistlersOf_36 : decode cX3_countWhistlersOf 36 = .ok (.ifCond .eq 6, 3) := by decide +kernel
theorem dX3_countWhistlersOf_39 : decode cX3_countWhistlersOf 39 = .ok (.iinc 3 1, 3) := by decide +kernel
theorem dX3_countWhistlersOf_42 : decode cX3_countWhistlersOf 42 = .ok (.iinc 4 1, 3) := by decide +kernel
theorem dX3_countWhistlersOf_45 : decode cX3_countWhistlersOf 45 = .ok (.goto (-35), 3) := by decide +kernel
theorem dX3_countWhistlersOf_48 : decode cX3_countWhistlersOf 48 = .ok (.iload_n 3, 1) := by decide +kernel
theorem dX3_countWhistlersOf_49 : decode cX3_countWhistlersOf 49 = .ok (.ireturn, 1) := by decide +kernel
theorem dX3_countOnStoves_0 : decode cX3_countOnStoves 0 = .ok (.iconst 0, 1) := by decide +kernel
theorem dX3_countOnStoves_1 : decode cX3_countOnStoves 1 = .ok (.istore_n 1, 1) := by decide +kernel
theorem dX3_countOnStoves_2 : decode cX3_countOnStoves 2 = .ok (.iconst 0, 1) := by decide +kernel
theorem dX3_countOnStoves_3 : decode cX3_countOnStoves 3 = .ok (.istore_n 2, 1) := by decide +kernel
theorem dX3_countOnStoves_4 : decode cX3_countOnStoves 4 = .ok (.iload_n 2, 1) := by decide +kernel
theorem dX3_countOnStoves_5 : decode cX3_countOnStoves 5 = .ok (.aload_n 0, 1) := by decide +kernel
theorem dX3_countOnStoves_6 : decode cX3_countOnStoves 6 = .ok (.getfield 64, 3) := by decide +kernel
theorem dX3_countOnStoves_9 : decode cX3_countOnStoves 9 = .ok (.if_icmp .ge 22, 3) := by decide +kernel
theorem dX3_countOnStoves_12 : decode cX3_countOnStoves 12 = .ok (.aload_n 0, 1) := by decide +kernel
theorem dX3_countOnStoves_13 : decode cX3_countOnStoves 13 = .ok (.getfield 39, 3) := by decide +kernel
theorem dX3_countOnStoves_16 : decode cX3_countOnStoves 16 = .ok (.iload_n 2, 1) := by decide +kernel
theorem dX3_countOnStoves_17 : decode cX3_countOnStoves 17 = .ok (.iaload, 1) := by decide +kernel
theorem dX3_countOnStoves_18 : decode cX3_countOnStoves 18 = .ok (.iconst (-1), 1) := by decide +kernel
theorem dX3_countOnStoves_19 : decode cX3_countOnStoves 19 = .ok (.if_icmp .eq 6, 3) := by decide +kernel
theorem dX3_countOnStoves_22 : decode cX3_countOnStoves 22 = .ok (.iinc 1 1, 3) := by decide +kernel
theorem dX3_countOnStoves_25 : decode cX3_countOnStoves 25 = .ok (.iinc 2 1, 3) := by decide +kernel
theorem dX3_countOnStoves_28 : decode cX3_countOnStoves 28 = .ok (.goto (-24), 3) := by decide +kernel
theorem dX3_countOnStoves_31 : decode cX3_countOnStoves 31 = .ok (.iload_n 1, 1) := by decide +kernel
theorem dX3_countOnStoves_32 : decode cX3_countOnStoves 32 = .ok (.ireturn, 1) := by decide +kernel
theorem dX3_countBoiling_0 : decode cX3_countBoiling 0 = .ok (.iconst 0, 1) := by decide +kernel
theorem dX3_countBoiling_1 : decode cX3_countBoiling 1 = .ok (.istore_n 1, 1) := by decide +kernel
theorem dX3_countBoiling_2 : decode cX3_countBoiling 2 = .ok (.iconst 0, 1) := by decide +kernel
theorem dX3_countBoiling_3 : decode cX3_countBoiling 3 = .ok (.istore_n 2, 1) := by decide +kernel
theorem dX3_countBoiling_4 : decode cX3_countBoiling 4 = .ok (.iload_n 2, 1) := by decide +kernel
theorem dX3_countBoiling_5 : decode cX3_countBoiling 5 = .ok (.aload_n 0, 1) := by decide +kernel
theorem dX3_countBoiling_6 : decode cX3_countBoiling 6 = .ok (.getfield 64, 3) := by decide +kernel
theorem dX3_countBoiling_9 : decode cX3_countBoiling 9 = .ok (.if_icmp .ge 20, 3) := by decide +kernel
theorem dX3_countBoiling_12 : decode cX3_countBoiling 12 = .ok (.aload_n 0, 1) := by decide +kernel
theorem dX3_countBoiling_13 : decode cX3_countBoiling 13 = .ok (.iload_n 2, 1) := by decide +kernel
theorem dX3_countBoiling_14 : decode cX3_countBoiling 14 = .ok (.invokevirtual 93, 3) := by decide +kernel
theorem dX3_countBoiling_17 : decode cX3_countBoiling 17 = .ok (.ifCond .eq 6, 3) := by decide +kernel
theorem dX3_countBoiling_20 : decode cX3_countBoiling 20 = .ok (.iinc 1 1, 3) := by decide +kernel
theorem dX3_countBoiling_23 : decode cX3_countBoiling 23 = .ok (.iinc 2 1, 3) := by decide +kernel
theorem dX3_countBoiling_26 : decode cX3_countBoiling 26 = .ok (.goto (-22), 3) := by decide +kernel
theorem dX3_countBoiling_29 : decode cX3_countBoiling 29 = .ok (.iload_n 1, 1) := by decide +kernel
theorem dX3_countBoiling_30 : decode cX3_countBoiling 30 = .ok (.ireturn, 1) := by decide +kernel
theorem dX3_countLidsOn_0 : decode cX3_countLidsOn 0 = .ok (.iconst 0, 1) := by decide +kernel
theorem dX3_countLidsOn_1 : decode cX3_countLidsOn 1 = .ok (.istore_n 1, 1) := by decide +kernel
theorem dX3_countLidsOn_2 : decode cX3_countLidsOn 2 = .ok (.iconst 0, 1) := by decide +kernel
theorem dX3_countLidsOn_3 : decode cX3_countLidsOn 3 = .ok (.istore_n 2, 1) := by decide +kernel
theorem dX3_countLidsOn_4 : decode cX3_countLidsOn 4 = .ok (.iload_n 2, 1) := by decide +kernel
theorem dX3_countLidsOn_5 : decode cX3_countLidsOn 5 = .ok (.aload_n 0, 1) := by decide +kernel
theorem dX3_countLidsOn_6 : decode cX3_countLidsOn 6 = .ok (.getfield 64, 3) := by decide +kernel
theorem dX3_countLidsOn_9 : decode cX3_countLidsOn 9 = .ok (.if_icmp .ge 18, 3) := by decide +kernel
theorem dX3_countLidsOn_12 : decode cX3_countLidsOn 12 = .ok (.iload_n 1, 1) := by decide +kernel
theorem dX3_countLidsOn_13 : decode cX3_countLidsOn 13 = .ok (.aload_n 0, 1) := by decide +kernel
theorem dX3_countLidsOn_14 : decode cX3_countLidsOn 14 = .ok (.getfield 45, 3) := by decide +kernel
theorem dX3_countLidsOn_17 : decode cX3_countLidsOn 17 = .ok (.iload_n 2, 1) := by decide +kernel
theorem dX3_countLidsOn_18 : decode cX3_countLidsOn 18 = .ok (.iaload, 1) := by decide +kernel
theorem dX3_countLidsOn_19 : decode cX3_countLidsOn 19 = .ok (.iadd, 1) := by decide +kernel
theorem dX3_countLidsOn_20 : decode cX3_countLidsOn 20 = .ok (.istore_n 1, 1) := by decide +kernel
theorem dX3_countLidsOn_21 : decode cX3_countLidsOn 21 = .ok (.iinc 2 1, 3) := by decide +kernel
theorem dX3_countLidsOn_24 : decode cX3_countLidsOn 24 = .ok (.goto (-20), 3) := by decide +kernel
theorem dX3_countLidsOn_27 : decode cX3_countLidsOn 27 = .ok (.iload_n 1, 1) := by decide +kernel
theorem dX3_countLidsOn_28 : decode cX3_countLidsOn 28 = .ok (.ireturn, 1) := by decide +kernel
theorem dX3_countLidsBarred_0 : decode cX3_countLidsBarred 0 = .ok (.iconst 0, 1) := by decide +kernel
theorem dX3_countLidsBarred_1 : decode cX3_countLidsBarred 1 = .ok (.istore_n 1, 1) := by decide +kernel
theorem dX3_countLidsBarred_2 : decode cX3_countLidsBarred 2 = .ok (.iconst 0, 1) := by decide +kernel
theorem dX3_countLidsBarred_3 : decode cX3_countLidsBarred 3 = .ok (.istore_n 2, 1) := by decide +kernel
theorem dX3_countLidsBarred_4 : decode cX3_countLidsBarred 4 = .ok (.iload_n 2, 1) := by decide +kernel
theorem dX3_countLidsBarred_5 : decode cX3_countLidsBarred 5 = .ok (.aload_n 0, 1) := by decide +kernel
theorem dX3_countLidsBarred_6 : decode cX3_countLidsBarred 6 = .ok (.getfield 64, 3) := by decide +kernel
theorem dX3_countLidsBarred_9 : decode cX3_countLidsBarred 9 = .ok (.if_icmp .ge 18, 3) := by decide +kernel
theorem dX3_countLidsBarred_12 : decode cX3_countLidsBarred 12 = .ok (.iload_n 1, 1) := by decide +kernel
theorem dX3_countLidsBarred_13 : decode cX3_countLidsBarred 13 = .ok (.aload_n 0, 1) := by decide +kernel
theorem dX3_countLidsBarred_14 : decode cX3_countLidsBarred 14 = .ok (.getfield 48, 3) := by decide +kernel
theorem dX3_countLidsBarred_17 : decode cX3_countLidsBarred 17 = .ok (.iload_n 2, 1) := by decide +kernel
theorem dX3_countLidsBarred_18 : decode cX3_countLidsBarred 18 = .ok (.iaload, 1) := by decide +kernel
theorem dX3_countLidsBarred_19 : decode cX3_countLidsBarred 19 = .ok (.iadd, 1) := by decide +kernel
theorem dX3_countLidsBarred_20 : decode cX3_countLidsBarred 20 = .ok (.istore_n 1, 1) := by decide +kernel
theorem dX3_countLidsBarred_21 : decode cX3_countLidsBarred 21 = .ok (.iinc 2 1, 3) := by decide +kernel
theorem dX3_countLidsBarred_24 : decode cX3_countLidsBarred 24 = .ok (.goto (-20), 3) := by decide +kernel
theorem dX3_countLidsBarred_27 : decode cX3_countLidsBarred 27 = .ok (.iload_n 1, 1) := by decide +kernel
theorem dX3_countLidsBarred_28 : decode cX3_countLidsBarred 28 = .ok (.ireturn, 1) := by decide +kernel
theorem dX3_sumWater_0 : decode cX3_sumWater 0 = .ok (.iconst 0, 1) := by decide +kernel
theorem dX3_sumWater_1 : decode cX3_sumWater 1 = .ok (.istore_n 1, 1) := by decide +kernel
theorem dX3_sumWater_2 : decode cX3_sumWater 2 = .ok (.iconst 0, 1) := by decide +kernel
theorem dX3_sumWater_3 : decode cX3_sumWater 3 = .ok (.istore_n 2, 1) := by decide +kernel
theorem dX3_sumWater_4 : decode cX3_sumWater 4 = .ok (.iload_n 2, 1) := by decide +kernel
theorem dX3_sumWater_5 : decode cX3_sumWater 5 = .ok (.aload_n 0, 1) := by decide +kernel
theorem dX3_sumWater_6 : decode cX3_sumWater 6 = .ok (.getfield 64, 3) := by decide +kernel
theorem dX3_sumWater_9 : decode cX3_sumWater 9 = .ok (.if_icmp .ge 18, 3) := by decide +kernel
theorem dX3_sumWater_12 : decode cX3_sumWater 12 = .ok (.iload_n 1, 1) := by decide +kernel
theorem dX3_sumWater_13 : decode cX3_sumWater 13 = .ok (.aload_n 0, 1) := by decide +kernel
theorem dX3_sumWater_14 : decode cX3_sumWater 14 = .ok (.getfield 33, 3) := by decide +kernel
theorem dX3_sumWater_17 : decode cX3_sumWater 17 = .ok (.iload_n 2, 1) := by decide +kernel
theorem dX3_sumWater_18 : decode cX3_sumWater 18 = .ok (.iaload, 1) := by decide +kernel
theorem dX3_sumWater_19 : decode cX3_sumWater 19 = .ok (.iadd, 1) := by decide +kernel
theorem dX3_sumWater_20 : decode cX3_sumWater 20 = .ok (.istore_n 1, 1) := by decide +kernel
theorem dX3_sumWater_21 : decode cX3_sumWater 21 = .ok (.iinc 2 1, 3) := by decide +kernel
theorem dX3_sumWater_24 : decode cX3_sumWater 24 = .ok (.goto (-20), 3) := by decide +kernel
theorem dX3_sumWater_27 : decode cX3_sumWater 27 = .ok (.iload_n 1, 1) := by decide +kernel
theorem dX3_sumWater_28 : decode cX3_sumWater 28 = .ok (.ireturn, 1) := by decide +kernel
end
section
theorem dL_cell_0 : decode cL_cell 0 = .ok (.iload_n 1, 1) := by decide +kernel
theorem dL_cell_1 : decode cL_cell 1 = .ok (.aload_n 0, 1) := by decide +kernel
theorem dL_cell_2 : decode cL_cell 2 = .ok (.arraylength, 1) := by decide +kernel
theorem dL_cell_3 : decode cL_cell 3 = .ok (.if_icmp .ge 9, 3) := by decide +kernel
theorem dL_cell_6 : decode cL_cell 6 = .ok (.aload_n 0, 1) := by decide +kernel
theorem dL_cell_7 : decode cL_cell 7 = .ok (.iload_n 1, 1) := by decide +kernel
theorem dL_cell_8 : decode cL_cell 8 = .ok (.iaload, 1) := by decide +kernel
theorem dL_cell_9 : decode cL_cell 9 = .ok (.goto 11, 3) := by decide +kernel
theorem dL_cell_12 : decode cL_cell 12 = .ok (.sipush 7919, 3) := by decide +kernel
theorem dL_cell_15 : decode cL_cell 15 = .ok (.iload_n 1, 1) := by decide +kernel
theorem dL_cell_16 : decode cL_cell 16 = .ok (.imul, 1) := by decide +kernel
theorem dL_cell_17 : decode cL_cell 17 = .ok (.bipush 12, 2) := by decide +kernel
theorem dL_cell_19 : decode cL_cell 19 = .ok (.iadd, 1) := by decide +kernel
theorem dL_cell_20 : decode cL_cell 20 = .ok (.ireturn, 1) := by decide +kernel
theorem dL_some_0 : decode cL_some 0 = .ok (.aload_n 0, 1) := by decide +kernel
theorem dL_some_1 : decode cL_some 1 = .ok (.iload_n 1, 1) := by decide +kernel
theorem dL_some_2 : decode cL_some 2 = .ok (.invokestatic 7, 3) := by decide +kernel
theorem dL_some_5 : decode cL_some 5 = .ok (.iconst 3, 1) := by decide +kernel
theorem dL_some_6 : decode cL_some 6 = .ok (.iushr, 1) := by decide +kernel
theorem dL_some_7 : decode cL_some 7 = .ok (.iload_n 2, 1) := by decide +kernel
theorem dL_some_8 : decode cL_some 8 = .ok (.irem, 1) := by decide +kernel
theorem dL_some_9 : decode cL_some 9 = .ok (.ireturn, 1) := by decide +kernel
theorem dL_build_0 : decode cL_build 0 = .ok (.iconst 3, 1) := by decide +kernel
theorem dL_build_1 : decode cL_build 1 = .ok (.aload_n 1, 1) := by decide +kernel
theorem dL_build_2 : decode cL_build 2 = .ok (.iconst 0, 1) := by decide +kernel
theorem dL_build_3 : decode cL_build 3 = .ok (.iconst 4, 1) := by decide +kernel
theorem dL_build_4 : decode cL_build 4 = .ok (.invokestatic 13, 3) := by decide +kernel
theorem dL_build_7 : decode cL_build 7 = .ok (.iadd, 1) := by decide +kernel
theorem dL_build_8 : decode cL_build 8 = .ok (.istore_n 3, 1) := by decide +kernel
theorem dL_build_9 : decode cL_build 9 = .ok (.iconst 0, 1) := by decide +kernel
theorem dL_build_10 : decode cL_build 10 = .ok (.istore 4, 2) := by decide +kernel
theorem dL_build_12 : decode cL_build 12 = .ok (.iload 4, 2) := by decide +kernel
theorem dL_build_14 : decode cL_build 14 = .ok (.bipush 9, 2) := by decide +kernel
theorem dL_build_16 : decode cL_build 16 = .ok (.if_icmp .ge 41, 3) := by decide +kernel
theorem dL_build_19 : decode cL_build 19 = .ok (.aload_n 0, 1) := by decide +kernel
theorem dL_build_20 : decode cL_build 20 = .ok (.aload_n 1, 1) := by decide +kernel
theorem dL_build_21 : decode cL_build 21 = .ok (.iconst 1, 1) := by decide +kernel
theorem dL_build_22 : decode cL_build 22 = .ok (.iload 4, 2) := by decide +kernel
theorem dL_build_24 : decode cL_build 24 = .ok (.iadd, 1) := by decide +kernel
theorem dL_build_25 : decode cL_build 25 = .ok (.iconst 4, 1) := by decide +kernel
theorem dL_build_26 : decode cL_build 26 = .ok (.invokestatic 13, 3) := by decide +kernel
theorem dL_build_29 : decode cL_build 29 = .ok (.iconst 1, 1) := by decide +kernel
theorem dL_build_30 : decode cL_build 30 = .ok (.aload_n 1, 1) := by decide +kernel
theorem dL_build_31 : decode cL_build 31 = .ok (.bipush 11, 2) := by decide +kernel
theorem dL_build_33 : decode cL_build 33 = .ok (.bipush 12, 2) := by decide +kernel
theorem dL_build_35 : decode cL_build 35 = .ok (.invokestatic 13, 3) := by decide +kernel
theorem dL_build_38 : decode cL_build 38 = .ok (.iconst 5, 1) := by decide +kernel
theorem dL_build_39 : decode cL_build 39 = .ok (.iload 4, 2) := by decide +kernel
theorem dL_build_41 : decode cL_build 41 = .ok (.imul, 1) := by decide +kernel
theorem dL_build_42 : decode cL_build 42 = .ok (.iadd, 1) := by decide +kernel
theorem dL_build_43 : decode cL_build 43 = .ok (.bipush 12, 2) := by decide +kernel
theorem dL_build_45 : decode cL_build 45 = .ok (.irem, 1) := by decide +kernel
theorem dL_build_46 : decode cL_build 46 = .ok (.iadd, 1) := by decide +kernel
theorem dL_build_47 : decode cL_build 47 = .ok (.invokevirtual 17, 3) := by decide +kernel
theorem dL_build_50 : decode cL_build 50 = .ok (.istore_n 2, 1) := by decide +kernel
theorem dL_build_51 : decode cL_build 51 = .ok (.iinc 4 1, 3) := by decide +kernel
theorem dL_build_54 : decode cL_build 54 = .ok (.goto (-42), 3) := by decide +kernel
theorem dL_build_57 : decode cL_build 57 = .ok (.iconst 0, 1) := by decide +kernel
theorem dL_build_58 : decode cL_build 58 = .ok (.istore 4, 2) := by decide +kernel
theorem dL_build_60 : decode cL_build 60 = .ok (.iload 4, 2) := by decide +kernel
theorem dL_build_62 : decode cL_build 62 = .ok (.iload_n 3, 1) := by decide +kernel
theorem dL_build_63 : decode cL_build 63 = .ok (.if_icmp .ge 36, 3) := by decide +kernel
theorem dL_build_66 : decode cL_build 66 = .ok (.aload_n 0, 1) := by decide +kernel
theorem dL_build_67 : decode cL_build 67 = .ok (.aload_n 1, 1) := by decide +kernel
theorem dL_build_68 : decode cL_build 68 = .ok (.bipush 13, 2) := by decide +kernel
theorem dL_build_70 : decode cL_build 70 = .ok (.iload 4, 2) := by decide +kernel
theorem dL_build_72 : decode cL_build 72 = .ok (.iadd, 1) := by decide +kernel
theorem dL_build_73 : decode cL_build 73 = .ok (.bipush 12, 2) := by decide +kernel
theorem dL_build_75 : decode cL_build 75 = .ok (.invokestatic 13, 3) := by decide +kernel
theorem dL_build_78 : decode cL_build 78 = .ok (.aload_n 1, 1) := by decide +kernel
theorem dL_build_79 : decode cL_build 79 = .ok (.bipush 20, 2) := by decide +kernel
theorem dL_build_81 : decode cL_build 81 = .ok (.iload 4, 2) := by decide +kernel
theorem dL_build_83 : decode cL_build 83 = .ok (.iadd, 1) := by decide +kernel
theorem dL_build_84 : decode cL_build 84 = .ok (.bipush 21, 2) := by decide +kernel
theorem dL_build_86 : decode cL_build 86 = .ok (.invokestatic 13, 3) := by decide +kernel
theorem dL_build_89 : decode cL_build 89 = .ok (.invokestatic 23, 3) := by decide +kernel
theorem dL_build_92 : decode cL_build 92 = .ok (.istore_n 2, 1) := by decide +kernel
theorem dL_build_93 : decode cL_build 93 = .ok (.iinc 4 1, 3) := by decide +kernel
theorem dL_build_96 : decode cL_build 96 = .ok (.goto (-36), 3) := by decide +kernel
theorem dL_build_99 : decode cL_build 99 = .ok (.iconst 0, 1) := by decide +kernel
theorem dL_build_100 : decode cL_build 100 = .ok (.istore 4, 2) := by decide +kernel
theorem dL_build_102 : decode cL_build 102 = .ok (.iload 4, 2) := by decide +kernel
theorem dL_build_104 : decode cL_build 104 = .ok (.bipush 6, 2) := by decide +kernel
theorem dL_build_106 : decode cL_build 106 = .ok (.if_icmp .ge 27, 3) := by decide +kernel
theorem dL_build_109 : decode cL_build 109 = .ok (.aload_n 0, 1) := by decide +kernel
theorem dL_build_110 : decode cL_build 110 = .ok (.iload 4, 2) := by decide +kernel
theorem dL_build_112 : decode cL_build 112 = .ok (.aload_n 1, 1) := by decide +kernel
theorem dL_build_113 : decode cL_build 113 = .ok (.bipush 28, 2) := by decide +kernel
theorem dL_build_115 : decode cL_build 115 = .ok (.iload 4, 2) := by decide +kernel
theorem dL_build_117 : decode cL_build 117 = .ok (.iadd, 1) := by decide +kernel
theorem dL_build_118 : decode cL_build 118 = .ok (.bipush 6, 2) := by decide +kernel
theorem dL_build_120 : decode cL_build 120 = .ok (.invokestatic 13, 3) := by decide +kernel
theorem dL_build_123 : decode cL_build 123 = .ok (.invokevirtual 27, 3) := by decide +kernel
theorem dL_build_126 : decode cL_build 126 = .ok (.istore_n 2, 1) := by decide +kernel
theorem dL_build_127 : decode cL_build 127 = .ok (.iinc 4 1, 3) := by decide +kernel
theorem dL_build_130 : decode cL_build 130 = .ok (.goto (-28), 3) := by decide +kernel
theorem dL_build_133 : decode cL_build 133 = .ok (.iconst 0, 1) := by decide +kernel
theorem dL_build_134 : decode cL_build 134 = .ok (.istore 4, 2) := by decide +kernel
theorem dL_build_136 : decode cL_build 136 = .ok (.iload 4, 2) := by decide +kernel
theorem dL_build_138 : decode cL_build 138 = .ok (.iload_n 3, 1) := by decide +kernel
theorem dL_build_139 : decode cL_build 139 = .ok (.if_icmp .ge 27, 3) := by decide +kernel
theorem dL_build_142 : decode cL_build 142 = .ok (.aload_n 0, 1) := by decide +kernel
theorem dL_build_143 : decode cL_build 143 = .ok (.iload 4, 2) := by decide +kernel
theorem dL_build_145 : decode cL_build 145 = .ok (.aload_n 1, 1) := by decide +kernel
theorem dL_build_146 : decode cL_build 146 = .ok (.bipush 35, 2) := by decide +kernel
theorem dL_build_148 : decode cL_build 148 = .ok (.iload 4, 2) := by decide +kernel
theorem dL_build_150 : decode cL_build 150 = .ok (.iadd, 1) := by decide +kernel
theorem dL_build_151 : decode cL_build 151 = .ok (.bipush 6, 2) := by decide +kernel
theorem dL_build_153 : decode cL_build 153 = .ok (.invokestatic 13, 3) := by decide +kernel
theorem dL_build_156 : decode cL_build 156 = .ok (.invokevirtual 30, 3) := by decide +kernel
theorem dL_build_159 : decode cL_build 159 = .ok (.istore_n 2, 1) := by decide +kernel
theorem dL_build_160 : decode cL_build 160 = .ok (.iinc 4 1, 3) := by decide +kernel
theorem dL_build_163 : decode cL_build 163 = .ok (.goto (-27), 3) := by decide +kernel
theorem dL_build_166 : decode cL_build 166 = .ok (.iconst 0, 1) := by decide +kernel
theorem dL_build_167 : decode cL_build 167 = .ok (.istore 4, 2) := by decide +kernel
theorem dL_build_169 : decode cL_build 169 = .ok (.iload 4, 2) := by decide +kernel
theorem dL_build_171 : decode cL_build 171 = .ok (.bipush 10, 2) := by decide +kernel
theorem dL_build_173 : decode cL_build 173 = .ok (.if_icmp .ge 21, 3) := by decide +kernel
theorem dL_build_176 : decode cL_build 176 = .ok (.aload_n 0, 1) := by decide +kernel
theorem dL_build_177 : decode cL_build 177 = .ok (.aload_n 1, 1) := by decide +kernel
theorem dL_build_178 : decode cL_build 178 = .ok (.bipush 43, 2) := by decide +kernel
theorem dL_build_180 : decode cL_build 180 = .ok (.iconst 4, 1) := by decide +kernel
theorem dL_build_181 : decode cL_build 181 = .ok (.iload 4, 2) := by decide +kernel
theorem dL_build_183 : decode cL_build 183 = .ok (.imul, 1) := by decide +kernel
theorem dL_build_184 : decode cL_build 184 = .ok (.iadd, 1) := by decide +kernel
theorem dL_build_185 : decode cL_build 185 = .ok (.invokestatic 33, 3) := by decide +kernel
theorem dL_build_188 : decode cL_build 188 = .ok (.iinc 4 1, 3) := by decide +kernel
theorem dL_build_191 : decode cL_build 191 = .ok (.goto (-22), 3) := by decide +kernel
theorem dL_build_194 : decode cL_build 194 = .ok (.return_, 1) := by decide +kernel
theorem dL_brings_0 : decode cL_brings 0 = .ok (.iconst 0, 1) := by decide +kernel
theorem dL_brings_1 : decode cL_brings 1 = .ok (.istore_n 3, 1) := by decide +kernel
theorem dL_brings_2 : decode cL_brings 2 = .ok (.iload_n 3, 1) := by decide +kernel
theorem dL_brings_3 : decode cL_brings 3 = .ok (.bipush 12, 2) := by decide +kernel
theorem dL_brings_5 : decode cL_brings 5 = .ok (.if_icmp .ge 42, 3) := by decide +kernel
theorem dL_brings_8 : decode cL_brings 8 = .ok (.iconst 1, 1) := by decide +kernel
theorem dL_brings_9 : decode cL_brings 9 = .ok (.iload_n 1, 1) := by decide +kernel
theorem dL_brings_10 : decode cL_brings 10 = .ok (.iload_n 3, 1) := by decide +kernel
theorem dL_brings_11 : decode cL_brings 11 = .ok (.iadd, 1) := by decide +kernel
theorem dL_brings_12 : decode cL_brings 12 = .ok (.bipush 12, 2) := by decide +kernel
theorem dL_brings_14 : decode cL_brings 14 = .ok (.irem, 1) := by decide +kernel
theorem dL_brings_15 : decode cL_brings 15 = .ok (.iadd, 1) := by decide +kernel
theorem dL_brings_16 : decode cL_brings 16 = .ok (.istore 4, 2) := by decide +kernel
theorem dL_brings_18 : decode cL_brings 18 = .ok (.aload_n 0, 1) := by decide +kernel
theorem dL_brings_19 : decode cL_brings 19 = .ok (.iload 4, 2) := by decide +kernel
theorem dL_brings_21 : decode cL_brings 21 = .ok (.invokevirtual 37, 3) := by decide +kernel
theorem dL_brings_24 : decode cL_brings 24 = .ok (.ifCond .lt 17, 3) := by decide +kernel
theorem dL_brings_27 : decode cL_brings 27 = .ok (.aload_n 0, 1) := by decide +kernel
theorem dL_brings_28 : decode cL_brings 28 = .ok (.aload_n 0, 1) := by decide +kernel
theorem dL_brings_29 : decode cL_brings 29 = .ok (.iload 4, 2) := by decide +kernel
theorem dL_brings_31 : decode cL_brings 31 = .ok (.invokevirtual 37, 3) := by decide +kernel
theorem dL_brings_34 : decode cL_brings 34 = .ok (.iload 4, 2) := by decide +kernel
theorem dL_brings_36 : decode cL_brings 36 = .ok (.iload_n 2, 1) := by decide +kernel
theorem dL_brings_37 : decode cL_brings 37 = .ok (.invokevirtual 41, 3) := by decide +kernel
theorem dL_brings_40 : decode cL_brings 40 = .ok (.ireturn, 1) := by decide +kernel
theorem dL_brings_41 : decode cL_brings 41 = .ok (.iinc 3 1, 3) := by decide +kernel
theorem dL_brings_44 : decode cL_brings 44 = .ok (.goto (-42), 3) := by decide +kernel
theorem dL_brings_47 : decode cL_brings 47 = .ok (.sipush (-1011), 3) := by decide +kernel
theorem dL_brings_50 : decode cL_brings 50 = .ok (.ireturn, 1) := by decide +kernel
theorem dL_acts_0 : decode cL_acts 0 = .ok (.aload_n 0, 1) := by decide +kernel
theorem dL_acts_1 : decode cL_acts 1 = .ok (.iconst 0, 1) := by decide +kernel
theorem dL_acts_2 : decode cL_acts 2 = .ok (.invokevirtual 45, 3) := by decide +kernel
theorem dL_acts_5 : decode cL_acts 5 = .ok (.istore_n 3, 1) := by decide +kernel
theorem dL_acts_6 : decode cL_acts 6 = .ok (.aload_n 1, 1) := by decide +kernel
theorem dL_acts_7 : decode cL_acts 7 = .ok (.iload_n 2, 1) := by decide +kernel
theorem dL_acts_8 : decode cL_acts 8 = .ok (.iconst 1, 1) := by decide +kernel
theorem dL_acts_9 : decode cL_acts 9 = .ok (.iadd, 1) := by decide +kernel
theorem dL_acts_10 : decode cL_acts 10 = .ok (.iload_n 3, 1) := by decide +kernel
theorem dL_acts_11 : decode cL_acts 11 = .ok (.invokestatic 13, 3) := by decide +kernel
theorem dL_acts_14 : decode cL_acts 14 = .ok (.istore 4, 2) := by decide +kernel
theorem dL_acts_16 : decode cL_acts 16 = .ok (.aload_n 1, 1) := by decide +kernel
theorem dL_acts_17 : decode cL_acts 17 = .ok (.iload_n 2, 1) := by decide +kernel
theorem dL_acts_18 : decode cL_acts 18 = .ok (.iconst 2, 1) := by decide +kernel
theorem dL_acts_19 : decode cL_acts 19 = .ok (.iadd, 1) := by decide +kernel
theorem dL_acts_20 : decode cL_acts 20 = .ok (.bipush 6, 2) := by decide +kernel
theorem dL_acts_22 : decode cL_acts 22 = .ok (.invokestatic 13, 3) := by decide +kernel
theorem dL_acts_25 : decode cL_acts 25 = .ok (.istore 5, 2) := by decide +kernel
theorem dL_acts_27 : decode cL_acts 27 = .ok (.aload_n 1, 1) := by decide +kernel
theorem dL_acts_28 : decode cL_acts 28 = .ok (.iload_n 2, 1) := by decide +kernel
theorem dL_acts_29 : decode cL_acts 29 = .ok (.iconst 3, 1) := by decide +kernel
theorem dL_acts_30 : decode cL_acts 30 = .ok (.iadd, 1) := by decide +kernel
theorem dL_acts_31 : decode cL_acts 31 = .ok (.bipush 40, 2) := by decide +kernel
theorem dL_acts_33 : decode cL_acts 33 = .ok (.invokestatic 13, 3) := by decide +kernel
theorem dL_acts_36 : decode cL_acts 36 = .ok (.istore 6, 2) := by decide +kernel
theorem dL_acts_38 : decode cL_acts 38 = .ok (.aload_n 1, 1) := by decide +kernel
theorem dL_acts_39 : decode cL_acts 39 = .ok (.iload_n 2, 1) := by decide +kernel
theorem dL_acts_40 : decode cL_acts 40 = .ok (.bipush 14, 2) := by decide +kernel
theorem dL_acts_42 : decode cL_acts 42 = .ok (.invokestatic 13, 3) := by decide +kernel
theorem dL_acts_45 : decode cL_acts 45 = .ok (.tableswitch 199 0 10 #[59, 88, 111, 111, 111, 124, 135, 151, 169, 184, 184], 59) := by decide +kernel
theorem dL_acts_104 : decode cL_acts 104 = .ok (.iload_n 3, 1) := by decide +kernel
theorem dL_acts_105 : decode cL_acts 105 = .ok (.bipush 8, 2) := by decide +kernel
theorem dL_acts_107 : decode cL_acts 107 = .ok (.if_icmp .ge 20, 3) := by decide +kernel
theorem dL_acts_110 : decode cL_acts 110 = .ok (.aload_n 0, 1) := by decide +kernel
theorem dL_acts_111 : decode cL_acts 111 = .ok (.iload 6, 2) := by decide +kernel
theorem dL_acts_113 : decode cL_acts 113 = .ok (.bipush 12, 2) := by decide +kernel
theorem dL_acts_115 : decode cL_acts 115 = .ok (.irem, 1) := by decide +kernel
theorem dL_acts_116 : decode cL_acts 116 = .ok (.iload 6, 2) := by decide +kernel
theorem dL_acts_118 : decode cL_acts 118 = .ok (.bipush 21, 2) := by decide +kernel
theorem dL_acts_120 : decode cL_acts 120 = .ok (.irem, 1) := by decide +kernel
theorem dL_acts_121 : decode cL_acts 121 = .ok (.invokestatic 23, 3) := by decide +kernel
theorem dL_acts_124 : decode cL_acts 124 = .ok (.goto 4, 3) := by decide +kernel
theorem dL_acts_127 : decode cL_acts 127 = .ok (.iconst 0, 1) := by decide +kernel
theorem dL_acts_128 : decode cL_acts 128 = .ok (.istore 7, 2) := by decide +kernel
theorem dL_acts_130 : decode cL_acts 130 = .ok (.goto 127, 3) := by decide +kernel
theorem dL_acts_133 : decode cL_acts 133 = .ok (.aload_n 0, 1) := by decide +kernel
theorem dL_acts_134 : decode cL_acts 134 = .ok (.iload 6, 2) := by decide +kernel
theorem dL_acts_136 : decode cL_acts 136 = .ok (.iconst 4, 1) := by decide +kernel
theorem dL_acts_137 : decode cL_acts 137 = .ok (.irem, 1) := by decide +kernel
theorem dL_acts_138 : decode cL_acts 138 = .ok (.iconst 1, 1) := by decide +kernel
theorem dL_acts_139 : decode cL_acts 139 = .ok (.iload 4, 2) := by decide +kernel
theorem dL_acts_141 : decode cL_acts 141 = .ok (.iload 5, 2) := by decide +kernel
theorem dL_acts_143 : decode cL_acts 143 = .ok (.iadd, 1) := by decide +kernel
theorem dL_acts_144 : decode cL_acts 144 = .ok (.bipush 12, 2) := by decide +kernel
theorem dL_acts_146 : decode cL_acts 146 = .ok (.irem, 1) := by decide +kernel
theorem dL_acts_147 : decode cL_acts 147 = .ok (.iadd, 1) := by decide +kernel
theorem dL_acts_148 : decode cL_acts 148 = .ok (.invokevirtual 17, 3) := by decide +kernel
theorem dL_acts_151 : decode cL_acts 151 = .ok (.istore 7, 2) := by decide +kernel
theorem dL_acts_153 : decode cL_acts 153 = .ok (.goto 104, 3) := by decide +kernel
theorem dL_acts_156 : decode cL_acts 156 = .ok (.aload_n 0, 1) := by decide +kernel
theorem dL_acts_157 : decode cL_acts 157 = .ok (.iload 4, 2) := by decide +kernel
theorem dL_acts_159 : decode cL_acts 159 = .ok (.iload 5, 2) := by decide +kernel
theorem dL_acts_161 : decode cL_acts 161 = .ok (.invokevirtual 30, 3) := by decide +kernel
theorem dL_acts_164 : decode cL_acts 164 = .ok (.istore 7, 2) := by decide +kernel
theorem dL_acts_166 : decode cL_acts 166 = .ok (.goto 91, 3) := by decide +kernel
theorem dL_acts_169 : decode cL_acts 169 = .ok (.aload_n 0, 1) := by decide +kernel
theorem dL_acts_170 : decode cL_acts 170 = .ok (.iload 4, 2) := by decide +kernel
theorem dL_acts_172 : decode cL_acts 172 = .ok (.invokevirtual 48, 3) := by decide +kernel
theorem dL_acts_175 : decode cL_acts 175 = .ok (.istore 7, 2) := by decide +kernel
theorem dL_acts_177 : decode cL_acts 177 = .ok (.goto 80, 3) := by decide +kernel
theorem dL_acts_180 : decode cL_acts 180 = .ok (.aload_n 0, 1) := by decide +kernel
theorem dL_acts_181 : decode cL_acts 181 = .ok (.iload 5, 2) := by decide +kernel
theorem dL_acts_183 : decode cL_acts 183 = .ok (.iload 6, 2) := by decide +kernel
theorem dL_acts_185 : decode cL_acts 185 = .ok (.bipush 6, 2) := by decide +kernel
theorem dL_acts_187 : decode cL_acts 187 = .ok (.irem, 1) := by decide +kernel
theorem dL_acts_188 : decode cL_acts 188 = .ok (.invokevirtual 27, 3) := by decide +kernel
theorem dL_acts_191 : decode cL_acts 191 = .ok (.istore 7, 2) := by decide +kernel
theorem dL_acts_193 : decode cL_acts 193 = .ok (.goto 64, 3) := by decide +kernel
theorem dL_acts_196 : decode cL_acts 196 = .ok (.aload_n 0, 1) := by decide +kernel
theorem dL_acts_197 : decode cL_acts 197 = .ok (.iload 4, 2) := by decide +kernel
theorem dL_acts_199 : decode cL_acts 199 = .ok (.iconst 1, 1) := by decide +kernel
theorem dL_acts_200 : decode cL_acts 200 = .ok (.iload 6, 2) := by decide +kernel
theorem dL_acts_202 : decode cL_acts 202 = .ok (.bipush 20, 2) := by decide +kernel
theorem dL_acts_204 : decode cL_acts 204 = .ok (.irem, 1) := by decide +kernel
theorem dL_acts_205 : decode cL_acts 205 = .ok (.iadd, 1) := by decide +kernel
theorem dL_acts_206 : decode cL_acts 206 = .ok (.invokevirtual 51, 3) := by decide +kernel
theorem dL_acts_209 : decode cL_acts 209 = .ok (.istore 7, 2) := by decide +kernel
theorem dL_acts_211 : decode cL_acts 211 = .ok (.goto 46, 3) := by decide +kernel
theorem dL_acts_214 : decode cL_acts 214 = .ok (.aload_n 0, 1) := by decide +kernel
theorem dL_acts_215 : decode cL_acts 215 = .ok (.iload 4, 2) := by decide +kernel
theorem dL_acts_217 : decode cL_acts 217 = .ok (.iload 6, 2) := by decide +kernel
theorem dL_acts_219 : decode cL_acts 219 = .ok (.iconst 2, 1) := by decide +kernel
theorem dL_acts_220 : decode cL_acts 220 = .ok (.irem, 1) := by decide +kernel
theorem dL_acts_221 : decode cL_acts 221 = .ok (.invokevirtual 54, 3) := by decide +kernel
theorem dL_acts_224 : decode cL_acts 224 = .ok (.istore 7, 2) := by decide +kernel
theorem dL_acts_226 : decode cL_acts 226 = .ok (.goto 31, 3) := by decide +kernel
theorem dL_acts_229 : decode cL_acts 229 = .ok (.aload_n 0, 1) := by decide +kernel
theorem dL_acts_230 : decode cL_acts 230 = .ok (.iload 6, 2) := by decide +kernel
theorem dL_acts_232 : decode cL_acts 232 = .ok (.iconst 4, 1) := by decide +kernel
theorem dL_acts_233 : decode cL_acts 233 = .ok (.irem, 1) := by decide +kernel
theorem dL_acts_234 : decode cL_acts 234 = .ok (.iload 4, 2) := by decide +kernel
theorem dL_acts_236 : decode cL_acts 236 = .ok (.invokevirtual 57, 3) := by decide +kernel
theorem dL_acts_239 : decode cL_acts 239 = .ok (.istore 7, 2) := by decide +kernel
theorem dL_acts_241 : decode cL_acts 241 = .ok (.goto 16, 3) := by decide +kernel
theorem dL_acts_244 : decode cL_acts 244 = .ok (.aload_n 0, 1) := by decide +kernel
theorem dL_acts_245 : decode cL_acts 245 = .ok (.iconst 1, 1) := by decide +kernel
theorem dL_acts_246 : decode cL_acts 246 = .ok (.iload 6, 2) := by decide +kernel
theorem dL_acts_248 : decode cL_acts 248 = .ok (.bipush 6, 2) := by decide +kernel
theorem dL_acts_250 : decode cL_acts 250 = .ok (.irem, 1) := by decide +kernel
theorem dL_acts_251 : decode cL_acts 251 = .ok (.iadd, 1) := by decide +kernel
theorem dL_acts_252 : decode cL_acts 252 = .ok (.invokevirtual 60, 3) := by decide +kernel
theorem dL_acts_255 : decode cL_acts 255 = .ok (.istore 7, 2) := by decide +kernel
theorem dL_acts_257 : decode cL_acts 257 = .ok (.return_, 1) := by decide +kernel
theorem dL_heatUnder_0 : decode cL_heatUnder 0 = .ok (.aload_n 0, 1) := by decide +kernel
theorem dL_heatUnder_1 : decode cL_heatUnder 1 = .ok (.iload_n 1, 1) := by decide +kernel
theorem dL_heatUnder_2 : decode cL_heatUnder 2 = .ok (.iconst 5, 1) := by decide +kernel
theorem dL_heatUnder_3 : decode cL_heatUnder 3 = .ok (.invokevirtual 63, 3) := by decide +kernel
theorem dL_heatUnder_6 : decode cL_heatUnder 6 = .ok (.istore_n 2, 1) := by decide +kernel
theorem dL_heatUnder_7 : decode cL_heatUnder 7 = .ok (.iload_n 2, 1) := by decide +kernel
theorem dL_heatUnder_8 : decode cL_heatUnder 8 = .ok (.ifCond .ge 7, 3) := by decide +kernel
theorem dL_heatUnder_11 : decode cL_heatUnder 11 = .ok (.iconst 0, 1) := by decide +kernel
theorem dL_heatUnder_12 : decode cL_heatUnder 12 = .ok (.goto 9, 3) := by decide +kernel
theorem dL_heatUnder_15 : decode cL_heatUnder 15 = .ok (.aload_n 0, 1) := by decide +kernel
theorem dL_heatUnder_16 : decode cL_heatUnder 16 = .ok (.iload_n 2, 1) := by decide +kernel
theorem dL_heatUnder_17 : decode cL_heatUnder 17 = .ok (.iconst 1, 1) := by decide +kernel
theorem dL_heatUnder_18 : decode cL_heatUnder 18 = .ok (.invokevirtual 66, 3) := by decide +kernel
theorem dL_heatUnder_21 : decode cL_heatUnder 21 = .ok (.ireturn, 1) := by decide +kernel
theorem dL_sound_0 : decode cL_sound 0 = .ok (.iload_n 0, 1) := by decide +kernel
theorem dL_sound_1 : decode cL_sound 1 = .ok (.iload_n 1, 1) := by decide +kernel
theorem dL_sound_2 : decode cL_sound 2 = .ok (.isub, 1) := by decide +kernel
theorem dL_sound_3 : decode cL_sound 3 = .ok (.invokestatic 70, 3) := by decide +kernel
theorem dL_sound_6 : decode cL_sound 6 = .ok (.istore_n 2, 1) := by decide +kernel
theorem dL_sound_7 : decode cL_sound 7 = .ok (.iload_n 2, 1) := by decide +kernel
theorem dL_sound_8 : decode cL_sound 8 = .ok (.iconst 2, 1) := by decide +kernel
theorem dL_sound_9 : decode cL_sound 9 = .ok (.if_icmp .le 9, 3) := by decide +kernel
theorem dL_sound_12 : decode cL_sound 12 = .ok (.iload_n 2, 1) := by decide +kernel
theorem dL_sound_13 : decode cL_sound 13 = .ok (.bipush 6, 2) := by decide +kernel
theorem dL_sound_15 : decode cL_sound 15 = .ok (.if_icmp .lt 15, 3) := by decide +kernel
theorem dL_sound_18 : decode cL_sound 18 = .ok (.iload_n 2, 1) := by decide +kernel
theorem dL_sound_19 : decode cL_sound 19 = .ok (.bipush 6, 2) := by decide +kernel
theorem dL_sound_21 : decode cL_sound 21 = .ok (.if_icmp .le 13, 3) := by decide +kernel
theorem dL_sound_24 : decode cL_sound 24 = .ok (.iload_n 2, 1) := by decide +kernel
theorem dL_sound_25 : decode cL_sound 25 = .ok (.bipush 10, 2) := by decide +kernel
theorem dL_sound_27 : decode cL_sound 27 = .ok (.if_icmp .ge 7, 3) := by decide +kernel
theorem dL_sound_30 : decode cL_sound 30 = .ok (.iconst 1, 1) := by decide +kernel
theorem dL_sound_31 : decode cL_sound 31 = .ok (.goto 4, 3) := by decide +kernel
theorem dL_sound_34 : decode cL_sound 34 = .ok (.iconst (-1), 1) := by decide +kernel
theorem dL_sound_35 : decode cL_sound 35 = .ok (.ireturn, 1) := by decide +kernel
theorem dL_has_0 : decode cL_has 0 = .ok (.iconst 0, 1) := by decide +kernel
theorem dL_has_1 : decode cL_has 1 = .ok (.istore_n 3, 1) := by decide +kernel
theorem dL_has_2 : decode cL_has 2 = .ok (.iload_n 3, 1) := by decide +kernel
theorem dL_has_3 : decode cL_has 3 = .ok (.iload_n 1, 1) := by decide +kernel
theorem dL_has_4 : decode cL_has 4 = .ok (.if_icmp .ge 20, 3) := by decide +kernel
theorem dL_has_7 : decode cL_has 7 = .ok (.aload_n 0, 1) := by decide +kernel
theorem dL_has_8 : decode cL_has 8 = .ok (.iload_n 3, 1) := by decide +kernel
theorem dL_has_9 : decode cL_has 9 = .ok (.invokevirtual 75, 3) := by decide +kernel
theorem dL_has_12 : decode cL_has 12 = .ok (.iload_n 2, 1) := by decide +kernel
theorem dL_has_13 : decode cL_has 13 = .ok (.if_icmp .ne 5, 3) := by decide +kernel
theorem dL_has_16 : decode cL_has 16 = .ok (.iconst 1, 1) := by decide +kernel
theorem dL_has_17 : decode cL_has 17 = .ok (.ireturn, 1) := by decide +kernel
theorem dL_has_18 : decode cL_has 18 = .ok (.iinc 3 1, 3) := by decide +kernel
theorem dL_has_21 : decode cL_has 21 = .ok (.goto (-19), 3) := by decide +kernel
theorem dL_has_24 : decode cL_has 24 = .ok (.iconst 0, 1) := by decide +kernel
theorem dL_has_25 : decode cL_has 25 = .ok (.ireturn, 1) := by decide +kernel
theorem dL_isLine_0 : decode cL_isLine 0 = .ok (.iload_n 1, 1) := by decide +kernel
theorem dL_isLine_1 : decode cL_isLine 1 = .ok (.aload_n 2, 1) := by decide +kernel
theorem dL_isLine_2 : decode cL_isLine 2 = .ok (.invokevirtual 78, 3) := by decide +kernel
theorem dL_isLine_5 : decode cL_isLine 5 = .ok (.if_icmp .eq 5, 3) := by decide +kernel
theorem dL_isLine_8 : decode cL_isLine 8 = .ok (.iconst 0, 1) := by decide +kernel
theorem dL_isLine_9 : decode cL_isLine 9 = .ok (.ireturn, 1) := by decide +kernel
theorem dL_isLine_10 : decode cL_isLine 10 = .ok (.iconst 0, 1) := by decide +kernel
theorem dL_isLine_11 : decode cL_isLine 11 = .ok (.istore_n 3, 1) := by decide +kernel
theorem dL_isLine_12 : decode cL_isLine 12 = .ok (.iload_n 3, 1) := by decide +kernel
theorem dL_isLine_13 : decode cL_isLine 13 = .ok (.iload_n 1, 1) := by decide +kernel
theorem dL_isLine_14 : decode cL_isLine 14 = .ok (.if_icmp .ge 24, 3) := by decide +kernel
theorem dL_isLine_17 : decode cL_isLine 17 = .ok (.aload_n 0, 1) := by decide +kernel
theorem dL_isLine_18 : decode cL_isLine 18 = .ok (.iload_n 3, 1) := by decide +kernel
theorem dL_isLine_19 : decode cL_isLine 19 = .ok (.invokevirtual 75, 3) := by decide +kernel
theorem dL_isLine_22 : decode cL_isLine 22 = .ok (.aload_n 2, 1) := by decide +kernel
theorem dL_isLine_23 : decode cL_isLine 23 = .ok (.iload_n 3, 1) := by decide +kernel
theorem dL_isLine_24 : decode cL_isLine 24 = .ok (.invokevirtual 84, 3) := by decide +kernel
theorem dL_isLine_27 : decode cL_isLine 27 = .ok (.if_icmp .eq 5, 3) := by decide +kernel
theorem dL_isLine_30 : decode cL_isLine 30 = .ok (.iconst 0, 1) := by decide +kernel
theorem dL_isLine_31 : decode cL_isLine 31 = .ok (.ireturn, 1) := by decide +kernel
theorem dL_isLine_32 : decode cL_isLine 32 = .ok (.iinc 3 1, 3) := by decide +kernel
theorem dL_isLine_35 : decode cL_isLine 35 = .ok (.goto (-23), 3) := by decide +kernel
theorem dL_isLine_38 : decode cL_isLine 38 = .ok (.iconst 1, 1) := by decide +kernel
theorem dL_isLine_39 : decode cL_isLine 39 = .ok (.ireturn, 1) := by decide +kernel
theorem dL_law_0 : decode cL_law 0 = .ok (.new 18, 3) := by decide +kernel
theorem dL_law_3 : decode cL_law 3 = .ok (.dup, 1) := by decide +kernel
theorem dL_law_4 : decode cL_law 4 = .ok (.invokespecial 88, 3) := by decide +kernel
theorem dL_law_7 : decode cL_law 7 = .ok (.astore_n 1, 1) := by decide +kernel
theorem dL_law_8 : decode cL_law 8 = .ok (.aload_n 1, 1) := by decide +kernel
theorem dL_law_9 : decode cL_law 9 = .ok (.aload_n 0, 1) := by decide +kernel
theorem dL_law_10 : decode cL_law 10 = .ok (.invokestatic 89, 3) := by decide +kernel
theorem dL_law_13 : decode cL_law 13 = .ok (.iconst 0, 1) := by decide +kernel
theorem dL_law_14 : decode cL_law 14 = .ok (.istore_n 2, 1) := by decide +kernel
theorem dL_law_15 : decode cL_law 15 = .ok (.iload_n 2, 1) := by decide +kernel
theorem dL_law_16 : decode cL_law 16 = .ok (.iconst 4, 1) := by decide +kernel
theorem dL_law_17 : decode cL_law 17 = .ok (.if_icmp .ge 1606, 3) := by decide +kernel
theorem dL_law_20 : decode cL_law 20 = .ok (.aload_n 1, 1) := by decide +kernel
theorem dL_law_21 : decode cL_law 21 = .ok (.iconst 0, 1) := by decide +kernel
theorem dL_law_22 : decode cL_law 22 = .ok (.invokevirtual 45, 3) := by decide +kernel
theorem dL_law_25 : decode cL_law 25 = .ok (.istore_n 3, 1) := by decide +kernel
theorem dL_law_26 : decode cL_law 26 = .ok (.iconst 0, 1) := by decide +kernel
theorem dL_law_27 : decode cL_law 27 = .ok (.istore 4, 2) := by decide +kernel
theorem dL_law_29 : decode cL_law 29 = .ok (.iconst 0, 1) := by decide +kernel
theorem dL_law_30 : decode cL_law 30 = .ok (.istore 5, 2) := by decide +kernel
theorem dL_law_32 : decode cL_law 32 = .ok (.iconst 0, 1) := by decide +kernel
theorem dL_law_33 : decode cL_law 33 = .ok (.istore 6, 2) := by decide +kernel
theorem dL_law_35 : decode cL_law 35 = .ok (.iconst 0, 1) := by decide +kernel
theorem dL_law_36 : decode cL_law 36 = .ok (.istore 7, 2) := by decide +kernel
theorem dL_law_38 : decode cL_law 38 = .ok (.iconst 0, 1) := by decide +kernel
theorem dL_law_39 : decode cL_law 39 = .ok (.istore 8, 2) := by decide +kernel
theorem dL_law_41 : decode cL_law 41 = .ok (.iconst 0, 1) := by decide +kernel
theorem dL_law_42 : decode cL_law 42 = .ok (.istore 9, 2) := by decide +kernel
theorem dL_law_44 : decode cL_law 44 = .ok (.iconst 0, 1) := by decide +kernel
theorem dL_law_45 : decode cL_law 45 = .ok (.istore 10, 2) := by decide +kernel
theorem dL_law_47 : decode cL_law 47 = .ok (.iconst 0, 1) := by decide +kernel
theorem dL_law_48 : decode cL_law 48 = .ok (.istore 11, 2) := by decide +kernel
theorem dL_law_50 : decode cL_law 50 = .ok (.iconst 0, 1) := by decide +kernel
theorem dL_law_51 : decode cL_law 51 = .ok (.istore 12, 2) := by decide +kernel
theorem dL_law_53 : decode cL_law 53 = .ok (.iconst 4, 1) := by decide +kernel
theorem dL_law_54 : decode cL_law 54 = .ok (.newarray .int, 2) := by decide +kernel
theorem dL_law_56 : decode cL_law 56 = .ok (.astore 13, 2) := by decide +kernel
theorem dL_law_58 : decode cL_law 58 = .ok (.iconst 4, 1) := by decide +kernel
theorem dL_law_59 : decode cL_law 59 = .ok (.newarray .int, 2) := by decide +kernel
theorem dL_law_61 : decode cL_law 61 = .ok (.astore 14, 2) := by decide +kernel
theorem dL_law_63 : decode cL_law 63 = .ok (.iconst 4, 1) := by decide +kernel
theorem dL_law_64 : decode cL_law 64 = .ok (.newarray .int, 2) := by decide +kernel
theorem dL_law_66 : decode cL_law 66 = .ok (.astore 15, 2) := by decide +kernel
theorem dL_law_68 : decode cL_law 68 = .ok (.iconst 1, 1) := by decide +kernel
theorem dL_law_69 : decode cL_law 69 = .ok (.istore 16, 2) := by decide +kernel
theorem dL_law_71 : decode cL_law 71 = .ok (.iload 16, 2) := by decide +kernel
theorem dL_law_73 : decode cL_law 73 = .ok (.bipush 13, 2) := by decide +kernel
theorem dL_law_75 : decode cL_law 75 = .ok (.if_icmp .ge 31, 3) := by decide +kernel
theorem dL_law_78 : decode cL_law 78 = .ok (.aload_n 1, 1) := by decide +kernel
theorem dL_law_79 : decode cL_law 79 = .ok (.iload 16, 2) := by decide +kernel
theorem dL_law_81 : decode cL_law 81 = .ok (.invokevirtual 37, 3) := by decide +kernel
theorem dL_law_84 : decode cL_law 84 = .ok (.ifCond .lt 16, 3) := by decide +kernel
theorem dL_law_87 : decode cL_law 87 = .ok (.aload 13, 2) := by decide +kernel
theorem dL_law_89 : decode cL_law 89 = .ok (.aload_n 1, 1) := by decide +kernel
theorem dL_law_90 : decode cL_law 90 = .ok (.iload 16, 2) := by decide +kernel
theorem dL_law_92 : decode cL_law 92 = .ok (.invokevirtual 37, 3) := by decide +kernel
theorem dL_law_95 : decode cL_law 95 = .ok (.dup2, 1) := by decide +kernel
theorem dL_law_96 : decode cL_law 96 = .ok (.iaload, 1) := by decide +kernel
theorem dL_law_97 : decode cL_law 97 = .ok (.iconst 1, 1) := by decide +kernel
theorem dL_law_98 : decode cL_law 98 = .ok (.iadd, 1) := by decide +kernel
theorem dL_law_99 : decode cL_law 99 = .ok (.iastore, 1) := by decide +kernel
theorem dL_law_100 : decode cL_law 100 = .ok (.iinc 16 1, 3) := by decide +kernel
theorem dL_law_103 : decode cL_law 103 = .ok (.goto (-32), 3) := by decide +kernel
theorem dL_law_106 : decode cL_law 106 = .ok (.iconst 0, 1) := by decide +kernel
theorem dL_law_107 : decode cL_law 107 = .ok (.istore 16, 2) := by decide +kernel
theorem dL_law_109 : decode cL_law 109 = .ok (.iload 16, 2) := by decide +kernel
theorem dL_law_111 : decode cL_law 111 = .ok (.iload_n 3, 1) := by decide +kernel
theorem dL_law_112 : decode cL_law 112 = .ok (.if_icmp .ge 766, 3) := by decide +kernel
theorem dL_law_115 : decode cL_law 115 = .ok (.aload_n 1, 1) := by decide +kernel
theorem dL_law_116 : decode cL_law 116 = .ok (.iload 16, 2) := by decide +kernel
theorem dL_law_118 : decode cL_law 118 = .ok (.iconst 0, 1) := by decide +kernel
theorem dL_law_119 : decode cL_law 119 = .ok (.invokevirtual 63, 3) := by decide +kernel
theorem dL_law_122 : decode cL_law 122 = .ok (.istore 17, 2) := by decide +kernel
theorem dL_law_124 : decode cL_law 124 = .ok (.aload_n 1, 1) := by decide +kernel
theorem dL_law_125 : decode cL_law 125 = .ok (.iload 16, 2) := by decide +kernel
theorem dL_law_127 : decode cL_law 127 = .ok (.iconst 1, 1) := by decide +kernel
theorem dL_law_128 : decode cL_law 128 = .ok (.invokevirtual 63, 3) := by decide +kernel
theorem dL_law_131 : decode cL_law 131 = .ok (.istore 18, 2) := by decide +kernel
theorem dL_law_133 : decode cL_law 133 = .ok (.aload_n 1, 1) := by decide +kernel
theorem dL_law_134 : decode cL_law 134 = .ok (.iload 16, 2) := by decide +kernel
theorem dL_law_136 : decode cL_law 136 = .ok (.iconst 2, 1) := by decide +kernel
theorem dL_law_137 : decode cL_law 137 = .ok (.invokevirtual 63, 3) := by decide +kernel
theorem dL_law_140 : decode cL_law 140 = .ok (.istore 19, 2) := by decide +kernel
theorem dL_law_142 : decode cL_law 142 = .ok (.aload_n 1, 1) := by decide +kernel
theorem dL_law_143 : decode cL_law 143 = .ok (.iload 16, 2) := by decide +kernel
theorem dL_law_145 : decode cL_law 145 = .ok (.iconst 3, 1) := by decide +kernel
theorem dL_law_146 : decode cL_law 146 = .ok (.invokevirtual 63, 3) := by decide +kernel
theorem dL_law_149 : decode cL_law 149 = .ok (.istore 20, 2) := by decide +kernel
theorem dL_law_151 : decode cL_law 151 = .ok (.aload_n 1, 1) := by decide +kernel
theorem dL_law_152 : decode cL_law 152 = .ok (.iload 16, 2) := by decide +kernel
theorem dL_law_154 : decode cL_law 154 = .ok (.iconst 5, 1) := by decide +kernel
theorem dL_law_155 : decode cL_law 155 = .ok (.invokevirtual 63, 3) := by decide +kernel
theorem dL_law_158 : decode cL_law 158 = .ok (.istore 21, 2) := by decide +kernel
theorem dL_law_160 : decode cL_law 160 = .ok (.aload_n 1, 1) := by decide +kernel
theorem dL_law_161 : decode cL_law 161 = .ok (.iload 16, 2) := by decide +kernel
theorem dL_law_163 : decode cL_law 163 = .ok (.invokestatic 93, 3) := by decide +kernel
theorem dL_law_166 : decode cL_law 166 = .ok (.istore 22, 2) := by decide +kernel
theorem dL_law_168 : decode cL_law 168 = .ok (.aload_n 1, 1) := by decide +kernel
theorem dL_law_169 : decode cL_law 169 = .ok (.iload 16, 2) := by decide +kernel
theorem dL_law_171 : decode cL_law 171 = .ok (.bipush 8, 2) := by decide +kernel
theorem dL_law_173 : decode cL_law 173 = .ok (.invokevirtual 63, 3) := by decide +kernel
theorem dL_law_176 : decode cL_law 176 = .ok (.istore 23, 2) := by decide +kernel
theorem dL_law_178 : decode cL_law 178 = .ok (.iload 22, 2) := by decide +kernel
theorem dL_law_180 : decode cL_law 180 = .ok (.ifCond .le 14, 3) := by decide +kernel
theorem dL_law_183 : decode cL_law 183 = .ok (.iload 20, 2) := by decide +kernel
theorem dL_law_185 : decode cL_law 185 = .ok (.bipush 100, 2) := by decide +kernel
theorem dL_law_187 : decode cL_law 187 = .ok (.if_icmp .ne 7, 3) := by decide +kernel
theorem dL_law_190 : decode cL_law 190 = .ok (.iconst 1, 1) := by decide +kernel
theorem dL_law_191 : decode cL_law 191 = .ok (.goto 4, 3) := by decide +kernel
theorem dL_law_194 : decode cL_law 194 = .ok (.iconst 0, 1) := by decide +kernel
theorem dL_law_195 : decode cL_law 195 = .ok (.istore 24, 2) := by decide +kernel
theorem dL_law_197 : decode cL_law 197 = .ok (.iload 24, 2) := by decide +kernel
theorem dL_law_199 : decode cL_law 199 = .ok (.ifCond .eq 23, 3) := by decide +kernel
theorem dL_law_202 : decode cL_law 202 = .ok (.iload 19, 2) := by decide +kernel
theorem dL_law_204 : decode cL_law 204 = .ok (.ifCond .le 18, 3) := by decide +kernel
theorem dL_law_207 : decode cL_law 207 = .ok (.aload_n 1, 1) := by decide +kernel
theorem dL_law_208 : decode cL_law 208 = .ok (.iload 16, 2) := by decide +kernel
theorem dL_law_210 : decode cL_law 210 = .ok (.iconst 4, 1) := by decide +kernel
theorem dL_law_211 : decode cL_law 211 = .ok (.invokevirtual 63, 3) := by decide +kernel
theorem dL_law_214 : decode cL_law 214 = .ok (.iconst 1, 1) := by decide +kernel
theorem dL_law_215 : decode cL_law 215 = .ok (.if_icmp .ne 7, 3) := by decide +kernel
theorem dL_law_218 : decode cL_law 218 = .ok (.iconst 1, 1) := by decide +kernel
theorem dL_law_219 : decode cL_law 219 = .ok (.goto 4, 3) := by decide +kernel
theorem dL_law_222 : decode cL_law 222 = .ok (.iconst 0, 1) := by decide +kernel
theorem dL_law_223 : decode cL_law 223 = .ok (.istore 25, 2) := by decide +kernel
theorem dL_law_225 : decode cL_law 225 = .ok (.iload 4, 2) := by decide +kernel
theorem dL_law_227 : decode cL_law 227 = .ok (.iload 21, 2) := by decide +kernel
theorem dL_law_229 : decode cL_law 229 = .ok (.ifCond .lt 7, 3) := by decide +kernel
theorem dL_law_232 : decode cL_law 232 = .ok (.iconst 1, 1) := by decide +kernel
theorem dL_law_233 : decode cL_law 233 = .ok (.goto 4, 3) := by decide +kernel
theorem dL_law_236 : decode cL_law 236 = .ok (.iconst 0, 1) := by decide +kernel
theorem dL_law_237 : decode cL_law 237 = .ok (.iadd, 1) := by decide +kernel
theorem dL_law_238 : decode cL_law 238 = .ok (.istore 4, 2) := by decide +kernel
theorem dL_law_240 : decode cL_law 240 = .ok (.iload 5, 2) := by decide +kernel
theorem dL_law_242 : decode cL_law 242 = .ok (.iload 24, 2) := by decide +kernel
theorem dL_law_244 : decode cL_law 244 = .ok (.ifCond .eq 7, 3) := by decide +kernel
theorem dL_law_247 : decode cL_law 247 = .ok (.iconst 1, 1) := by decide +kernel
theorem dL_law_248 : decode cL_law 248 = .ok (.goto 4, 3) := by decide +kernel
theorem dL_law_251 : decode cL_law 251 = .ok (.iconst 0, 1) := by decide +kernel
theorem dL_law_252 : decode cL_law 252 = .ok (.iadd, 1) := by decide +kernel
theorem dL_law_253 : decode cL_law 253 = .ok (.istore 5, 2) := by decide +kernel
theorem dL_law_255 : decode cL_law 255 = .ok (.iload 6, 2) := by decide +kernel
theorem dL_law_257 : decode cL_law 257 = .ok (.aload_n 1, 1) := by decide +kernel
theorem dL_law_258 : decode cL_law 258 = .ok (.iload 16, 2) := by decide +kernel
theorem dL_law_260 : decode cL_law 260 = .ok (.iconst 4, 1) := by decide +kernel
theorem dL_law_261 : decode cL_law 261 = .ok (.invokevirtual 63, 3) := by decide +kernel
theorem dL_law_264 : decode cL_law 264 = .ok (.iadd, 1) := by decide +kernel
theorem dL_law_265 : decode cL_law 265 = .ok (.istore 6, 2) := by decide +kernel
theorem dL_law_267 : decode cL_law 267 = .ok (.iload 8, 2) := by decide +kernel
theorem dL_law_269 : decode cL_law 269 = .ok (.iload 19, 2) := by decide +kernel
theorem dL_law_271 : decode cL_law 271 = .ok (.iadd, 1) := by decide +kernel
theorem dL_law_272 : decode cL_law 272 = .ok (.istore 8, 2) := by decide +kernel
theorem dL_law_274 : decode cL_law 274 = .ok (.aload 14, 2) := by decide +kernel
theorem dL_law_276 : decode cL_law 276 = .ok (.iload 17, 2) := by decide +kernel
theorem dL_law_278 : decode cL_law 278 = .ok (.dup2, 1) := by decide +kernel
theorem dL_law_279 : decode cL_law 279 = .ok (.iaload, 1) := by decide +kernel
theorem dL_law_280 : decode cL_law 280 = .ok (.iconst 1, 1) := by decide +kernel
theorem dL_law_281 : decode cL_law 281 = .ok (.iadd, 1) := by decide +kernel
theorem dL_law_282 : decode cL_law 282 = .ok (.iastore, 1) := by decide +kernel
theorem dL_law_283 : decode cL_law 283 = .ok (.aload 15, 2) := by decide +kernel
theorem dL_law_285 : decode cL_law 285 = .ok (.iload 17, 2) := by decide +kernel
theorem dL_law_287 : decode cL_law 287 = .ok (.dup2, 1) := by decide +kernel
theorem dL_law_288 : decode cL_law 288 = .ok (.iaload, 1) := by decide +kernel
theorem dL_law_289 : decode cL_law 289 = .ok (.iload 25, 2) := by decide +kernel
theorem dL_law_291 : decode cL_law 291 = .ok (.ifCond .eq 7, 3) := by decide +kernel
theorem dL_law_294 : decode cL_law 294 = .ok (.iconst 1, 1) := by decide +kernel
theorem dL_law_295 : decode cL_law 295 = .ok (.goto 4, 3) := by decide +kernel
theorem dL_law_298 : decode cL_law 298 = .ok (.iconst 0, 1) := by decide +kernel
theorem dL_law_299 : decode cL_law 299 = .ok (.iadd, 1) := by decide +kernel
theorem dL_law_300 : decode cL_law 300 = .ok (.iastore, 1) := by decide +kernel
theorem dL_law_301 : decode cL_law 301 = .ok (.iload 9, 2) := by decide +kernel
theorem dL_law_303 : decode cL_law 303 = .ok (.iload 25, 2) := by decide +kernel
theorem dL_law_305 : decode cL_law 305 = .ok (.ifCond .eq 10, 3) := by decide +kernel
theorem dL_law_308 : decode cL_law 308 = .ok (.iconst 1, 1) := by decide +kernel
theorem dL_law_309 : decode cL_law 309 = .ok (.iload 16, 2) := by decide +kernel
theorem dL_law_311 : decode cL_law 311 = .ok (.ishl, 1) := by decide +kernel
theorem dL_law_312 : decode cL_law 312 = .ok (.goto 4, 3) := by decide +kernel
theorem dL_law_315 : decode cL_law 315 = .ok (.iconst 0, 1) := by decide +kernel
theorem dL_law_316 : decode cL_law 316 = .ok (.ior, 1) := by decide +kernel
theorem dL_law_317 : decode cL_law 317 = .ok (.istore 9, 2) := by decide +kernel
theorem dL_law_319 : decode cL_law 319 = .ok (.iload 22, 2) := by decide +kernel
theorem dL_law_321 : decode cL_law 321 = .ok (.ifCond .ne 9, 3) := by decide +kernel
theorem dL_law_324 : decode cL_law 324 = .ok (.sipush (-1015), 3) := by decide +kernel
theorem dL_law_327 : decode cL_law 327 = .ok (.goto 20, 3) := by decide +kernel
theorem dL_law_330 : decode cL_law 330 = .ok (.bipush 100, 2) := by decide +kernel
theorem dL_law_332 : decode cL_law 332 = .ok (.iload 20, 2) := by decide +kernel
theorem dL_law_334 : decode cL_law 334 = .ok (.isub, 1) := by decide +kernel
theorem dL_law_335 : decode cL_law 335 = .ok (.iconst 5, 1) := by decide +kernel
theorem dL_law_336 : decode cL_law 336 = .ok (.iload 22, 2) := by decide +kernel
theorem dL_law_338 : decode cL_law 338 = .ok (.imul, 1) := by decide +kernel
theorem dL_law_339 : decode cL_law 339 = .ok (.iadd, 1) := by decide +kernel
theorem dL_law_340 : decode cL_law 340 = .ok (.iconst 1, 1) := by decide +kernel
theorem dL_law_341 : decode cL_law 341 = .ok (.isub, 1) := by decide +kernel
theorem dL_law_342 : decode cL_law 342 = .ok (.iconst 5, 1) := by decide +kernel
theorem dL_law_343 : decode cL_law 343 = .ok (.iload 22, 2) := by decide +kernel
theorem dL_law_345 : decode cL_law 345 = .ok (.imul, 1) := by decide +kernel
theorem dL_law_346 : decode cL_law 346 = .ok (.idiv, 1) := by decide +kernel
theorem dL_law_347 : decode cL_law 347 = .ok (.istore 26, 2) := by decide +kernel
theorem dL_law_349 : decode cL_law 349 = .ok (.aload_n 1, 1) := by decide +kernel
theorem dL_law_350 : decode cL_law 350 = .ok (.iload 16, 2) := by decide +kernel
theorem dL_law_352 : decode cL_law 352 = .ok (.invokevirtual 97, 3) := by decide +kernel
theorem dL_law_355 : decode cL_law 355 = .ok (.istore 27, 2) := by decide +kernel
theorem dL_law_357 : decode cL_law 357 = .ok (.iload 27, 2) := by decide +kernel
theorem dL_law_359 : decode cL_law 359 = .ok (.ifCond .le 18, 3) := by decide +kernel
theorem dL_law_362 : decode cL_law 362 = .ok (.aload_n 1, 1) := by decide +kernel
theorem dL_law_363 : decode cL_law 363 = .ok (.iload 27, 2) := by decide +kernel
theorem dL_law_365 : decode cL_law 365 = .ok (.bipush 35, 2) := by decide +kernel
theorem dL_law_367 : decode cL_law 367 = .ok (.invokestatic 100, 3) := by decide +kernel
theorem dL_law_370 : decode cL_law 370 = .ok (.ifCond .eq 7, 3) := by decide +kernel
theorem dL_law_373 : decode cL_law 373 = .ok (.iconst 1, 1) := by decide +kernel
theorem dL_law_374 : decode cL_law 374 = .ok (.goto 4, 3) := by decide +kernel
theorem dL_law_377 : decode cL_law 377 = .ok (.iconst 0, 1) := by decide +kernel
theorem dL_law_378 : decode cL_law 378 = .ok (.istore 28, 2) := by decide +kernel
theorem dL_law_380 : decode cL_law 380 = .ok (.iload 7, 2) := by decide +kernel
theorem dL_law_382 : decode cL_law 382 = .ok (.iload 28, 2) := by decide +kernel
theorem dL_law_384 : decode cL_law 384 = .ok (.ifCond .eq 7, 3) := by decide +kernel
theorem dL_law_387 : decode cL_law 387 = .ok (.iconst 1, 1) := by decide +kernel
theorem dL_law_388 : decode cL_law 388 = .ok (.goto 4, 3) := by decide +kernel
theorem dL_law_391 : decode cL_law 391 = .ok (.iconst 0, 1) := by decide +kernel
theorem dL_law_392 : decode cL_law 392 = .ok (.iadd, 1) := by decide +kernel
theorem dL_law_393 : decode cL_law 393 = .ok (.istore 7, 2) := by decide +kernel
theorem dL_law_395 : decode cL_law 395 = .ok (.new 104, 3) := by decide +kernel
theorem dL_law_398 : decode cL_law 398 = .ok (.dup, 1) := by decide +kernel
theorem dL_law_399 : decode cL_law 399 = .ok (.invokespecial 106, 3) := by decide +kernel
theorem dL_law_402 : decode cL_law 402 = .ok (.iload 16, 2) := by decide +kernel
theorem dL_law_404 : decode cL_law 404 = .ok (.invokevirtual 107, 3) := by decide +kernel
theorem dL_law_407 : decode cL_law 407 = .ok (.ldc 111, 2) := by decide +kernel
theorem dL_law_409 : decode cL_law 409 = .ok (.invokevirtual 113, 3) := by decide +kernel
theorem dL_law_412 : decode cL_law 412 = .ok (.iload 17, 2) := by decide +kernel
theorem dL_law_414 : decode cL_law 414 = .ok (.invokevirtual 107, 3) := by decide +kernel
theorem dL_law_417 : decode cL_law 417 = .ok (.ldc 116, 2) := by decide +kernel
theorem dL_law_419 : decode cL_law 419 = .ok (.invokevirtual 113, 3) := by decide +kernel
theorem dL_law_422 : decode cL_law 422 = .ok (.iload 18, 2) := by decide +kernel
theorem dL_law_424 : decode cL_law 424 = .ok (.invokevirtual 107, 3) := by decide +kernel
theorem dL_law_427 : decode cL_law 427 = .ok (.ldc 118, 2) := by decide +kernel
theorem dL_law_429 : decode cL_law 429 = .ok (.invokevirtual 113, 3) := by decide +kernel
theorem dL_law_432 : decode cL_law 432 = .ok (.iload 19, 2) := by decide +kernel
theorem dL_law_434 : decode cL_law 434 = .ok (.invokevirtual 107, 3) := by decide +kernel
theorem dL_law_437 : decode cL_law 437 = .ok (.ldc 120, 2) := by decide +kernel
theorem dL_law_439 : decode cL_law 439 = .ok (.invokevirtual 113, 3) := by decide +kernel
theorem dL_law_442 : decode cL_law 442 = .ok (.iload 20, 2) := by decide +kernel
theorem dL_law_444 : decode cL_law 444 = .ok (.invokevirtual 107, 3) := by decide +kernel
theorem dL_law_447 : decode cL_law 447 = .ok (.aload_n 1, 1) := by decide +kernel
theorem dL_law_448 : decode cL_law 448 = .ok (.iload 16, 2) := by decide +kernel
theorem dL_law_450 : decode cL_law 450 = .ok (.iconst 4, 1) := by decide +kernel
theorem dL_law_451 : decode cL_law 451 = .ok (.invokevirtual 63, 3) := by decide +kernel
theorem dL_law_454 : decode cL_law 454 = .ok (.ifCond .ne 8, 3) := by decide +kernel
theorem dL_law_457 : decode cL_law 457 = .ok (.ldc 122, 2) := by decide +kernel
theorem dL_law_459 : decode cL_law 459 = .ok (.goto 5, 3) := by decide +kernel
theorem dL_law_462 : decode cL_law 462 = .ok (.ldc 124, 2) := by decide +kernel
theorem dL_law_464 : decode cL_law 464 = .ok (.invokevirtual 113, 3) := by decide +kernel
theorem dL_law_467 : decode cL_law 467 = .ok (.iload 28, 2) := by decide +kernel
theorem dL_law_469 : decode cL_law 469 = .ok (.ifCond .eq 8, 3) := by decide +kernel
theorem dL_law_472 : decode cL_law 472 = .ok (.ldc 126, 2) := by decide +kernel
theorem dL_law_474 : decode cL_law 474 = .ok (.goto 5, 3) := by decide +kernel
theorem dL_law_477 : decode cL_law 477 = .ok (.ldc 124, 2) := by decide +kernel
theorem dL_law_479 : decode cL_law 479 = .ok (.invokevirtual 113, 3) := by decide +kernel
theorem dL_law_482 : decode cL_law 482 = .ok (.iload 21, 2) := by decide +kernel
theorem dL_law_484 : decode cL_law 484 = .ok (.ifCond .lt 26, 3) := by decide +kernel
theorem dL_law_487 : decode cL_law 487 = .ok (.new 104, 3) := by decide +kernel
theorem dL_law_490 : decode cL_law 490 = .ok (.dup, 1) := by decide +kernel
theorem dL_law_491 : decode cL_law 491 = .ok (.invokespecial 106, 3) := by decide +kernel
theorem dL_law_494 : decode cL_law 494 = .ok (.ldc 128, 2) := by decide +kernel
theorem dL_law_496 : decode cL_law 496 = .ok (.invokevirtual 113, 3) := by decide +kernel
theorem dL_law_499 : decode cL_law 499 = .ok (.iload 21, 2) := by decide +kernel
theorem dL_law_501 : decode cL_law 501 = .ok (.invokevirtual 107, 3) := by decide +kernel
theorem dL_law_504 : decode cL_law 504 = .ok (.invokevirtual 130, 3) := by decide +kernel
theorem dL_law_507 : decode cL_law 507 = .ok (.goto 5, 3) := by decide +kernel
theorem dL_law_510 : decode cL_law 510 = .ok (.ldc 124, 2) := by decide +kernel
theorem dL_law_512 : decode cL_law 512 = .ok (.invokevirtual 113, 3) := by decide +kernel
theorem dL_law_515 : decode cL_law 515 = .ok (.iload 25, 2) := by decide +kernel
theorem dL_law_517 : decode cL_law 517 = .ok (.ifCond .eq 8, 3) := by decide +kernel
theorem dL_law_520 : decode cL_law 520 = .ok (.ldc 134, 2) := by decide +kernel
theorem dL_law_522 : decode cL_law 522 = .ok (.goto 5, 3) := by decide +kernel
theorem dL_law_525 : decode cL_law 525 = .ok (.ldc 124, 2) := by decide +kernel
theorem dL_law_527 : decode cL_law 527 = .ok (.invokevirtual 113, 3) := by decide +kernel
theorem dL_law_530 : decode cL_law 530 = .ok (.iload 23, 2) := by decide +kernel
theorem dL_law_532 : decode cL_law 532 = .ok (.ifCond .le 26, 3) := by decide +kernel
theorem dL_law_535 : decode cL_law 535 = .ok (.new 104, 3) := by decide +kernel
theorem dL_law_538 : decode cL_law 538 = .ok (.dup, 1) := by decide +kernel
theorem dL_law_539 : decode cL_law 539 = .ok (.invokespecial 106, 3) := by decide +kernel
theorem dL_law_542 : decode cL_law 542 = .ok (.ldc 136, 2) := by decide +kernel
theorem dL_law_544 : decode cL_law 544 = .ok (.invokevirtual 113, 3) := by decide +kernel
theorem dL_law_547 : decode cL_law 547 = .ok (.iload 23, 2) := by decide +kernel
theorem dL_law_549 : decode cL_law 549 = .ok (.invokevirtual 107, 3) := by decide +kernel
theorem dL_law_552 : decode cL_law 552 = .ok (.invokevirtual 130, 3) := by decide +kernel
theorem dL_law_555 : decode cL_law 555 = .ok (.goto 5, 3) := by decide +kernel
theorem dL_law_558 : decode cL_law 558 = .ok (.ldc 124, 2) := by decide +kernel
theorem dL_law_560 : decode cL_law 560 = .ok (.invokevirtual 113, 3) := by decide +kernel
theorem dL_law_563 : decode cL_law 563 = .ok (.invokevirtual 130, 3) := by decide +kernel
theorem dL_law_566 : decode cL_law 566 = .ok (.astore 29, 2) := by decide +kernel
theorem dL_law_568 : decode cL_law 568 = .ok (.aload_n 1, 1) := by decide +kernel
theorem dL_law_569 : decode cL_law 569 = .ok (.iload 27, 2) := by decide +kernel
theorem dL_law_571 : decode cL_law 571 = .ok (.aload 29, 2) := by decide +kernel
theorem dL_law_573 : decode cL_law 573 = .ok (.invokestatic 138, 3) := by decide +kernel
theorem dL_law_576 : decode cL_law 576 = .ok (.ifCond .eq 200, 3) := by decide +kernel
theorem dL_law_579 : decode cL_law 579 = .ok (.iload 28, 2) := by decide +kernel
theorem dL_law_581 : decode cL_law 581 = .ok (.ifCond .eq 14, 3) := by decide +kernel
theorem dL_law_584 : decode cL_law 584 = .ok (.aload_n 1, 1) := by decide +kernel
theorem dL_law_585 : decode cL_law 585 = .ok (.iload 16, 2) := by decide +kernel
theorem dL_law_587 : decode cL_law 587 = .ok (.iconst 4, 1) := by decide +kernel
theorem dL_law_588 : decode cL_law 588 = .ok (.invokevirtual 63, 3) := by decide +kernel
theorem dL_law_591 : decode cL_law 591 = .ok (.iconst 1, 1) := by decide +kernel
theorem dL_law_592 : decode cL_law 592 = .ok (.if_icmp .eq 184, 3) := by decide +kernel
theorem dL_law_595 : decode cL_law 595 = .ok (.aload_n 1, 1) := by decide +kernel
theorem dL_law_596 : decode cL_law 596 = .ok (.iload 18, 2) := by decide +kernel
theorem dL_law_598 : decode cL_law 598 = .ok (.invokevirtual 37, 3) := by decide +kernel
theorem dL_law_601 : decode cL_law 601 = .ok (.iload 17, 2) := by decide +kernel
theorem dL_law_603 : decode cL_law 603 = .ok (.if_icmp .ne 173, 3) := by decide +kernel
theorem dL_law_606 : decode cL_law 606 = .ok (.iload 20, 2) := by decide +kernel
theorem dL_law_608 : decode cL_law 608 = .ok (.bipush 20, 2) := by decide +kernel
theorem dL_law_610 : decode cL_law 610 = .ok (.if_icmp .lt 166, 3) := by decide +kernel
theorem dL_law_613 : decode cL_law 613 = .ok (.iload 20, 2) := by decide +kernel
theorem dL_law_615 : decode cL_law 615 = .ok (.bipush 100, 2) := by decide +kernel
theorem dL_law_617 : decode cL_law 617 = .ok (.if_icmp .gt 159, 3) := by decide +kernel
theorem dL_law_620 : decode cL_law 620 = .ok (.iload 19, 2) := by decide +kernel
theorem dL_law_622 : decode cL_law 622 = .ok (.ifCond .lt 154, 3) := by decide +kernel
theorem dL_law_625 : decode cL_law 625 = .ok (.iload 19, 2) := by decide +kernel
theorem dL_law_627 : decode cL_law 627 = .ok (.bipush 20, 2) := by decide +kernel
theorem dL_law_629 : decode cL_law 629 = .ok (.if_icmp .gt 147, 3) := by decide +kernel
theorem dL_law_632 : decode cL_law 632 = .ok (.iload 23, 2) := by decide +kernel
theorem dL_law_634 : decode cL_law 634 = .ok (.ifCond .le 8, 3) := by decide +kernel
theorem dL_law_637 : decode cL_law 637 = .ok (.iload 21, 2) := by decide +kernel
theorem dL_law_639 : decode cL_law 639 = .ok (.ifCond .ge 137, 3) := by decide +kernel
theorem dL_law_642 : decode cL_law 642 = .ok (.iload 23, 2) := by decide +kernel
theorem dL_law_644 : decode cL_law 644 = .ok (.bipush 6, 2) := by decide +kernel
theorem dL_law_646 : decode cL_law 646 = .ok (.if_icmp .gt 130, 3) := by decide +kernel
theorem dL_law_649 : decode cL_law 649 = .ok (.aload_n 1, 1) := by decide +kernel
theorem dL_law_650 : decode cL_law 650 = .ok (.iload 16, 2) := by decide +kernel
theorem dL_law_652 : decode cL_law 652 = .ok (.bipush 9, 2) := by decide +kernel
theorem dL_law_654 : decode cL_law 654 = .ok (.invokevirtual 63, 3) := by decide +kernel
theorem dL_law_657 : decode cL_law 657 = .ok (.iconst 1, 1) := by decide +kernel
theorem dL_law_658 : decode cL_law 658 = .ok (.if_icmp .gt 118, 3) := by decide +kernel
theorem dL_law_661 : decode cL_law 661 = .ok (.aload_n 1, 1) := by decide +kernel
theorem dL_law_662 : decode cL_law 662 = .ok (.iload 16, 2) := by decide +kernel
theorem dL_law_664 : decode cL_law 664 = .ok (.bipush 6, 2) := by decide +kernel
theorem dL_law_666 : decode cL_law 666 = .ok (.invokevirtual 63, 3) := by decide +kernel
theorem dL_law_669 : decode cL_law 669 = .ok (.iconst 1, 1) := by decide +kernel
theorem dL_law_670 : decode cL_law 670 = .ok (.if_icmp .ne 7, 3) := by decide +kernel
theorem dL_law_673 : decode cL_law 673 = .ok (.iconst 1, 1) := by decide +kernel
theorem dL_law_674 : decode cL_law 674 = .ok (.goto 4, 3) := by decide +kernel
theorem dL_law_677 : decode cL_law 677 = .ok (.iconst 0, 1) := by decide +kernel
theorem dL_law_678 : decode cL_law 678 = .ok (.iload 24, 2) := by decide +kernel
theorem dL_law_680 : decode cL_law 680 = .ok (.if_icmp .ne 96, 3) := by decide +kernel
theorem dL_law_683 : decode cL_law 683 = .ok (.aload_n 1, 1) := by decide +kernel
theorem dL_law_684 : decode cL_law 684 = .ok (.iload 16, 2) := by decide +kernel
theorem dL_law_686 : decode cL_law 686 = .ok (.bipush 7, 2) := by decide +kernel
theorem dL_law_688 : decode cL_law 688 = .ok (.invokevirtual 63, 3) := by decide +kernel
theorem dL_law_691 : decode cL_law 691 = .ok (.iconst 1, 1) := by decide +kernel
theorem dL_law_692 : decode cL_law 692 = .ok (.if_icmp .ne 7, 3) := by decide +kernel
theorem dL_law_695 : decode cL_law 695 = .ok (.iconst 1, 1) := by decide +kernel
theorem dL_law_696 : decode cL_law 696 = .ok (.goto 4, 3) := by decide +kernel
theorem dL_law_699 : decode cL_law 699 = .ok (.iconst 0, 1) := by decide +kernel
theorem dL_law_700 : decode cL_law 700 = .ok (.iload 25, 2) := by decide +kernel
theorem dL_law_702 : decode cL_law 702 = .ok (.if_icmp .ne 74, 3) := by decide +kernel
theorem dL_law_705 : decode cL_law 705 = .ok (.aload_n 1, 1) := by decide +kernel
theorem dL_law_706 : decode cL_law 706 = .ok (.iload 16, 2) := by decide +kernel
theorem dL_law_708 : decode cL_law 708 = .ok (.invokevirtual 142, 3) := by decide +kernel
theorem dL_law_711 : decode cL_law 711 = .ok (.iload 26, 2) := by decide +kernel
theorem dL_law_713 : decode cL_law 713 = .ok (.if_icmp .ne 63, 3) := by decide +kernel
theorem dL_law_716 : decode cL_law 716 = .ok (.aload_n 1, 1) := by decide +kernel
theorem dL_law_717 : decode cL_law 717 = .ok (.iload 16, 2) := by decide +kernel
theorem dL_law_719 : decode cL_law 719 = .ok (.invokevirtual 145, 3) := by decide +kernel
theorem dL_law_722 : decode cL_law 722 = .ok (.iload 26, 2) := by decide +kernel
theorem dL_law_724 : decode cL_law 724 = .ok (.if_icmp .ne 52, 3) := by decide +kernel
theorem dL_law_727 : decode cL_law 727 = .ok (.aload_n 1, 1) := by decide +kernel
theorem dL_law_728 : decode cL_law 728 = .ok (.iload 16, 2) := by decide +kernel
theorem dL_law_730 : decode cL_law 730 = .ok (.invokevirtual 148, 3) := by decide +kernel
theorem dL_law_733 : decode cL_law 733 = .ok (.iload 26, 2) := by decide +kernel
theorem dL_law_735 : decode cL_law 735 = .ok (.sipush (-1015), 3) := by decide +kernel
theorem dL_law_738 : decode cL_law 738 = .ok (.if_icmp .ne 9, 3) := by decide +kernel
theorem dL_law_741 : decode cL_law 741 = .ok (.sipush (-1015), 3) := by decide +kernel
theorem dL_law_744 : decode cL_law 744 = .ok (.goto 12, 3) := by decide +kernel
theorem dL_law_747 : decode cL_law 747 = .ok (.iload 26, 2) := by decide +kernel
theorem dL_law_749 : decode cL_law 749 = .ok (.iconst 1, 1) := by decide +kernel
theorem dL_law_750 : decode cL_law 750 = .ok (.iload 19, 2) := by decide +kernel
theorem dL_law_752 : decode cL_law 752 = .ok (.invokestatic 151, 3) := by decide +kernel
theorem dL_law_755 : decode cL_law 755 = .ok (.iadd, 1) := by decide +kernel
theorem dL_law_756 : decode cL_law 756 = .ok (.if_icmp .ne 20, 3) := by decide +kernel
theorem dL_law_759 : decode cL_law 759 = .ok (.iload 21, 2) := by decide +kernel
theorem dL_law_761 : decode cL_law 761 = .ok (.ifCond .lt 17, 3) := by decide +kernel
theorem dL_law_764 : decode cL_law 764 = .ok (.aload_n 1, 1) := by decide +kernel
theorem dL_law_765 : decode cL_law 765 = .ok (.iload 21, 2) := by decide +kernel
theorem dL_law_767 : decode cL_law 767 = .ok (.iconst 0, 1) := by decide +kernel
theorem dL_law_768 : decode cL_law 768 = .ok (.invokevirtual 66, 3) := by decide +kernel
theorem dL_law_771 : decode cL_law 771 = .ok (.iload 16, 2) := by decide +kernel
theorem dL_law_773 : decode cL_law 773 = .ok (.if_icmp .eq 5, 3) := by decide +kernel
theorem dL_law_776 : decode cL_law 776 = .ok (.iconst 0, 1) := by decide +kernel
theorem dL_law_777 : decode cL_law 777 = .ok (.ireturn, 1) := by decide +kernel
theorem dL_law_778 : decode cL_law 778 = .ok (.iconst 0, 1) := by decide +kernel
theorem dL_law_779 : decode cL_law 779 = .ok (.istore 30, 2) := by decide +kernel
theorem dL_law_781 : decode cL_law 781 = .ok (.iload 30, 2) := by decide +kernel
theorem dL_law_783 : decode cL_law 783 = .ok (.iload 16, 2) := by decide +kernel
theorem dL_law_785 : decode cL_law 785 = .ok (.if_icmp .ge 87, 3) := by decide +kernel
theorem dL_law_788 : decode cL_law 788 = .ok (.iload 21, 2) := by decide +kernel
theorem dL_law_790 : decode cL_law 790 = .ok (.ifCond .lt 39, 3) := by decide +kernel
theorem dL_law_793 : decode cL_law 793 = .ok (.aload_n 1, 1) := by decide +kernel
theorem dL_law_794 : decode cL_law 794 = .ok (.iload 30, 2) := by decide +kernel
theorem dL_law_796 : decode cL_law 796 = .ok (.iconst 5, 1) := by decide +kernel
theorem dL_law_797 : decode cL_law 797 = .ok (.invokevirtual 63, 3) := by decide +kernel
theorem dL_law_800 : decode cL_law 800 = .ok (.iload 21, 2) := by decide +kernel
theorem dL_law_802 : decode cL_law 802 = .ok (.if_icmp .eq 25, 3) := by decide +kernel
theorem dL_law_805 : decode cL_law 805 = .ok (.aload_n 1, 1) := by decide +kernel
theorem dL_law_806 : decode cL_law 806 = .ok (.iload 30, 2) := by decide +kernel
theorem dL_law_808 : decode cL_law 808 = .ok (.iconst 5, 1) := by decide +kernel
theorem dL_law_809 : decode cL_law 809 = .ok (.invokevirtual 63, 3) := by decide +kernel
theorem dL_law_812 : decode cL_law 812 = .ok (.ifCond .lt 17, 3) := by decide +kernel
theorem dL_law_815 : decode cL_law 815 = .ok (.aload_n 1, 1) := by decide +kernel
theorem dL_law_816 : decode cL_law 816 = .ok (.iload 30, 2) := by decide +kernel
theorem dL_law_818 : decode cL_law 818 = .ok (.iconst 1, 1) := by decide +kernel
theorem dL_law_819 : decode cL_law 819 = .ok (.invokevirtual 63, 3) := by decide +kernel
theorem dL_law_822 : decode cL_law 822 = .ok (.iload 18, 2) := by decide +kernel
theorem dL_law_824 : decode cL_law 824 = .ok (.if_icmp .ne 5, 3) := by decide +kernel
theorem dL_law_827 : decode cL_law 827 = .ok (.iconst 0, 1) := by decide +kernel
theorem dL_law_828 : decode cL_law 828 = .ok (.ireturn, 1) := by decide +kernel
theorem dL_law_829 : decode cL_law 829 = .ok (.iload 10, 2) := by decide +kernel
theorem dL_law_831 : decode cL_law 831 = .ok (.iload 25, 2) := by decide +kernel
theorem dL_law_833 : decode cL_law 833 = .ok (.ifCond .eq 29, 3) := by decide +kernel
theorem dL_law_836 : decode cL_law 836 = .ok (.iload 9, 2) := by decide +kernel
theorem dL_law_838 : decode cL_law 838 = .ok (.iload 30, 2) := by decide +kernel
theorem dL_law_840 : decode cL_law 840 = .ok (.ishr, 1) := by decide +kernel
theorem dL_law_841 : decode cL_law 841 = .ok (.iconst 1, 1) := by decide +kernel
theorem dL_law_842 : decode cL_law 842 = .ok (.iand, 1) := by decide +kernel
theorem dL_law_843 : decode cL_law 843 = .ok (.iconst 1, 1) := by decide +kernel
theorem dL_law_844 : decode cL_law 844 = .ok (.if_icmp .ne 18, 3) := by decide +kernel
theorem dL_law_847 : decode cL_law 847 = .ok (.iload 18, 2) := by decide +kernel
theorem dL_law_849 : decode cL_law 849 = .ok (.aload_n 1, 1) := by decide +kernel
theorem dL_law_850 : decode cL_law 850 = .ok (.iload 30, 2) := by decide +kernel
theorem dL_law_852 : decode cL_law 852 = .ok (.iconst 1, 1) := by decide +kernel
theorem dL_law_853 : decode cL_law 853 = .ok (.invokevirtual 63, 3) := by decide +kernel
theorem dL_law_856 : decode cL_law 856 = .ok (.invokestatic 154, 3) := by decide +kernel
theorem dL_law_859 : decode cL_law 859 = .ok (.goto 4, 3) := by decide +kernel
theorem dL_law_862 : decode cL_law 862 = .ok (.iconst 0, 1) := by decide +kernel
theorem dL_law_863 : decode cL_law 863 = .ok (.iadd, 1) := by decide +kernel
theorem dL_law_864 : decode cL_law 864 = .ok (.istore 10, 2) := by decide +kernel
theorem dL_law_866 : decode cL_law 866 = .ok (.iinc 30 1, 3) := by decide +kernel
theorem dL_law_869 : decode cL_law 869 = .ok (.goto (-88), 3) := by decide +kernel
theorem dL_law_872 : decode cL_law 872 = .ok (.iinc 16 1, 3) := by decide +kernel
theorem dL_law_875 : decode cL_law 875 = .ok (.goto (-766), 3) := by decide +kernel
theorem dL_law_878 : decode cL_law 878 = .ok (.iconst 0, 1) := by decide +kernel
theorem dL_law_879 : decode cL_law 879 = .ok (.istore 16, 2) := by decide +kernel
theorem dL_law_881 : decode cL_law 881 = .ok (.bipush (-100), 2) := by decide +kernel
theorem dL_law_883 : decode cL_law 883 = .ok (.istore 17, 2) := by decide +kernel
theorem dL_law_885 : decode cL_law 885 = .ok (.iconst 1, 1) := by decide +kernel
theorem dL_law_886 : decode cL_law 886 = .ok (.istore 18, 2) := by decide +kernel
theorem dL_law_888 : decode cL_law 888 = .ok (.iload 18, 2) := by decide +kernel
theorem dL_law_890 : decode cL_law 890 = .ok (.bipush 13, 2) := by decide +kernel
theorem dL_law_892 : decode cL_law 892 = .ok (.if_icmp .ge 105, 3) := by decide +kernel
theorem dL_law_895 : decode cL_law 895 = .ok (.iconst 0, 1) := by decide +kernel
theorem dL_law_896 : decode cL_law 896 = .ok (.istore 19, 2) := by decide +kernel
theorem dL_law_898 : decode cL_law 898 = .ok (.iconst 1, 1) := by decide +kernel
theorem dL_law_899 : decode cL_law 899 = .ok (.istore 20, 2) := by decide +kernel
theorem dL_law_901 : decode cL_law 901 = .ok (.iconst 0, 1) := by decide +kernel
theorem dL_law_902 : decode cL_law 902 = .ok (.istore 21, 2) := by decide +kernel
theorem dL_law_904 : decode cL_law 904 = .ok (.iload 21, 2) := by decide +kernel
theorem dL_law_906 : decode cL_law 906 = .ok (.iload_n 3, 1) := by decide +kernel
theorem dL_law_907 : decode cL_law 907 = .ok (.if_icmp .ge 61, 3) := by decide +kernel
theorem dL_law_910 : decode cL_law 910 = .ok (.iload 9, 2) := by decide +kernel
theorem dL_law_912 : decode cL_law 912 = .ok (.iload 21, 2) := by decide +kernel
theorem dL_law_914 : decode cL_law 914 = .ok (.ishr, 1) := by decide +kernel
theorem dL_law_915 : decode cL_law 915 = .ok (.iconst 1, 1) := by decide +kernel
theorem dL_law_916 : decode cL_law 916 = .ok (.iand, 1) := by decide +kernel
theorem dL_law_917 : decode cL_law 917 = .ok (.ifCond .ne 6, 3) := by decide +kernel
theorem dL_law_920 : decode cL_law 920 = .ok (.goto 42, 3) := by decide +kernel
theorem dL_law_923 : decode cL_law 923 = .ok (.iload 20, 2) := by decide +kernel
theorem dL_law_925 : decode cL_law 925 = .ok (.aload_n 1, 1) := by decide +kernel
theorem dL_law_926 : decode cL_law 926 = .ok (.iload 21, 2) := by decide +kernel
theorem dL_law_928 : decode cL_law 928 = .ok (.iconst 1, 1) := by decide +kernel
theorem dL_law_929 : decode cL_law 929 = .ok (.invokevirtual 63, 3) := by decide +kernel
theorem dL_law_932 : decode cL_law 932 = .ok (.iload 18, 2) := by decide +kernel
theorem dL_law_934 : decode cL_law 934 = .ok (.if_icmp .eq 7, 3) := by decide +kernel
theorem dL_law_937 : decode cL_law 937 = .ok (.iconst 1, 1) := by decide +kernel
theorem dL_law_938 : decode cL_law 938 = .ok (.goto 4, 3) := by decide +kernel
theorem dL_law_941 : decode cL_law 941 = .ok (.iconst 0, 1) := by decide +kernel
theorem dL_law_942 : decode cL_law 942 = .ok (.iand, 1) := by decide +kernel
theorem dL_law_943 : decode cL_law 943 = .ok (.istore 20, 2) := by decide +kernel
theorem dL_law_945 : decode cL_law 945 = .ok (.iload 19, 2) := by decide +kernel
theorem dL_law_947 : decode cL_law 947 = .ok (.iload 18, 2) := by decide +kernel
theorem dL_law_949 : decode cL_law 949 = .ok (.aload_n 1, 1) := by decide +kernel
theorem dL_law_950 : decode cL_law 950 = .ok (.iload 21, 2) := by decide +kernel
theorem dL_law_952 : decode cL_law 952 = .ok (.iconst 1, 1) := by decide +kernel
theorem dL_law_953 : decode cL_law 953 = .ok (.invokevirtual 63, 3) := by decide +kernel
theorem dL_law_956 : decode cL_law 956 = .ok (.invokestatic 154, 3) := by decide +kernel
theorem dL_law_959 : decode cL_law 959 = .ok (.iadd, 1) := by decide +kernel
theorem dL_law_960 : decode cL_law 960 = .ok (.istore 19, 2) := by decide +kernel
theorem dL_law_962 : decode cL_law 962 = .ok (.iinc 21 1, 3) := by decide +kernel
theorem dL_law_965 : decode cL_law 965 = .ok (.goto (-61), 3) := by decide +kernel
theorem dL_law_968 : decode cL_law 968 = .ok (.iload 20, 2) := by decide +kernel
theorem dL_law_970 : decode cL_law 970 = .ok (.ifCond .eq 21, 3) := by decide +kernel
theorem dL_law_973 : decode cL_law 973 = .ok (.iload 19, 2) := by decide +kernel
theorem dL_law_975 : decode cL_law 975 = .ok (.iload 17, 2) := by decide +kernel
theorem dL_law_977 : decode cL_law 977 = .ok (.if_icmp .gt 6, 3) := by decide +kernel
theorem dL_law_980 : decode cL_law 980 = .ok (.goto 11, 3) := by decide +kernel
theorem dL_law_983 : decode cL_law 983 = .ok (.iload 18, 2) := by decide +kernel
theorem dL_law_985 : decode cL_law 985 = .ok (.istore 16, 2) := by decide +kernel
theorem dL_law_987 : decode cL_law 987 = .ok (.iload 19, 2) := by decide +kernel
theorem dL_law_989 : decode cL_law 989 = .ok (.istore 17, 2) := by decide +kernel
theorem dL_law_991 : decode cL_law 991 = .ok (.iinc 18 1, 3) := by decide +kernel
theorem dL_law_994 : decode cL_law 994 = .ok (.goto (-106), 3) := by decide +kernel
theorem dL_law_997 : decode cL_law 997 = .ok (.ldc 124, 2) := by decide +kernel
theorem dL_law_999 : decode cL_law 999 = .ok (.astore 18, 2) := by decide +kernel
theorem dL_law_1001 : decode cL_law 1001 = .ok (.iconst 0, 1) := by decide +kernel
theorem dL_law_1002 : decode cL_law 1002 = .ok (.istore 19, 2) := by decide +kernel
theorem dL_law_1004 : decode cL_law 1004 = .ok (.iload 19, 2) := by decide +kernel
theorem dL_law_1006 : decode cL_law 1006 = .ok (.bipush 6, 2) := by decide +kernel
theorem dL_law_1008 : decode cL_law 1008 = .ok (.if_icmp .ge 102, 3) := by decide +kernel
theorem dL_law_1011 : decode cL_law 1011 = .ok (.aload_n 1, 1) := by decide +kernel
theorem dL_law_1012 : decode cL_law 1012 = .ok (.iload 19, 2) := by decide +kernel
theorem dL_law_1014 : decode cL_law 1014 = .ok (.iconst 0, 1) := by decide +kernel
theorem dL_law_1015 : decode cL_law 1015 = .ok (.invokevirtual 66, 3) := by decide +kernel
theorem dL_law_1018 : decode cL_law 1018 = .ok (.istore 20, 2) := by decide +kernel
theorem dL_law_1020 : decode cL_law 1020 = .ok (.new 104, 3) := by decide +kernel
theorem dL_law_1023 : decode cL_law 1023 = .ok (.dup, 1) := by decide +kernel
theorem dL_law_1024 : decode cL_law 1024 = .ok (.invokespecial 106, 3) := by decide +kernel
theorem dL_law_1027 : decode cL_law 1027 = .ok (.aload 18, 2) := by decide +kernel
theorem dL_law_1029 : decode cL_law 1029 = .ok (.invokevirtual 113, 3) := by decide +kernel
theorem dL_law_1032 : decode cL_law 1032 = .ok (.aload_n 1, 1) := by decide +kernel
theorem dL_law_1033 : decode cL_law 1033 = .ok (.iload 19, 2) := by decide +kernel
theorem dL_law_1035 : decode cL_law 1035 = .ok (.iconst 1, 1) := by decide +kernel
theorem dL_law_1036 : decode cL_law 1036 = .ok (.invokevirtual 66, 3) := by decide +kernel
theorem dL_law_1039 : decode cL_law 1039 = .ok (.invokevirtual 107, 3) := by decide +kernel
theorem dL_law_1042 : decode cL_law 1042 = .ok (.iload 20, 2) := by decide +kernel
theorem dL_law_1044 : decode cL_law 1044 = .ok (.ifCond .ge 8, 3) := by decide +kernel
theorem dL_law_1047 : decode cL_law 1047 = .ok (.ldc 124, 2) := by decide +kernel
theorem dL_law_1049 : decode cL_law 1049 = .ok (.goto 28, 3) := by decide +kernel
theorem dL_law_1052 : decode cL_law 1052 = .ok (.new 104, 3) := by decide +kernel
theorem dL_law_1055 : decode cL_law 1055 = .ok (.dup, 1) := by decide +kernel
theorem dL_law_1056 : decode cL_law 1056 = .ok (.invokespecial 106, 3) := by decide +kernel
theorem dL_law_1059 : decode cL_law 1059 = .ok (.ldc 157, 2) := by decide +kernel
theorem dL_law_1061 : decode cL_law 1061 = .ok (.invokevirtual 113, 3) := by decide +kernel
theorem dL_law_1064 : decode cL_law 1064 = .ok (.iload 20, 2) := by decide +kernel
theorem dL_law_1066 : decode cL_law 1066 = .ok (.invokevirtual 107, 3) := by decide +kernel
theorem dL_law_1069 : decode cL_law 1069 = .ok (.ldc 159, 2) := by decide +kernel
theorem dL_law_1071 : decode cL_law 1071 = .ok (.invokevirtual 113, 3) := by decide +kernel
theorem dL_law_1074 : decode cL_law 1074 = .ok (.invokevirtual 130, 3) := by decide +kernel
theorem dL_law_1077 : decode cL_law 1077 = .ok (.invokevirtual 113, 3) := by decide +kernel
theorem dL_law_1080 : decode cL_law 1080 = .ok (.invokevirtual 130, 3) := by decide +kernel
theorem dL_law_1083 : decode cL_law 1083 = .ok (.astore 18, 2) := by decide +kernel
theorem dL_law_1085 : decode cL_law 1085 = .ok (.iload 20, 2) := by decide +kernel
theorem dL_law_1087 : decode cL_law 1087 = .ok (.ifCond .lt 17, 3) := by decide +kernel
theorem dL_law_1090 : decode cL_law 1090 = .ok (.aload_n 1, 1) := by decide +kernel
theorem dL_law_1091 : decode cL_law 1091 = .ok (.iload 20, 2) := by decide +kernel
theorem dL_law_1093 : decode cL_law 1093 = .ok (.iconst 5, 1) := by decide +kernel
theorem dL_law_1094 : decode cL_law 1094 = .ok (.invokevirtual 63, 3) := by decide +kernel
theorem dL_law_1097 : decode cL_law 1097 = .ok (.iload 19, 2) := by decide +kernel
theorem dL_law_1099 : decode cL_law 1099 = .ok (.if_icmp .eq 5, 3) := by decide +kernel
theorem dL_law_1102 : decode cL_law 1102 = .ok (.iconst 0, 1) := by decide +kernel
theorem dL_law_1103 : decode cL_law 1103 = .ok (.ireturn, 1) := by decide +kernel
theorem dL_law_1104 : decode cL_law 1104 = .ok (.iinc 19 1, 3) := by decide +kernel
theorem dL_law_1107 : decode cL_law 1107 = .ok (.goto (-103), 3) := by decide +kernel
theorem dL_law_1110 : decode cL_law 1110 = .ok (.iconst 0, 1) := by decide +kernel
theorem dL_law_1111 : decode cL_law 1111 = .ok (.istore 19, 2) := by decide +kernel
theorem dL_law_1113 : decode cL_law 1113 = .ok (.iload 19, 2) := by decide +kernel
theorem dL_law_1115 : decode cL_law 1115 = .ok (.iconst 4, 1) := by decide +kernel
theorem dL_law_1116 : decode cL_law 1116 = .ok (.if_icmp .ge 89, 3) := by decide +kernel
theorem dL_law_1119 : decode cL_law 1119 = .ok (.iload 11, 2) := by decide +kernel
theorem dL_law_1121 : decode cL_law 1121 = .ok (.aload_n 1, 1) := by decide +kernel
theorem dL_law_1122 : decode cL_law 1122 = .ok (.iload 19, 2) := by decide +kernel
theorem dL_law_1124 : decode cL_law 1124 = .ok (.iconst 0, 1) := by decide +kernel
theorem dL_law_1125 : decode cL_law 1125 = .ok (.invokevirtual 161, 3) := by decide +kernel
theorem dL_law_1128 : decode cL_law 1128 = .ok (.iadd, 1) := by decide +kernel
theorem dL_law_1129 : decode cL_law 1129 = .ok (.istore 11, 2) := by decide +kernel
theorem dL_law_1131 : decode cL_law 1131 = .ok (.iload 12, 2) := by decide +kernel
theorem dL_law_1133 : decode cL_law 1133 = .ok (.aload_n 1, 1) := by decide +kernel
theorem dL_law_1134 : decode cL_law 1134 = .ok (.iload 19, 2) := by decide +kernel
theorem dL_law_1136 : decode cL_law 1136 = .ok (.iconst 4, 1) := by decide +kernel
theorem dL_law_1137 : decode cL_law 1137 = .ok (.invokevirtual 161, 3) := by decide +kernel
theorem dL_law_1140 : decode cL_law 1140 = .ok (.iadd, 1) := by decide +kernel
theorem dL_law_1141 : decode cL_law 1141 = .ok (.istore 12, 2) := by decide +kernel
theorem dL_law_1143 : decode cL_law 1143 = .ok (.aload_n 1, 1) := by decide +kernel
theorem dL_law_1144 : decode cL_law 1144 = .ok (.iload 19, 2) := by decide +kernel
theorem dL_law_1146 : decode cL_law 1146 = .ok (.iconst 1, 1) := by decide +kernel
theorem dL_law_1147 : decode cL_law 1147 = .ok (.invokevirtual 161, 3) := by decide +kernel
theorem dL_law_1150 : decode cL_law 1150 = .ok (.aload 13, 2) := by decide +kernel
theorem dL_law_1152 : decode cL_law 1152 = .ok (.iload 19, 2) := by decide +kernel
theorem dL_law_1154 : decode cL_law 1154 = .ok (.iaload, 1) := by decide +kernel
theorem dL_law_1155 : decode cL_law 1155 = .ok (.if_icmp .ne 42, 3) := by decide +kernel
theorem dL_law_1158 : decode cL_law 1158 = .ok (.aload 13, 2) := by decide +kernel
theorem dL_law_1160 : decode cL_law 1160 = .ok (.iload 19, 2) := by decide +kernel
theorem dL_law_1162 : decode cL_law 1162 = .ok (.iaload, 1) := by decide +kernel
theorem dL_law_1163 : decode cL_law 1163 = .ok (.iconst 4, 1) := by decide +kernel
theorem dL_law_1164 : decode cL_law 1164 = .ok (.if_icmp .gt 33, 3) := by decide +kernel
theorem dL_law_1167 : decode cL_law 1167 = .ok (.aload_n 1, 1) := by decide +kernel
theorem dL_law_1168 : decode cL_law 1168 = .ok (.iload 19, 2) := by decide +kernel
theorem dL_law_1170 : decode cL_law 1170 = .ok (.iconst 2, 1) := by decide +kernel
theorem dL_law_1171 : decode cL_law 1171 = .ok (.invokevirtual 161, 3) := by decide +kernel
theorem dL_law_1174 : decode cL_law 1174 = .ok (.aload 14, 2) := by decide +kernel
theorem dL_law_1176 : decode cL_law 1176 = .ok (.iload 19, 2) := by decide +kernel
theorem dL_law_1178 : decode cL_law 1178 = .ok (.iaload, 1) := by decide +kernel
theorem dL_law_1179 : decode cL_law 1179 = .ok (.if_icmp .ne 18, 3) := by decide +kernel
theorem dL_law_1182 : decode cL_law 1182 = .ok (.aload_n 1, 1) := by decide +kernel
theorem dL_law_1183 : decode cL_law 1183 = .ok (.iload 19, 2) := by decide +kernel
theorem dL_law_1185 : decode cL_law 1185 = .ok (.iconst 3, 1) := by decide +kernel
theorem dL_law_1186 : decode cL_law 1186 = .ok (.invokevirtual 161, 3) := by decide +kernel
theorem dL_law_1189 : decode cL_law 1189 = .ok (.aload 15, 2) := by decide +kernel
theorem dL_law_1191 : decode cL_law 1191 = .ok (.iload 19, 2) := by decide +kernel
theorem dL_law_1193 : decode cL_law 1193 = .ok (.iaload, 1) := by decide +kernel
theorem dL_law_1194 : decode cL_law 1194 = .ok (.if_icmp .eq 5, 3) := by decide +kernel
theorem dL_law_1197 : decode cL_law 1197 = .ok (.iconst 0, 1) := by decide +kernel
theorem dL_law_1198 : decode cL_law 1198 = .ok (.ireturn, 1) := by decide +kernel
theorem dL_law_1199 : decode cL_law 1199 = .ok (.iinc 19 1, 3) := by decide +kernel
theorem dL_law_1202 : decode cL_law 1202 = .ok (.goto (-89), 3) := by decide +kernel
theorem dL_law_1205 : decode cL_law 1205 = .ok (.aload_n 1, 1) := by decide +kernel
theorem dL_law_1206 : decode cL_law 1206 = .ok (.aload_n 1, 1) := by decide +kernel
theorem dL_law_1207 : decode cL_law 1207 = .ok (.invokevirtual 164, 3) := by decide +kernel
theorem dL_law_1210 : decode cL_law 1210 = .ok (.aload 18, 2) := by decide +kernel
theorem dL_law_1212 : decode cL_law 1212 = .ok (.invokestatic 138, 3) := by decide +kernel
theorem dL_law_1215 : decode cL_law 1215 = .ok (.ifCond .eq 201, 3) := by decide +kernel
theorem dL_law_1218 : decode cL_law 1218 = .ok (.aload_n 1, 1) := by decide +kernel
theorem dL_law_1219 : decode cL_law 1219 = .ok (.invokevirtual 167, 3) := by decide +kernel
theorem dL_law_1222 : decode cL_law 1222 = .ok (.iload 9, 2) := by decide +kernel
theorem dL_law_1224 : decode cL_law 1224 = .ok (.if_icmp .ne 192, 3) := by decide +kernel
theorem dL_law_1227 : decode cL_law 1227 = .ok (.aload_n 1, 1) := by decide +kernel
theorem dL_law_1228 : decode cL_law 1228 = .ok (.invokevirtual 170, 3) := by decide +kernel
theorem dL_law_1231 : decode cL_law 1231 = .ok (.iload 10, 2) := by decide +kernel
theorem dL_law_1233 : decode cL_law 1233 = .ok (.if_icmp .ne 183, 3) := by decide +kernel
theorem dL_law_1236 : decode cL_law 1236 = .ok (.aload_n 1, 1) := by decide +kernel
theorem dL_law_1237 : decode cL_law 1237 = .ok (.invokevirtual 173, 3) := by decide +kernel
theorem dL_law_1240 : decode cL_law 1240 = .ok (.iload 10, 2) := by decide +kernel
theorem dL_law_1242 : decode cL_law 1242 = .ok (.if_icmp .ne 174, 3) := by decide +kernel
theorem dL_law_1245 : decode cL_law 1245 = .ok (.aload_n 1, 1) := by decide +kernel
theorem dL_law_1246 : decode cL_law 1246 = .ok (.invokevirtual 176, 3) := by decide +kernel
theorem dL_law_1249 : decode cL_law 1249 = .ok (.iload 16, 2) := by decide +kernel
theorem dL_law_1251 : decode cL_law 1251 = .ok (.if_icmp .ne 165, 3) := by decide +kernel
theorem dL_law_1254 : decode cL_law 1254 = .ok (.aload_n 1, 1) := by decide +kernel
theorem dL_law_1255 : decode cL_law 1255 = .ok (.invokevirtual 179, 3) := by decide +kernel
theorem dL_law_1258 : decode cL_law 1258 = .ok (.iconst 1, 1) := by decide +kernel
theorem dL_law_1259 : decode cL_law 1259 = .ok (.if_icmp .ne 157, 3) := by decide +kernel
theorem dL_law_1262 : decode cL_law 1262 = .ok (.aload_n 1, 1) := by decide +kernel
theorem dL_law_1263 : decode cL_law 1263 = .ok (.iconst 4, 1) := by decide +kernel
theorem dL_law_1264 : decode cL_law 1264 = .ok (.invokevirtual 182, 3) := by decide +kernel
theorem dL_law_1267 : decode cL_law 1267 = .ok (.sipush (-1011), 3) := by decide +kernel
theorem dL_law_1270 : decode cL_law 1270 = .ok (.if_icmp .ne 146, 3) := by decide +kernel
theorem dL_law_1273 : decode cL_law 1273 = .ok (.aload_n 1, 1) := by decide +kernel
theorem dL_law_1274 : decode cL_law 1274 = .ok (.iload_n 3, 1) := by decide +kernel
theorem dL_law_1275 : decode cL_law 1275 = .ok (.invokevirtual 185, 3) := by decide +kernel
theorem dL_law_1278 : decode cL_law 1278 = .ok (.sipush (-1011), 3) := by decide +kernel
theorem dL_law_1281 : decode cL_law 1281 = .ok (.if_icmp .ne 135, 3) := by decide +kernel
theorem dL_law_1284 : decode cL_law 1284 = .ok (.aload_n 1, 1) := by decide +kernel
theorem dL_law_1285 : decode cL_law 1285 = .ok (.iconst 1, 1) := by decide +kernel
theorem dL_law_1286 : decode cL_law 1286 = .ok (.invokevirtual 45, 3) := by decide +kernel
theorem dL_law_1289 : decode cL_law 1289 = .ok (.iload 4, 2) := by decide +kernel
theorem dL_law_1291 : decode cL_law 1291 = .ok (.if_icmp .ne 125, 3) := by decide +kernel
theorem dL_law_1294 : decode cL_law 1294 = .ok (.aload_n 1, 1) := by decide +kernel
theorem dL_law_1295 : decode cL_law 1295 = .ok (.iconst 2, 1) := by decide +kernel
theorem dL_law_1296 : decode cL_law 1296 = .ok (.invokevirtual 45, 3) := by decide +kernel
theorem dL_law_1299 : decode cL_law 1299 = .ok (.iload 5, 2) := by decide +kernel
theorem dL_law_1301 : decode cL_law 1301 = .ok (.if_icmp .ne 115, 3) := by decide +kernel
theorem dL_law_1304 : decode cL_law 1304 = .ok (.aload_n 1, 1) := by decide +kernel
theorem dL_law_1305 : decode cL_law 1305 = .ok (.iconst 3, 1) := by decide +kernel
theorem dL_law_1306 : decode cL_law 1306 = .ok (.invokevirtual 45, 3) := by decide +kernel
theorem dL_law_1309 : decode cL_law 1309 = .ok (.iload 6, 2) := by decide +kernel
theorem dL_law_1311 : decode cL_law 1311 = .ok (.if_icmp .ne 105, 3) := by decide +kernel
theorem dL_law_1314 : decode cL_law 1314 = .ok (.aload_n 1, 1) := by decide +kernel
theorem dL_law_1315 : decode cL_law 1315 = .ok (.iconst 4, 1) := by decide +kernel
theorem dL_law_1316 : decode cL_law 1316 = .ok (.invokevirtual 45, 3) := by decide +kernel
theorem dL_law_1319 : decode cL_law 1319 = .ok (.iload 7, 2) := by decide +kernel
theorem dL_law_1321 : decode cL_law 1321 = .ok (.if_icmp .ne 95, 3) := by decide +kernel
theorem dL_law_1324 : decode cL_law 1324 = .ok (.aload_n 1, 1) := by decide +kernel
theorem dL_law_1325 : decode cL_law 1325 = .ok (.bipush 6, 2) := by decide +kernel
theorem dL_law_1327 : decode cL_law 1327 = .ok (.invokevirtual 45, 3) := by decide +kernel
theorem dL_law_1330 : decode cL_law 1330 = .ok (.iload 8, 2) := by decide +kernel
theorem dL_law_1332 : decode cL_law 1332 = .ok (.if_icmp .ne 84, 3) := by decide +kernel
theorem dL_law_1335 : decode cL_law 1335 = .ok (.aload_n 1, 1) := by decide +kernel
theorem dL_law_1336 : decode cL_law 1336 = .ok (.bipush 7, 2) := by decide +kernel
theorem dL_law_1338 : decode cL_law 1338 = .ok (.invokevirtual 45, 3) := by decide +kernel
theorem dL_law_1341 : decode cL_law 1341 = .ok (.iload 8, 2) := by decide +kernel
theorem dL_law_1343 : decode cL_law 1343 = .ok (.aload_n 1, 1) := by decide +kernel
theorem dL_law_1344 : decode cL_law 1344 = .ok (.bipush 8, 2) := by decide +kernel
theorem dL_law_1346 : decode cL_law 1346 = .ok (.invokevirtual 45, 3) := by decide +kernel
theorem dL_law_1349 : decode cL_law 1349 = .ok (.iadd, 1) := by decide +kernel
theorem dL_law_1350 : decode cL_law 1350 = .ok (.if_icmp .ne 66, 3) := by decide +kernel
theorem dL_law_1353 : decode cL_law 1353 = .ok (.aload_n 1, 1) := by decide +kernel
theorem dL_law_1354 : decode cL_law 1354 = .ok (.bipush 9, 2) := by decide +kernel
theorem dL_law_1356 : decode cL_law 1356 = .ok (.invokevirtual 45, 3) := by decide +kernel
theorem dL_law_1359 : decode cL_law 1359 = .ok (.iload 12, 2) := by decide +kernel
theorem dL_law_1361 : decode cL_law 1361 = .ok (.if_icmp .ne 55, 3) := by decide +kernel
theorem dL_law_1364 : decode cL_law 1364 = .ok (.aload_n 1, 1) := by decide +kernel
theorem dL_law_1365 : decode cL_law 1365 = .ok (.bipush 10, 2) := by decide +kernel
theorem dL_law_1367 : decode cL_law 1367 = .ok (.invokevirtual 45, 3) := by decide +kernel
theorem dL_law_1370 : decode cL_law 1370 = .ok (.iload 11, 2) := by decide +kernel
theorem dL_law_1372 : decode cL_law 1372 = .ok (.if_icmp .ne 44, 3) := by decide +kernel
theorem dL_law_1375 : decode cL_law 1375 = .ok (.aload_n 1, 1) := by decide +kernel
theorem dL_law_1376 : decode cL_law 1376 = .ok (.invokevirtual 188, 3) := by decide +kernel
theorem dL_law_1379 : decode cL_law 1379 = .ok (.iload 8, 2) := by decide +kernel
theorem dL_law_1381 : decode cL_law 1381 = .ok (.i2d, 1) := by decide +kernel
theorem dL_law_1382 : decode cL_law 1382 = .ok (.iload_n 3, 1) := by decide +kernel
theorem dL_law_1383 : decode cL_law 1383 = .ok (.i2d, 1) := by decide +kernel
theorem dL_law_1384 : decode cL_law 1384 = .ok (.ddiv, 1) := by decide +kernel
theorem dL_law_1385 : decode cL_law 1385 = .ok (.dcmp .l, 1) := by decide +kernel
theorem dL_law_1386 : decode cL_law 1386 = .ok (.ifCond .ne 30, 3) := by decide +kernel
theorem dL_law_1389 : decode cL_law 1389 = .ok (.aload_n 1, 1) := by decide +kernel
theorem dL_law_1390 : decode cL_law 1390 = .ok (.invokevirtual 192, 3) := by decide +kernel
theorem dL_law_1393 : decode cL_law 1393 = .ok (.iload 4, 2) := by decide +kernel
theorem dL_law_1395 : decode cL_law 1395 = .ok (.ifCond .ne 7, 3) := by decide +kernel
theorem dL_law_1398 : decode cL_law 1398 = .ok (.fconst 0, 1) := by decide +kernel
theorem dL_law_1399 : decode cL_law 1399 = .ok (.goto 13, 3) := by decide +kernel
theorem dL_law_1402 : decode cL_law 1402 = .ok (.iload 9, 2) := by decide +kernel
theorem dL_law_1404 : decode cL_law 1404 = .ok (.invokestatic 196, 3) := by decide +kernel
theorem dL_law_1407 : decode cL_law 1407 = .ok (.i2f, 1) := by decide +kernel
theorem dL_law_1408 : decode cL_law 1408 = .ok (.iload 4, 2) := by decide +kernel
theorem dL_law_1410 : decode cL_law 1410 = .ok (.i2f, 1) := by decide +kernel
theorem dL_law_1411 : decode cL_law 1411 = .ok (.fdiv, 1) := by decide +kernel
theorem dL_law_1412 : decode cL_law 1412 = .ok (.fcmp .l, 1) := by decide +kernel
theorem dL_law_1413 : decode cL_law 1413 = .ok (.ifCond .eq 5, 3) := by decide +kernel
theorem dL_law_1416 : decode cL_law 1416 = .ok (.iconst 0, 1) := by decide +kernel
theorem dL_law_1417 : decode cL_law 1417 = .ok (.ireturn, 1) := by decide +kernel
theorem dL_law_1418 : decode cL_law 1418 = .ok (.iconst 1, 1) := by decide +kernel
theorem dL_law_1419 : decode cL_law 1419 = .ok (.istore 19, 2) := by decide +kernel
theorem dL_law_1421 : decode cL_law 1421 = .ok (.iload 19, 2) := by decide +kernel
theorem dL_law_1423 : decode cL_law 1423 = .ok (.iconst 4, 1) := by decide +kernel
theorem dL_law_1424 : decode cL_law 1424 = .ok (.if_icmp .ge 86, 3) := by decide +kernel
theorem dL_law_1427 : decode cL_law 1427 = .ok (.aload_n 1, 1) := by decide +kernel
theorem dL_law_1428 : decode cL_law 1428 = .ok (.iload 19, 2) := by decide +kernel
theorem dL_law_1430 : decode cL_law 1430 = .ok (.iconst 1, 1) := by decide +kernel
theorem dL_law_1431 : decode cL_law 1431 = .ok (.isub, 1) := by decide +kernel
theorem dL_law_1432 : decode cL_law 1432 = .ok (.invokevirtual 182, 3) := by decide +kernel
theorem dL_law_1435 : decode cL_law 1435 = .ok (.istore 20, 2) := by decide +kernel
theorem dL_law_1437 : decode cL_law 1437 = .ok (.aload_n 1, 1) := by decide +kernel
theorem dL_law_1438 : decode cL_law 1438 = .ok (.iload 19, 2) := by decide +kernel
theorem dL_law_1440 : decode cL_law 1440 = .ok (.invokevirtual 182, 3) := by decide +kernel
theorem dL_law_1443 : decode cL_law 1443 = .ok (.istore 21, 2) := by decide +kernel
theorem dL_law_1445 : decode cL_law 1445 = .ok (.aload_n 1, 1) := by decide +kernel
theorem dL_law_1446 : decode cL_law 1446 = .ok (.iload 20, 2) := by decide +kernel
theorem dL_law_1448 : decode cL_law 1448 = .ok (.iconst 0, 1) := by decide +kernel
theorem dL_law_1449 : decode cL_law 1449 = .ok (.invokevirtual 161, 3) := by decide +kernel
theorem dL_law_1452 : decode cL_law 1452 = .ok (.aload_n 1, 1) := by decide +kernel
theorem dL_law_1453 : decode cL_law 1453 = .ok (.iload 21, 2) := by decide +kernel
theorem dL_law_1455 : decode cL_law 1455 = .ok (.iconst 0, 1) := by decide +kernel
theorem dL_law_1456 : decode cL_law 1456 = .ok (.invokevirtual 161, 3) := by decide +kernel
theorem dL_law_1459 : decode cL_law 1459 = .ok (.isub, 1) := by decide +kernel
theorem dL_law_1460 : decode cL_law 1460 = .ok (.istore 22, 2) := by decide +kernel
theorem dL_law_1462 : decode cL_law 1462 = .ok (.aload 13, 2) := by decide +kernel
theorem dL_law_1464 : decode cL_law 1464 = .ok (.iload 20, 2) := by decide +kernel
theorem dL_law_1466 : decode cL_law 1466 = .ok (.iaload, 1) := by decide +kernel
theorem dL_law_1467 : decode cL_law 1467 = .ok (.aload 13, 2) := by decide +kernel
theorem dL_law_1469 : decode cL_law 1469 = .ok (.iload 21, 2) := by decide +kernel
theorem dL_law_1471 : decode cL_law 1471 = .ok (.iaload, 1) := by decide +kernel
theorem dL_law_1472 : decode cL_law 1472 = .ok (.isub, 1) := by decide +kernel
theorem dL_law_1473 : decode cL_law 1473 = .ok (.istore 23, 2) := by decide +kernel
theorem dL_law_1475 : decode cL_law 1475 = .ok (.iload 22, 2) := by decide +kernel
theorem dL_law_1477 : decode cL_law 1477 = .ok (.ifCond .lt 25, 3) := by decide +kernel
theorem dL_law_1480 : decode cL_law 1480 = .ok (.iload 22, 2) := by decide +kernel
theorem dL_law_1482 : decode cL_law 1482 = .ok (.ifCond .ne 22, 3) := by decide +kernel
theorem dL_law_1485 : decode cL_law 1485 = .ok (.iload 23, 2) := by decide +kernel
theorem dL_law_1487 : decode cL_law 1487 = .ok (.ifCond .lt 15, 3) := by decide +kernel
theorem dL_law_1490 : decode cL_law 1490 = .ok (.iload 23, 2) := by decide +kernel
theorem dL_law_1492 : decode cL_law 1492 = .ok (.ifCond .ne 12, 3) := by decide +kernel
theorem dL_law_1495 : decode cL_law 1495 = .ok (.iload 20, 2) := by decide +kernel
theorem dL_law_1497 : decode cL_law 1497 = .ok (.iload 21, 2) := by decide +kernel
theorem dL_law_1499 : decode cL_law 1499 = .ok (.if_icmp .le 5, 3) := by decide +kernel
theorem dL_law_1502 : decode cL_law 1502 = .ok (.iconst 0, 1) := by decide +kernel
theorem dL_law_1503 : decode cL_law 1503 = .ok (.ireturn, 1) := by decide +kernel
theorem dL_law_1504 : decode cL_law 1504 = .ok (.iinc 19 1, 3) := by decide +kernel
theorem dL_law_1507 : decode cL_law 1507 = .ok (.goto (-86), 3) := by decide +kernel
theorem dL_law_1510 : decode cL_law 1510 = .ok (.iconst 1, 1) := by decide +kernel
theorem dL_law_1511 : decode cL_law 1511 = .ok (.istore 19, 2) := by decide +kernel
theorem dL_law_1513 : decode cL_law 1513 = .ok (.iload 19, 2) := by decide +kernel
theorem dL_law_1515 : decode cL_law 1515 = .ok (.iload_n 3, 1) := by decide +kernel
theorem dL_law_1516 : decode cL_law 1516 = .ok (.if_icmp .ge 90, 3) := by decide +kernel
theorem dL_law_1519 : decode cL_law 1519 = .ok (.aload_n 1, 1) := by decide +kernel
theorem dL_law_1520 : decode cL_law 1520 = .ok (.iload 19, 2) := by decide +kernel
theorem dL_law_1522 : decode cL_law 1522 = .ok (.iconst 1, 1) := by decide +kernel
theorem dL_law_1523 : decode cL_law 1523 = .ok (.isub, 1) := by decide +kernel
theorem dL_law_1524 : decode cL_law 1524 = .ok (.invokevirtual 185, 3) := by decide +kernel
theorem dL_law_1527 : decode cL_law 1527 = .ok (.istore 20, 2) := by decide +kernel
theorem dL_law_1529 : decode cL_law 1529 = .ok (.aload_n 1, 1) := by decide +kernel
theorem dL_law_1530 : decode cL_law 1530 = .ok (.iload 19, 2) := by decide +kernel
theorem dL_law_1532 : decode cL_law 1532 = .ok (.invokevirtual 185, 3) := by decide +kernel
theorem dL_law_1535 : decode cL_law 1535 = .ok (.istore 21, 2) := by decide +kernel
theorem dL_law_1537 : decode cL_law 1537 = .ok (.aload_n 1, 1) := by decide +kernel
theorem dL_law_1538 : decode cL_law 1538 = .ok (.iload 20, 2) := by decide +kernel
theorem dL_law_1540 : decode cL_law 1540 = .ok (.iconst 3, 1) := by decide +kernel
theorem dL_law_1541 : decode cL_law 1541 = .ok (.invokevirtual 63, 3) := by decide +kernel
theorem dL_law_1544 : decode cL_law 1544 = .ok (.aload_n 1, 1) := by decide +kernel
theorem dL_law_1545 : decode cL_law 1545 = .ok (.iload 21, 2) := by decide +kernel
theorem dL_law_1547 : decode cL_law 1547 = .ok (.iconst 3, 1) := by decide +kernel
theorem dL_law_1548 : decode cL_law 1548 = .ok (.invokevirtual 63, 3) := by decide +kernel
theorem dL_law_1551 : decode cL_law 1551 = .ok (.isub, 1) := by decide +kernel
theorem dL_law_1552 : decode cL_law 1552 = .ok (.istore 22, 2) := by decide +kernel
theorem dL_law_1554 : decode cL_law 1554 = .ok (.aload_n 1, 1) := by decide +kernel
theorem dL_law_1555 : decode cL_law 1555 = .ok (.iload 21, 2) := by decide +kernel
theorem dL_law_1557 : decode cL_law 1557 = .ok (.iconst 2, 1) := by decide +kernel
theorem dL_law_1558 : decode cL_law 1558 = .ok (.invokevirtual 63, 3) := by decide +kernel
theorem dL_law_1561 : decode cL_law 1561 = .ok (.aload_n 1, 1) := by decide +kernel
theorem dL_law_1562 : decode cL_law 1562 = .ok (.iload 20, 2) := by decide +kernel
theorem dL_law_1564 : decode cL_law 1564 = .ok (.iconst 2, 1) := by decide +kernel
theorem dL_law_1565 : decode cL_law 1565 = .ok (.invokevirtual 63, 3) := by decide +kernel
theorem dL_law_1568 : decode cL_law 1568 = .ok (.isub, 1) := by decide +kernel
theorem dL_law_1569 : decode cL_law 1569 = .ok (.istore 23, 2) := by decide +kernel
theorem dL_law_1571 : decode cL_law 1571 = .ok (.iload 22, 2) := by decide +kernel
theorem dL_law_1573 : decode cL_law 1573 = .ok (.ifCond .lt 25, 3) := by decide +kernel
theorem dL_law_1576 : decode cL_law 1576 = .ok (.iload 22, 2) := by decide +kernel
theorem dL_law_1578 : decode cL_law 1578 = .ok (.ifCond .ne 22, 3) := by decide +kernel
theorem dL_law_1581 : decode cL_law 1581 = .ok (.iload 23, 2) := by decide +kernel
theorem dL_law_1583 : decode cL_law 1583 = .ok (.ifCond .lt 15, 3) := by decide +kernel
theorem dL_law_1586 : decode cL_law 1586 = .ok (.iload 23, 2) := by decide +kernel
theorem dL_law_1588 : decode cL_law 1588 = .ok (.ifCond .ne 12, 3) := by decide +kernel
theorem dL_law_1591 : decode cL_law 1591 = .ok (.iload 20, 2) := by decide +kernel
theorem dL_law_1593 : decode cL_law 1593 = .ok (.iload 21, 2) := by decide +kernel
theorem dL_law_1595 : decode cL_law 1595 = .ok (.if_icmp .le 5, 3) := by decide +kernel
theorem dL_law_1598 : decode cL_law 1598 = .ok (.iconst 0, 1) := by decide +kernel
theorem dL_law_1599 : decode cL_law 1599 = .ok (.ireturn, 1) := by decide +kernel
theorem dL_law_1600 : decode cL_law 1600 = .ok (.iinc 19 1, 3) := by decide +kernel
theorem dL_law_1603 : decode cL_law 1603 = .ok (.goto (-90), 3) := by decide +kernel
theorem dL_law_1606 : decode cL_law 1606 = .ok (.aload_n 1, 1) := by decide +kernel
theorem dL_law_1607 : decode cL_law 1607 = .ok (.aload_n 0, 1) := by decide +kernel
theorem dL_law_1608 : decode cL_law 1608 = .ok (.bipush 90, 2) := by decide +kernel
theorem dL_law_1610 : decode cL_law 1610 = .ok (.iconst 4, 1) := by decide +kernel
theorem dL_law_1611 : decode cL_law 1611 = .ok (.iload_n 2, 1) := by decide +kernel
theorem dL_law_1612 : decode cL_law 1612 = .ok (.imul, 1) := by decide +kernel
theorem dL_law_1613 : decode cL_law 1613 = .ok (.iadd, 1) := by decide +kernel
theorem dL_law_1614 : decode cL_law 1614 = .ok (.invokestatic 33, 3) := by decide +kernel
theorem dL_law_1617 : decode cL_law 1617 = .ok (.iinc 2 1, 3) := by decide +kernel
theorem dL_law_1620 : decode cL_law 1620 = .ok (.goto (-1605), 3) := by decide +kernel
theorem dL_law_1623 : decode cL_law 1623 = .ok (.iconst 1, 1) := by decide +kernel
theorem dL_law_1624 : decode cL_law 1624 = .ok (.ireturn, 1) := by decide +kernel
end
section
theorem dJ5_init_d00df_0 : decode cJ5_init_d00df 0 = .ok (.aload_n 0, 1) := by decide +kernel
theorem dJ5_init_d00df_1 : decode cJ5_init_d00df 1 = .ok (.invokespecial 3, 3) := by decide +kernel
theorem dJ5_init_d00df_4 : decode cJ5_init_d00df 4 = .ok (.getstatic 18, 3) := by decide +kernel
theorem dJ5_init_d00df_7 : decode cJ5_init_d00df 7 = .ok (.ifCond .eq 18, 3) := by decide +kernel
theorem dJ5_init_d00df_10 : decode cJ5_init_d00df 10 = .ok (.aload_n 0, 1) := by decide +kernel
theorem dJ5_init_d00df_11 : decode cJ5_init_d00df 11 = .ok (.iload_n 1, 1) := by decide +kernel
theorem dJ5_init_d00df_12 : decode cJ5_init_d00df 12 = .ok (.newarray .byte, 2) := by decide +kernel
theorem dJ5_init_d00df_14 : decode cJ5_init_d00df 14 = .ok (.putfield 15, 3) := by decide +kernel
theorem dJ5_init_d00df_17 : decode cJ5_init_d00df 17 = .ok (.aload_n 0, 1) := by decide +kernel
theorem dJ5_init_d00df_18 : decode cJ5_init_d00df 18 = .ok (.iconst 0, 1) := by decide +kernel
theorem dJ5_init_d00df_19 : decode cJ5_init_d00df 19 = .ok (.putfield 22, 3) := by decide +kernel
theorem dJ5_init_d00df_22 : decode cJ5_init_d00df 22 = .ok (.goto 16, 3) := by decide +kernel
theorem dJ5_init_d00df_25 : decode cJ5_init_d00df 25 = .ok (.aload_n 0, 1) := by decide +kernel
theorem dJ5_init_d00df_26 : decode cJ5_init_d00df 26 = .ok (.iload_n 1, 1) := by decide +kernel
theorem dJ5_init_d00df_27 : decode cJ5_init_d00df 27 = .ok (.invokestatic 26, 3) := by decide +kernel
theorem dJ5_init_d00df_30 : decode cJ5_init_d00df 30 = .ok (.putfield 15, 3) := by decide +kernel
theorem dJ5_init_d00df_33 : decode cJ5_init_d00df 33 = .ok (.aload_n 0, 1) := by decide +kernel
theorem dJ5_init_d00df_34 : decode cJ5_init_d00df 34 = .ok (.iconst 1, 1) := by decide +kernel
theorem dJ5_init_d00df_35 : decode cJ5_init_d00df 35 = .ok (.putfield 22, 3) := by decide +kernel
theorem dJ5_init_d00df_38 : decode cJ5_init_d00df 38 = .ok (.return_, 1) := by decide +kernel
theorem dJ5_length_8abf5_0 : decode cJ5_length_8abf5 0 = .ok (.aload_n 0, 1) := by decide +kernel
theorem dJ5_length_8abf5_1 : decode cJ5_length_8abf5 1 = .ok (.getfield 79, 3) := by decide +kernel
theorem dJ5_length_8abf5_4 : decode cJ5_length_8abf5 4 = .ok (.ireturn, 1) := by decide +kernel
theorem dJ5_ensureCapacityInternal_d00df_0 : decode cJ5_ensureCapacityInternal_d00df 0 = .ok (.aload_n 0, 1) := by decide +kernel
theorem dJ5_ensureCapacityInternal_d00df_1 : decode cJ5_ensureCapacityInternal_d00df 1 = .ok (.getfield 15, 3) := by decide +kernel
theorem dJ5_ensureCapacityInternal_d00df_4 : decode cJ5_ensureCapacityInternal_d00df 4 = .ok (.arraylength, 1) := by decide +kernel
theorem dJ5_ensureCapacityInternal_d00df_5 : decode cJ5_ensureCapacityInternal_d00df 5 = .ok (.aload_n 0, 1) := by decide +kernel
theorem dJ5_ensureCapacityInternal_d00df_6 : decode cJ5_ensureCapacityInternal_d00df 6 = .ok (.getfield 22, 3) := by decide +kernel
theorem dJ5_ensureCapacityInternal_d00df_9 : decode cJ5_ensureCapacityInternal_d00df 9 = .ok (.ishr, 1) := by decide +kernel
theorem dJ5_ensureCapacityInternal_d00df_10 : decode cJ5_ensureCapacityInternal_d00df 10 = .ok (.istore_n 2, 1) := by decide +kernel
theorem dJ5_ensureCapacityInternal_d00df_11 : decode cJ5_ensureCapacityInternal_d00df 11 = .ok (.iload_n 1, 1) := by decide +kernel
theorem dJ5_ensureCapacityInternal_d00df_12 : decode cJ5_ensureCapacityInternal_d00df 12 = .ok (.iload_n 2, 1) := by decide +kernel
theorem dJ5_ensureCapacityInternal_d00df_13 : decode cJ5_ensureCapacityInternal_d00df 13 = .ok (.isub, 1) := by decide +kernel
theorem dJ5_ensureCapacityInternal_d00df_14 : decode cJ5_ensureCapacityInternal_d00df 14 = .ok (.ifCond .le 24, 3) := by decide +kernel
theorem dJ5_ensureCapacityInternal_d00df_17 : decode cJ5_ensureCapacityInternal_d00df 17 = .ok (.aload_n 0, 1) := by decide +kernel
theorem dJ5_ensureCapacityInternal_d00df_18 : decode cJ5_ensureCapacityInternal_d00df 18 = .ok (.aload_n 0, 1) := by decide +kernel
theorem dJ5_ensureCapacityInternal_d00df_19 : decode cJ5_ensureCapacityInternal_d00df 19 = .ok (.getfield 15, 3) := by decide +kernel
theorem dJ5_ensureCapacityInternal_d00df_22 : decode cJ5_ensureCapacityInternal_d00df 22 = .ok (.aload_n 0, 1) := by decide +kernel
theorem dJ5_ensureCapacityInternal_d00df_23 : decode cJ5_ensureCapacityInternal_d00df 23 = .ok (.iload_n 1, 1) := by decide +kernel
theorem dJ5_ensureCapacityInternal_d00df_24 : decode cJ5_ensureCapacityInternal_d00df 24 = .ok (.invokevirtual 104, 3) := by decide +kernel
theorem dJ5_ensureCapacityInternal_d00df_27 : decode cJ5_ensureCapacityInternal_d00df 27 = .ok (.aload_n 0, 1) := by decide +kernel
theorem dJ5_ensureCapacityInternal_d00df_28 : decode cJ5_ensureCapacityInternal_d00df 28 = .ok (.getfield 22, 3) := by decide +kernel
theorem dJ5_ensureCapacityInternal_d00df_31 : decode cJ5_ensureCapacityInternal_d00df 31 = .ok (.ishl, 1) := by decide +kernel
theorem dJ5_ensureCapacityInternal_d00df_32 : decode cJ5_ensureCapacityInternal_d00df 32 = .ok (.invokestatic 108, 3) := by decide +kernel
theorem dJ5_ensureCapacityInternal_d00df_35 : decode cJ5_ensureCapacityInternal_d00df 35 = .ok (.putfield 15, 3) := by decide +kernel
theorem dJ5_ensureCapacityInternal_d00df_38 : decode cJ5_ensureCapacityInternal_d00df 38 = .ok (.return_, 1) := by decide +kernel
theorem dJ5_newCapacity_0f7a4_0 : decode cJ5_newCapacity_0f7a4 0 = .ok (.aload_n 0, 1) := by decide +kernel
theorem dJ5_newCapacity_0f7a4_1 : decode cJ5_newCapacity_0f7a4 1 = .ok (.getfield 15, 3) := by decide +kernel
theorem dJ5_newCapacity_0f7a4_4 : decode cJ5_newCapacity_0f7a4 4 = .ok (.arraylength, 1) := by decide +kernel
theorem dJ5_newCapacity_0f7a4_5 : decode cJ5_newCapacity_0f7a4 5 = .ok (.istore_n 2, 1) := by decide +kernel
theorem dJ5_newCapacity_0f7a4_6 : decode cJ5_newCapacity_0f7a4 6 = .ok (.iload_n 1, 1) := by decide +kernel
theorem dJ5_newCapacity_0f7a4_7 : decode cJ5_newCapacity_0f7a4 7 = .ok (.aload_n 0, 1) := by decide +kernel
theorem dJ5_newCapacity_0f7a4_8 : decode cJ5_newCapacity_0f7a4 8 = .ok (.getfield 22, 3) := by decide +kernel
theorem dJ5_newCapacity_0f7a4_11 : decode cJ5_newCapacity_0f7a4 11 = .ok (.ishl, 1) := by decide +kernel
theorem dJ5_newCapacity_0f7a4_12 : decode cJ5_newCapacity_0f7a4 12 = .ok (.istore_n 3, 1) := by decide +kernel
theorem dJ5_newCapacity_0f7a4_13 : decode cJ5_newCapacity_0f7a4 13 = .ok (.iload_n 3, 1) := by decide +kernel
theorem dJ5_newCapacity_0f7a4_14 : decode cJ5_newCapacity_0f7a4 14 = .ok (.iload_n 2, 1) := by decide +kernel
theorem dJ5_newCapacity_0f7a4_15 : decode cJ5_newCapacity_0f7a4 15 = .ok (.isub, 1) := by decide +kernel
theorem dJ5_newCapacity_0f7a4_16 : decode cJ5_newCapacity_0f7a4 16 = .ok (.istore 4, 2) := by decide +kernel
theorem dJ5_newCapacity_0f7a4_18 : decode cJ5_newCapacity_0f7a4 18 = .ok (.iload_n 2, 1) := by decide +kernel
theorem dJ5_newCapacity_0f7a4_19 : decode cJ5_newCapacity_0f7a4 19 = .ok (.iload 4, 2) := by decide +kernel
theorem dJ5_newCapacity_0f7a4_21 : decode cJ5_newCapacity_0f7a4 21 = .ok (.iload_n 2, 1) := by decide +kernel
theorem dJ5_newCapacity_0f7a4_22 : decode cJ5_newCapacity_0f7a4 22 = .ok (.iconst 2, 1) := by decide +kernel
theorem dJ5_newCapacity_0f7a4_23 : decode cJ5_newCapacity_0f7a4 23 = .ok (.aload_n 0, 1) := by decide +kernel
theorem dJ5_newCapacity_0f7a4_24 : decode cJ5_newCapacity_0f7a4 24 = .ok (.getfield 22, 3) := by decide +kernel
theorem dJ5_newCapacity_0f7a4_27 : decode cJ5_newCapacity_0f7a4 27 = .ok (.ishl, 1) := by decide +kernel
theorem dJ5_newCapacity_0f7a4_28 : decode cJ5_newCapacity_0f7a4 28 = .ok (.iadd, 1) := by decide +kernel
theorem dJ5_newCapacity_0f7a4_29 : decode cJ5_newCapacity_0f7a4 29 = .ok (.invokestatic 114, 3) := by decide +kernel
theorem dJ5_newCapacity_0f7a4_32 : decode cJ5_newCapacity_0f7a4 32 = .ok (.istore 5, 2) := by decide +kernel
theorem dJ5_newCapacity_0f7a4_34 : decode cJ5_newCapacity_0f7a4 34 = .ok (.iload 5, 2) := by decide +kernel
theorem dJ5_newCapacity_0f7a4_36 : decode cJ5_newCapacity_0f7a4 36 = .ok (.ldc 39, 2) := by decide +kernel
theorem dJ5_newCapacity_0f7a4_38 : decode cJ5_newCapacity_0f7a4 38 = .ok (.if_icmp .ne 13, 3) := by decide +kernel
theorem dJ5_newCapacity_0f7a4_41 : decode cJ5_newCapacity_0f7a4 41 = .ok (.new 120, 3) := by decide +kernel
theorem dJ5_newCapacity_0f7a4_44 : decode cJ5_newCapacity_0f7a4 44 = .ok (.dup, 1) := by decide +kernel
theorem dJ5_newCapacity_0f7a4_45 : decode cJ5_newCapacity_0f7a4 45 = .ok (.ldc 122, 2) := by decide +kernel
theorem dJ5_newCapacity_0f7a4_47 : decode cJ5_newCapacity_0f7a4 47 = .ok (.invokespecial 124, 3) := by decide +kernel
theorem dJ5_newCapacity_0f7a4_50 : decode cJ5_newCapacity_0f7a4 50 = .ok (.athrow, 1) := by decide +kernel
theorem dJ5_newCapacity_0f7a4_51 : decode cJ5_newCapacity_0f7a4 51 = .ok (.iload 5, 2) := by decide +kernel
theorem dJ5_newCapacity_0f7a4_53 : decode cJ5_newCapacity_0f7a4 53 = .ok (.aload_n 0, 1) := by decide +kernel
theorem dJ5_newCapacity_0f7a4_54 : decode cJ5_newCapacity_0f7a4 54 = .ok (.getfield 22, 3) := by decide +kernel
theorem dJ5_newCapacity_0f7a4_57 : decode cJ5_newCapacity_0f7a4 57 = .ok (.ishr, 1) := by decide +kernel
theorem dJ5_newCapacity_0f7a4_58 : decode cJ5_newCapacity_0f7a4 58 = .ok (.ireturn, 1) := by decide +kernel
theorem dJ5_inflate_da8c8_0 : decode cJ5_inflate_da8c8 0 = .ok (.aload_n 0, 1) := by decide +kernel
theorem dJ5_inflate_da8c8_1 : decode cJ5_inflate_da8c8 1 = .ok (.invokevirtual 83, 3) := by decide +kernel
theorem dJ5_inflate_da8c8_4 : decode cJ5_inflate_da8c8 4 = .ok (.ifCond .ne 4, 3) := by decide +kernel
theorem dJ5_inflate_da8c8_7 : decode cJ5_inflate_da8c8 7 = .ok (.return_, 1) := by decide +kernel
theorem dJ5_inflate_da8c8_8 : decode cJ5_inflate_da8c8 8 = .ok (.aload_n 0, 1) := by decide +kernel
theorem dJ5_inflate_da8c8_9 : decode cJ5_inflate_da8c8 9 = .ok (.getfield 15, 3) := by decide +kernel
theorem dJ5_inflate_da8c8_12 : decode cJ5_inflate_da8c8 12 = .ok (.arraylength, 1) := by decide +kernel
theorem dJ5_inflate_da8c8_13 : decode cJ5_inflate_da8c8 13 = .ok (.invokestatic 26, 3) := by decide +kernel
theorem dJ5_inflate_da8c8_16 : decode cJ5_inflate_da8c8 16 = .ok (.astore_n 1, 1) := by decide +kernel
theorem dJ5_inflate_da8c8_17 : decode cJ5_inflate_da8c8 17 = .ok (.aload_n 0, 1) := by decide +kernel
theorem dJ5_inflate_da8c8_18 : decode cJ5_inflate_da8c8 18 = .ok (.getfield 15, 3) := by decide +kernel
theorem dJ5_inflate_da8c8_21 : decode cJ5_inflate_da8c8 21 = .ok (.iconst 0, 1) := by decide +kernel
theorem dJ5_inflate_da8c8_22 : decode cJ5_inflate_da8c8 22 = .ok (.aload_n 1, 1) := by decide +kernel
theorem dJ5_inflate_da8c8_23 : decode cJ5_inflate_da8c8 23 = .ok (.iconst 0, 1) := by decide +kernel
theorem dJ5_inflate_da8c8_24 : decode cJ5_inflate_da8c8 24 = .ok (.aload_n 0, 1) := by decide +kernel
theorem dJ5_inflate_da8c8_25 : decode cJ5_inflate_da8c8 25 = .ok (.getfield 79, 3) := by decide +kernel
theorem dJ5_inflate_da8c8_28 : decode cJ5_inflate_da8c8 28 = .ok (.invokestatic 125, 3) := by decide +kernel
theorem dJ5_inflate_da8c8_31 : decode cJ5_inflate_da8c8 31 = .ok (.aload_n 0, 1) := by decide +kernel
theorem dJ5_inflate_da8c8_32 : decode cJ5_inflate_da8c8 32 = .ok (.aload_n 1, 1) := by decide +kernel
theorem dJ5_inflate_da8c8_33 : decode cJ5_inflate_da8c8 33 = .ok (.putfield 15, 3) := by decide +kernel
theorem dJ5_inflate_da8c8_36 : decode cJ5_inflate_da8c8 36 = .ok (.aload_n 0, 1) := by decide +kernel
theorem dJ5_inflate_da8c8_37 : decode cJ5_inflate_da8c8 37 = .ok (.iconst 1, 1) := by decide +kernel
theorem dJ5_inflate_da8c8_38 : decode cJ5_inflate_da8c8 38 = .ok (.putfield 22, 3) := by decide +kernel
theorem dJ5_inflate_da8c8_41 : decode cJ5_inflate_da8c8 41 = .ok (.return_, 1) := by decide +kernel
theorem dJ5_setLength_d00df_0 : decode cJ5_setLength_d00df 0 = .ok (.iload_n 1, 1) := by decide +kernel
theorem dJ5_setLength_d00df_1 : decode cJ5_setLength_d00df 1 = .ok (.ifCond .ge 12, 3) := by decide +kernel
theorem dJ5_setLength_d00df_4 : decode cJ5_setLength_d00df 4 = .ok (.new 129, 3) := by decide +kernel
theorem dJ5_setLength_d00df_7 : decode cJ5_setLength_d00df 7 = .ok (.dup, 1) := by decide +kernel
theorem dJ5_setLength_d00df_8 : decode cJ5_setLength_d00df 8 = .ok (.iload_n 1, 1) := by decide +kernel
theorem dJ5_setLength_d00df_9 : decode cJ5_setLength_d00df 9 = .ok (.invokespecial 131, 3) := by decide +kernel
theorem dJ5_setLength_d00df_12 : decode cJ5_setLength_d00df 12 = .ok (.athrow, 1) := by decide +kernel
theorem dJ5_setLength_d00df_13 : decode cJ5_setLength_d00df 13 = .ok (.aload_n 0, 1) := by decide +kernel
theorem dJ5_setLength_d00df_14 : decode cJ5_setLength_d00df 14 = .ok (.iload_n 1, 1) := by decide +kernel
theorem dJ5_setLength_d00df_15 : decode cJ5_setLength_d00df 15 = .ok (.invokevirtual 100, 3) := by decide +kernel
theorem dJ5_setLength_d00df_18 : decode cJ5_setLength_d00df 18 = .ok (.aload_n 0, 1) := by decide +kernel
theorem dJ5_setLength_d00df_19 : decode cJ5_setLength_d00df 19 = .ok (.getfield 79, 3) := by decide +kernel
theorem dJ5_setLength_d00df_22 : decode cJ5_setLength_d00df 22 = .ok (.iload_n 1, 1) := by decide +kernel
theorem dJ5_setLength_d00df_23 : decode cJ5_setLength_d00df 23 = .ok (.if_icmp .ge 40, 3) := by decide +kernel
theorem dJ5_setLength_d00df_26 : decode cJ5_setLength_d00df 26 = .ok (.aload_n 0, 1) := by decide +kernel
theorem dJ5_setLength_d00df_27 : decode cJ5_setLength_d00df 27 = .ok (.invokevirtual 83, 3) := by decide +kernel
theorem dJ5_setLength_d00df_30 : decode cJ5_setLength_d00df 30 = .ok (.ifCond .eq 18, 3) := by decide +kernel
theorem dJ5_setLength_d00df_33 : decode cJ5_setLength_d00df 33 = .ok (.aload_n 0, 1) := by decide +kernel
theorem dJ5_setLength_d00df_34 : decode cJ5_setLength_d00df 34 = .ok (.getfield 15, 3) := by decide +kernel
theorem dJ5_setLength_d00df_37 : decode cJ5_setLength_d00df 37 = .ok (.aload_n 0, 1) := by decide +kernel
theorem dJ5_setLength_d00df_38 : decode cJ5_setLength_d00df 38 = .ok (.getfield 79, 3) := by decide +kernel
theorem dJ5_setLength_d00df_41 : decode cJ5_setLength_d00df 41 = .ok (.iload_n 1, 1) := by decide +kernel
theorem dJ5_setLength_d00df_42 : decode cJ5_setLength_d00df 42 = .ok (.invokestatic 133, 3) := by decide +kernel
theorem dJ5_setLength_d00df_45 : decode cJ5_setLength_d00df 45 = .ok (.goto 31, 3) := by decide +kernel
theorem dJ5_setLength_d00df_48 : decode cJ5_setLength_d00df 48 = .ok (.aload_n 0, 1) := by decide +kernel
theorem dJ5_setLength_d00df_49 : decode cJ5_setLength_d00df 49 = .ok (.getfield 15, 3) := by decide +kernel
theorem dJ5_setLength_d00df_52 : decode cJ5_setLength_d00df 52 = .ok (.aload_n 0, 1) := by decide +kernel
theorem dJ5_setLength_d00df_53 : decode cJ5_setLength_d00df 53 = .ok (.getfield 79, 3) := by decide +kernel
theorem dJ5_setLength_d00df_56 : decode cJ5_setLength_d00df 56 = .ok (.iload_n 1, 1) := by decide +kernel
theorem dJ5_setLength_d00df_57 : decode cJ5_setLength_d00df 57 = .ok (.invokestatic 137, 3) := by decide +kernel
theorem dJ5_setLength_d00df_60 : decode cJ5_setLength_d00df 60 = .ok (.goto 16, 3) := by decide +kernel
theorem dJ5_setLength_d00df_63 : decode cJ5_setLength_d00df 63 = .ok (.aload_n 0, 1) := by decide +kernel
theorem dJ5_setLength_d00df_64 : decode cJ5_setLength_d00df 64 = .ok (.getfield 79, 3) := by decide +kernel
theorem dJ5_setLength_d00df_67 : decode cJ5_setLength_d00df 67 = .ok (.iload_n 1, 1) := by decide +kernel
theorem dJ5_setLength_d00df_68 : decode cJ5_setLength_d00df 68 = .ok (.if_icmp .le 8, 3) := by decide +kernel
theorem dJ5_setLength_d00df_71 : decode cJ5_setLength_d00df 71 = .ok (.aload_n 0, 1) := by decide +kernel
theorem dJ5_setLength_d00df_72 : decode cJ5_setLength_d00df 72 = .ok (.iconst 1, 1) := by decide +kernel
theorem dJ5_setLength_d00df_73 : decode cJ5_setLength_d00df 73 = .ok (.putfield 73, 3) := by decide +kernel
theorem dJ5_setLength_d00df_76 : decode cJ5_setLength_d00df 76 = .ok (.aload_n 0, 1) := by decide +kernel
theorem dJ5_setLength_d00df_77 : decode cJ5_setLength_d00df 77 = .ok (.iload_n 1, 1) := by decide +kernel
theorem dJ5_setLength_d00df_78 : decode cJ5_setLength_d00df 78 = .ok (.putfield 79, 3) := by decide +kernel
theorem dJ5_setLength_d00df_81 : decode cJ5_setLength_d00df 81 = .ok (.return_, 1) := by decide +kernel
theorem dJ5_charAt_5068e_0 : decode cJ5_charAt_5068e 0 = .ok (.aload_n 0, 1) := by decide +kernel
theorem dJ5_charAt_5068e_1 : decode cJ5_charAt_5068e 1 = .ok (.getfield 22, 3) := by decide +kernel
theorem dJ5_charAt_5068e_4 : decode cJ5_charAt_5068e 4 = .ok (.istore_n 2, 1) := by decide +kernel
theorem dJ5_charAt_5068e_5 : decode cJ5_charAt_5068e 5 = .ok (.aload_n 0, 1) := by decide +kernel
theorem dJ5_charAt_5068e_6 : decode cJ5_charAt_5068e 6 = .ok (.getfield 15, 3) := by decide +kernel
theorem dJ5_charAt_5068e_9 : decode cJ5_charAt_5068e 9 = .ok (.astore_n 3, 1) := by decide +kernel
theorem dJ5_charAt_5068e_10 : decode cJ5_charAt_5068e 10 = .ok (.aload_n 0, 1) := by decide +kernel
theorem dJ5_charAt_5068e_11 : decode cJ5_charAt_5068e 11 = .ok (.getfield 79, 3) := by decide +kernel
theorem dJ5_charAt_5068e_14 : decode cJ5_charAt_5068e 14 = .ok (.aload_n 3, 1) := by decide +kernel
theorem dJ5_charAt_5068e_15 : decode cJ5_charAt_5068e 15 = .ok (.arraylength, 1) := by decide +kernel
theorem dJ5_charAt_5068e_16 : decode cJ5_charAt_5068e 16 = .ok (.iload_n 2, 1) := by decide +kernel
theorem dJ5_charAt_5068e_17 : decode cJ5_charAt_5068e 17 = .ok (.ishr, 1) := by decide +kernel
theorem dJ5_charAt_5068e_18 : decode cJ5_charAt_5068e 18 = .ok (.invokestatic 138, 3) := by decide +kernel
theorem dJ5_charAt_5068e_21 : decode cJ5_charAt_5068e 21 = .ok (.istore 4, 2) := by decide +kernel
theorem dJ5_charAt_5068e_23 : decode cJ5_charAt_5068e 23 = .ok (.iload_n 1, 1) := by decide +kernel
theorem dJ5_charAt_5068e_24 : decode cJ5_charAt_5068e 24 = .ok (.iload 4, 2) := by decide +kernel
theorem dJ5_charAt_5068e_26 : decode cJ5_charAt_5068e 26 = .ok (.invokestatic 144, 3) := by decide +kernel
theorem dJ5_charAt_5068e_29 : decode cJ5_charAt_5068e 29 = .ok (.iload_n 2, 1) := by decide +kernel
theorem dJ5_charAt_5068e_30 : decode cJ5_charAt_5068e 30 = .ok (.ifCond .ne 12, 3) := by decide +kernel
theorem dJ5_charAt_5068e_33 : decode cJ5_charAt_5068e 33 = .ok (.aload_n 3, 1) := by decide +kernel
theorem dJ5_charAt_5068e_34 : decode cJ5_charAt_5068e 34 = .ok (.iload_n 1, 1) := by decide +kernel
theorem dJ5_charAt_5068e_35 : decode cJ5_charAt_5068e 35 = .ok (.baload, 1) := by decide +kernel
theorem dJ5_charAt_5068e_36 : decode cJ5_charAt_5068e 36 = .ok (.sipush 255, 3) := by decide +kernel
theorem dJ5_charAt_5068e_39 : decode cJ5_charAt_5068e 39 = .ok (.iand, 1) := by decide +kernel
theorem dJ5_charAt_5068e_40 : decode cJ5_charAt_5068e 40 = .ok (.i2c, 1) := by decide +kernel
theorem dJ5_charAt_5068e_41 : decode cJ5_charAt_5068e 41 = .ok (.ireturn, 1) := by decide +kernel
theorem dJ5_charAt_5068e_42 : decode cJ5_charAt_5068e 42 = .ok (.aload_n 3, 1) := by decide +kernel
theorem dJ5_charAt_5068e_43 : decode cJ5_charAt_5068e 43 = .ok (.iload_n 1, 1) := by decide +kernel
theorem dJ5_charAt_5068e_44 : decode cJ5_charAt_5068e 44 = .ok (.invokestatic 148, 3) := by decide +kernel
theorem dJ5_charAt_5068e_47 : decode cJ5_charAt_5068e 47 = .ok (.ireturn, 1) := by decide +kernel
theorem dJ5_append_cf1ce_0 : decode cJ5_append_cf1ce 0 = .ok (.aload_n 1, 1) := by decide +kernel
theorem dJ5_append_cf1ce_1 : decode cJ5_append_cf1ce 1 = .ok (.ifnonnull 8, 3) := by decide +kernel
theorem dJ5_append_cf1ce_4 : decode cJ5_append_cf1ce 4 = .ok (.aload_n 0, 1) := by decide +kernel
theorem dJ5_append_cf1ce_5 : decode cJ5_append_cf1ce 5 = .ok (.invokevirtual 204, 3) := by decide +kernel
theorem dJ5_append_cf1ce_8 : decode cJ5_append_cf1ce 8 = .ok (.areturn, 1) := by decide +kernel
theorem dJ5_append_cf1ce_9 : decode cJ5_append_cf1ce 9 = .ok (.aload_n 1, 1) := by decide +kernel
theorem dJ5_append_cf1ce_10 : decode cJ5_append_cf1ce 10 = .ok (.invokevirtual 32, 3) := by decide +kernel
theorem dJ5_append_cf1ce_13 : decode cJ5_append_cf1ce 13 = .ok (.istore_n 2, 1) := by decide +kernel
theorem dJ5_append_cf1ce_14 : decode cJ5_append_cf1ce 14 = .ok (.aload_n 0, 1) := by decide +kernel
theorem dJ5_append_cf1ce_15 : decode cJ5_append_cf1ce 15 = .ok (.aload_n 0, 1) := by decide +kernel
theorem dJ5_append_cf1ce_16 : decode cJ5_append_cf1ce 16 = .ok (.getfield 79, 3) := by decide +kernel
theorem dJ5_append_cf1ce_19 : decode cJ5_append_cf1ce 19 = .ok (.iload_n 2, 1) := by decide +kernel
theorem dJ5_append_cf1ce_20 : decode cJ5_append_cf1ce 20 = .ok (.iadd, 1) := by decide +kernel
theorem dJ5_append_cf1ce_21 : decode cJ5_append_cf1ce 21 = .ok (.invokevirtual 100, 3) := by decide +kernel
theorem dJ5_append_cf1ce_24 : decode cJ5_append_cf1ce 24 = .ok (.aload_n 0, 1) := by decide +kernel
theorem dJ5_append_cf1ce_25 : decode cJ5_append_cf1ce 25 = .ok (.aload_n 0, 1) := by decide +kernel
theorem dJ5_append_cf1ce_26 : decode cJ5_append_cf1ce 26 = .ok (.getfield 79, 3) := by decide +kernel
theorem dJ5_append_cf1ce_29 : decode cJ5_append_cf1ce 29 = .ok (.aload_n 1, 1) := by decide +kernel
theorem dJ5_append_cf1ce_30 : decode cJ5_append_cf1ce 30 = .ok (.invokevirtual 208, 3) := by decide +kernel
theorem dJ5_append_cf1ce_33 : decode cJ5_append_cf1ce 33 = .ok (.aload_n 0, 1) := by decide +kernel
theorem dJ5_append_cf1ce_34 : decode cJ5_append_cf1ce 34 = .ok (.dup, 1) := by decide +kernel
theorem dJ5_append_cf1ce_35 : decode cJ5_append_cf1ce 35 = .ok (.getfield 79, 3) := by decide +kernel
theorem dJ5_append_cf1ce_38 : decode cJ5_append_cf1ce 38 = .ok (.iload_n 2, 1) := by decide +kernel
theorem dJ5_append_cf1ce_39 : decode cJ5_append_cf1ce 39 = .ok (.iadd, 1) := by decide +kernel
theorem dJ5_append_cf1ce_40 : decode cJ5_append_cf1ce 40 = .ok (.putfield 79, 3) := by decide +kernel
theorem dJ5_append_cf1ce_43 : decode cJ5_append_cf1ce 43 = .ok (.aload_n 0, 1) := by decide +kernel
theorem dJ5_append_cf1ce_44 : decode cJ5_append_cf1ce 44 = .ok (.areturn, 1) := by decide +kernel
theorem dJ5_appendNull_278bc_0 : decode cJ5_appendNull_278bc 0 = .ok (.aload_n 0, 1) := by decide +kernel
theorem dJ5_appendNull_278bc_1 : decode cJ5_appendNull_278bc 1 = .ok (.aload_n 0, 1) := by decide +kernel
theorem dJ5_appendNull_278bc_2 : decode cJ5_appendNull_278bc 2 = .ok (.getfield 79, 3) := by decide +kernel
theorem dJ5_appendNull_278bc_5 : decode cJ5_appendNull_278bc 5 = .ok (.iconst 4, 1) := by decide +kernel
theorem dJ5_appendNull_278bc_6 : decode cJ5_appendNull_278bc 6 = .ok (.iadd, 1) := by decide +kernel
theorem dJ5_appendNull_278bc_7 : decode cJ5_appendNull_278bc 7 = .ok (.invokevirtual 100, 3) := by decide +kernel
theorem dJ5_appendNull_278bc_10 : decode cJ5_appendNull_278bc 10 = .ok (.aload_n 0, 1) := by decide +kernel
theorem dJ5_appendNull_278bc_11 : decode cJ5_appendNull_278bc 11 = .ok (.getfield 79, 3) := by decide +kernel
theorem dJ5_appendNull_278bc_14 : decode cJ5_appendNull_278bc 14 = .ok (.istore_n 1, 1) := by decide +kernel
theorem dJ5_appendNull_278bc_15 : decode cJ5_appendNull_278bc 15 = .ok (.aload_n 0, 1) := by decide +kernel
theorem dJ5_appendNull_278bc_16 : decode cJ5_appendNull_278bc 16 = .ok (.getfield 15, 3) := by decide +kernel
theorem dJ5_appendNull_278bc_19 : decode cJ5_appendNull_278bc 19 = .ok (.astore_n 2, 1) := by decide +kernel
theorem dJ5_appendNull_278bc_20 : decode cJ5_appendNull_278bc 20 = .ok (.aload_n 0, 1) := by decide +kernel
theorem dJ5_appendNull_278bc_21 : decode cJ5_appendNull_278bc 21 = .ok (.invokevirtual 83, 3) := by decide +kernel
theorem dJ5_appendNull_278bc_24 : decode cJ5_appendNull_278bc 24 = .ok (.ifCond .eq 38, 3) := by decide +kernel
theorem dJ5_appendNull_278bc_27 : decode cJ5_appendNull_278bc 27 = .ok (.aload_n 2, 1) := by decide +kernel
theorem dJ5_appendNull_278bc_28 : decode cJ5_appendNull_278bc 28 = .ok (.iload_n 1, 1) := by decide +kernel
theorem dJ5_appendNull_278bc_29 : decode cJ5_appendNull_278bc 29 = .ok (.iinc 1 1, 3) := by decide +kernel
theorem dJ5_appendNull_278bc_32 : decode cJ5_appendNull_278bc 32 = .ok (.bipush 110, 2) := by decide +kernel
theorem dJ5_appendNull_278bc_34 : decode cJ5_appendNull_278bc 34 = .ok (.bastore, 1) := by decide +kernel
theorem dJ5_appendNull_278bc_35 : decode cJ5_appendNull_278bc 35 = .ok (.aload_n 2, 1) := by decide +kernel
theorem dJ5_appendNull_278bc_36 : decode cJ5_appendNull_278bc 36 = .ok (.iload_n 1, 1) := by decide +kernel
theorem dJ5_appendNull_278bc_37 : decode cJ5_appendNull_278bc 37 = .ok (.iinc 1 1, 3) := by decide +kernel
theorem dJ5_appendNull_278bc_40 : decode cJ5_appendNull_278bc 40 = .ok (.bipush 117, 2) := by decide +kernel
theorem dJ5_appendNull_278bc_42 : decode cJ5_appendNull_278bc 42 = .ok (.bastore, 1) := by decide +kernel
theorem dJ5_appendNull_278bc_43 : decode cJ5_appendNull_278bc 43 = .ok (.aload_n 2, 1) := by decide +kernel
theorem dJ5_appendNull_278bc_44 : decode cJ5_appendNull_278bc 44 = .ok (.iload_n 1, 1) := by decide +kernel
theorem dJ5_appendNull_278bc_45 : decode cJ5_appendNull_278bc 45 = .ok (.iinc 1 1, 3) := by decide +kernel
theorem dJ5_appendNull_278bc_48 : decode cJ5_appendNull_278bc 48 = .ok (.bipush 108, 2) := by decide +kernel
theorem dJ5_appendNull_278bc_50 : decode cJ5_appendNull_278bc 50 = .ok (.bastore, 1) := by decide +kernel
theorem dJ5_appendNull_278bc_51 : decode cJ5_appendNull_278bc 51 = .ok (.aload_n 2, 1) := by decide +kernel
theorem dJ5_appendNull_278bc_52 : decode cJ5_appendNull_278bc 52 = .ok (.iload_n 1, 1) := by decide +kernel
theorem dJ5_appendNull_278bc_53 : decode cJ5_appendNull_278bc 53 = .ok (.iinc 1 1, 3) := by decide +kernel
theorem dJ5_appendNull_278bc_56 : decode cJ5_appendNull_278bc 56 = .ok (.bipush 108, 2) := by decide +kernel
theorem dJ5_appendNull_278bc_58 : decode cJ5_appendNull_278bc 58 = .ok (.bastore, 1) := by decide +kernel
theorem dJ5_appendNull_278bc_59 : decode cJ5_appendNull_278bc 59 = .ok (.goto 17, 3) := by decide +kernel
theorem dJ5_appendNull_278bc_62 : decode cJ5_appendNull_278bc 62 = .ok (.aload_n 2, 1) := by decide +kernel
theorem dJ5_appendNull_278bc_63 : decode cJ5_appendNull_278bc 63 = .ok (.iload_n 1, 1) := by decide +kernel
theorem dJ5_appendNull_278bc_64 : decode cJ5_appendNull_278bc 64 = .ok (.bipush 110, 2) := by decide +kernel
theorem dJ5_appendNull_278bc_66 : decode cJ5_appendNull_278bc 66 = .ok (.bipush 117, 2) := by decide +kernel
theorem dJ5_appendNull_278bc_68 : decode cJ5_appendNull_278bc 68 = .ok (.bipush 108, 2) := by decide +kernel
theorem dJ5_appendNull_278bc_70 : decode cJ5_appendNull_278bc 70 = .ok (.bipush 108, 2) := by decide +kernel
theorem dJ5_appendNull_278bc_72 : decode cJ5_appendNull_278bc 72 = .ok (.invokestatic 226, 3) := by decide +kernel
theorem dJ5_appendNull_278bc_75 : decode cJ5_appendNull_278bc 75 = .ok (.istore_n 1, 1) := by decide +kernel
theorem dJ5_appendNull_278bc_76 : decode cJ5_appendNull_278bc 76 = .ok (.aload_n 0, 1) := by decide +kernel
theorem dJ5_appendNull_278bc_77 : decode cJ5_appendNull_278bc 77 = .ok (.iload_n 1, 1) := by decide +kernel
theorem dJ5_appendNull_278bc_78 : decode cJ5_appendNull_278bc 78 = .ok (.putfield 79, 3) := by decide +kernel
theorem dJ5_appendNull_278bc_81 : decode cJ5_appendNull_278bc 81 = .ok (.aload_n 0, 1) := by decide +kernel
theorem dJ5_appendNull_278bc_82 : decode cJ5_appendNull_278bc 82 = .ok (.areturn, 1) := by decide +kernel
theorem dJ5_append_3fe6f_0 : decode cJ5_append_3fe6f 0 = .ok (.aload_n 0, 1) := by decide +kernel
theorem dJ5_append_3fe6f_1 : decode cJ5_append_3fe6f 1 = .ok (.aload_n 0, 1) := by decide +kernel
theorem dJ5_append_3fe6f_2 : decode cJ5_append_3fe6f 2 = .ok (.getfield 79, 3) := by decide +kernel
theorem dJ5_append_3fe6f_5 : decode cJ5_append_3fe6f 5 = .ok (.iconst 1, 1) := by decide +kernel
theorem dJ5_append_3fe6f_6 : decode cJ5_append_3fe6f 6 = .ok (.iadd, 1) := by decide +kernel
theorem dJ5_append_3fe6f_7 : decode cJ5_append_3fe6f 7 = .ok (.invokevirtual 100, 3) := by decide +kernel
theorem dJ5_append_3fe6f_10 : decode cJ5_append_3fe6f 10 = .ok (.aload_n 0, 1) := by decide +kernel
theorem dJ5_append_3fe6f_11 : decode cJ5_append_3fe6f 11 = .ok (.invokevirtual 83, 3) := by decide +kernel
theorem dJ5_append_3fe6f_14 : decode cJ5_append_3fe6f 14 = .ok (.ifCond .eq 31, 3) := by decide +kernel
theorem dJ5_append_3fe6f_17 : decode cJ5_append_3fe6f 17 = .ok (.iload_n 1, 1) := by decide +kernel
theorem dJ5_append_3fe6f_18 : decode cJ5_append_3fe6f 18 = .ok (.invokestatic 191, 3) := by decide +kernel
theorem dJ5_append_3fe6f_21 : decode cJ5_append_3fe6f 21 = .ok (.ifCond .eq 24, 3) := by decide +kernel
theorem dJ5_append_3fe6f_24 : decode cJ5_append_3fe6f 24 = .ok (.aload_n 0, 1) := by decide +kernel
theorem dJ5_append_3fe6f_25 : decode cJ5_append_3fe6f 25 = .ok (.getfield 15, 3) := by decide +kernel
theorem dJ5_append_3fe6f_28 : decode cJ5_append_3fe6f 28 = .ok (.aload_n 0, 1) := by decide +kernel
theorem dJ5_append_3fe6f_29 : decode cJ5_append_3fe6f 29 = .ok (.dup, 1) := by decide +kernel
theorem dJ5_append_3fe6f_30 : decode cJ5_append_3fe6f 30 = .ok (.getfield 79, 3) := by decide +kernel
theorem dJ5_append_3fe6f_33 : decode cJ5_append_3fe6f 33 = .ok (.dup_x1, 1) := by decide +kernel
theorem dJ5_append_3fe6f_34 : decode cJ5_append_3fe6f 34 = .ok (.iconst 1, 1) := by decide +kernel
theorem dJ5_append_3fe6f_35 : decode cJ5_append_3fe6f 35 = .ok (.iadd, 1) := by decide +kernel
theorem dJ5_append_3fe6f_36 : decode cJ5_append_3fe6f 36 = .ok (.putfield 79, 3) := by decide +kernel
theorem dJ5_append_3fe6f_39 : decode cJ5_append_3fe6f 39 = .ok (.iload_n 1, 1) := by decide +kernel
theorem dJ5_append_3fe6f_40 : decode cJ5_append_3fe6f 40 = .ok (.i2b, 1) := by decide +kernel
theorem dJ5_append_3fe6f_41 : decode cJ5_append_3fe6f 41 = .ok (.bastore, 1) := by decide +kernel
theorem dJ5_append_3fe6f_42 : decode cJ5_append_3fe6f 42 = .ok (.goto 33, 3) := by decide +kernel
theorem dJ5_append_3fe6f_45 : decode cJ5_append_3fe6f 45 = .ok (.aload_n 0, 1) := by decide +kernel
theorem dJ5_append_3fe6f_46 : decode cJ5_append_3fe6f 46 = .ok (.invokevirtual 83, 3) := by decide +kernel
theorem dJ5_append_3fe6f_49 : decode cJ5_append_3fe6f 49 = .ok (.ifCond .eq 7, 3) := by decide +kernel
theorem dJ5_append_3fe6f_52 : decode cJ5_append_3fe6f 52 = .ok (.aload_n 0, 1) := by decide +kernel
theorem dJ5_append_3fe6f_53 : decode cJ5_append_3fe6f 53 = .ok (.invokevirtual 195, 3) := by decide +kernel
theorem dJ5_append_3fe6f_56 : decode cJ5_append_3fe6f 56 = .ok (.aload_n 0, 1) := by decide +kernel
theorem dJ5_append_3fe6f_57 : decode cJ5_append_3fe6f 57 = .ok (.getfield 15, 3) := by decide +kernel
theorem dJ5_append_3fe6f_60 : decode cJ5_append_3fe6f 60 = .ok (.aload_n 0, 1) := by decide +kernel
theorem dJ5_append_3fe6f_61 : decode cJ5_append_3fe6f 61 = .ok (.dup, 1) := by decide +kernel
theorem dJ5_append_3fe6f_62 : decode cJ5_append_3fe6f 62 = .ok (.getfield 79, 3) := by decide +kernel
theorem dJ5_append_3fe6f_65 : decode cJ5_append_3fe6f 65 = .ok (.dup_x1, 1) := by decide +kernel
theorem dJ5_append_3fe6f_66 : decode cJ5_append_3fe6f 66 = .ok (.iconst 1, 1) := by decide +kernel
theorem dJ5_append_3fe6f_67 : decode cJ5_append_3fe6f 67 = .ok (.iadd, 1) := by decide +kernel
theorem dJ5_append_3fe6f_68 : decode cJ5_append_3fe6f 68 = .ok (.putfield 79, 3) := by decide +kernel
theorem dJ5_append_3fe6f_71 : decode cJ5_append_3fe6f 71 = .ok (.iload_n 1, 1) := by decide +kernel
theorem dJ5_append_3fe6f_72 : decode cJ5_append_3fe6f 72 = .ok (.invokestatic 197, 3) := by decide +kernel
theorem dJ5_append_3fe6f_75 : decode cJ5_append_3fe6f 75 = .ok (.aload_n 0, 1) := by decide +kernel
theorem dJ5_append_3fe6f_76 : decode cJ5_append_3fe6f 76 = .ok (.areturn, 1) := by decide +kernel
theorem dJ5_append_c97b9_0 : decode cJ5_append_c97b9 0 = .ok (.aload_n 0, 1) := by decide +kernel
theorem dJ5_append_c97b9_1 : decode cJ5_append_c97b9 1 = .ok (.getfield 79, 3) := by decide +kernel
theorem dJ5_append_c97b9_4 : decode cJ5_append_c97b9 4 = .ok (.istore_n 2, 1) := by decide +kernel
theorem dJ5_append_c97b9_5 : decode cJ5_append_c97b9 5 = .ok (.iload_n 2, 1) := by decide +kernel
theorem dJ5_append_c97b9_6 : decode cJ5_append_c97b9 6 = .ok (.iload_n 1, 1) := by decide +kernel
theorem dJ5_append_c97b9_7 : decode cJ5_append_c97b9 7 = .ok (.invokestatic 245, 3) := by decide +kernel
theorem dJ5_append_c97b9_10 : decode cJ5_append_c97b9 10 = .ok (.iadd, 1) := by decide +kernel
theorem dJ5_append_c97b9_11 : decode cJ5_append_c97b9 11 = .ok (.istore_n 3, 1) := by decide +kernel
theorem dJ5_append_c97b9_12 : decode cJ5_append_c97b9 12 = .ok (.aload_n 0, 1) := by decide +kernel
theorem dJ5_append_c97b9_13 : decode cJ5_append_c97b9 13 = .ok (.iload_n 3, 1) := by decide +kernel
theorem dJ5_append_c97b9_14 : decode cJ5_append_c97b9 14 = .ok (.invokevirtual 100, 3) := by decide +kernel
theorem dJ5_append_c97b9_17 : decode cJ5_append_c97b9 17 = .ok (.aload_n 0, 1) := by decide +kernel
theorem dJ5_append_c97b9_18 : decode cJ5_append_c97b9 18 = .ok (.invokevirtual 83, 3) := by decide +kernel
theorem dJ5_append_c97b9_21 : decode cJ5_append_c97b9 21 = .ok (.ifCond .eq 16, 3) := by decide +kernel
theorem dJ5_append_c97b9_24 : decode cJ5_append_c97b9 24 = .ok (.iload_n 1, 1) := by decide +kernel
theorem dJ5_append_c97b9_25 : decode cJ5_append_c97b9 25 = .ok (.iload_n 3, 1) := by decide +kernel
theorem dJ5_append_c97b9_26 : decode cJ5_append_c97b9 26 = .ok (.aload_n 0, 1) := by decide +kernel
theorem dJ5_append_c97b9_27 : decode cJ5_append_c97b9 27 = .ok (.getfield 15, 3) := by decide +kernel
theorem dJ5_append_c97b9_30 : decode cJ5_append_c97b9 30 = .ok (.invokestatic 248, 3) := by decide +kernel
theorem dJ5_append_c97b9_33 : decode cJ5_append_c97b9 33 = .ok (.pop, 1) := by decide +kernel
theorem dJ5_append_c97b9_34 : decode cJ5_append_c97b9 34 = .ok (.goto 14, 3) := by decide +kernel
theorem dJ5_append_c97b9_37 : decode cJ5_append_c97b9 37 = .ok (.iload_n 1, 1) := by decide +kernel
theorem dJ5_append_c97b9_38 : decode cJ5_append_c97b9 38 = .ok (.iload_n 2, 1) := by decide +kernel
theorem dJ5_append_c97b9_39 : decode cJ5_append_c97b9 39 = .ok (.iload_n 3, 1) := by decide +kernel
theorem dJ5_append_c97b9_40 : decode cJ5_append_c97b9 40 = .ok (.aload_n 0, 1) := by decide +kernel
theorem dJ5_append_c97b9_41 : decode cJ5_append_c97b9 41 = .ok (.getfield 15, 3) := by decide +kernel
theorem dJ5_append_c97b9_44 : decode cJ5_append_c97b9 44 = .ok (.invokestatic 251, 3) := by decide +kernel
theorem dJ5_append_c97b9_47 : decode cJ5_append_c97b9 47 = .ok (.pop, 1) := by decide +kernel
theorem dJ5_append_c97b9_48 : decode cJ5_append_c97b9 48 = .ok (.aload_n 0, 1) := by decide +kernel
theorem dJ5_append_c97b9_49 : decode cJ5_append_c97b9 49 = .ok (.iload_n 3, 1) := by decide +kernel
theorem dJ5_append_c97b9_50 : decode cJ5_append_c97b9 50 = .ok (.putfield 79, 3) := by decide +kernel
theorem dJ5_append_c97b9_53 : decode cJ5_append_c97b9 53 = .ok (.aload_n 0, 1) := by decide +kernel
theorem dJ5_append_c97b9_54 : decode cJ5_append_c97b9 54 = .ok (.areturn, 1) := by decide +kernel
theorem dJ5_getValue_6d5f1_0 : decode cJ5_getValue_6d5f1 0 = .ok (.aload_n 0, 1) := by decide +kernel
theorem dJ5_getValue_6d5f1_1 : decode cJ5_getValue_6d5f1 1 = .ok (.getfield 15, 3) := by decide +kernel
theorem dJ5_getValue_6d5f1_4 : decode cJ5_getValue_6d5f1 4 = .ok (.areturn, 1) := by decide +kernel
theorem dJ5_isLatin1_aae02_0 : decode cJ5_isLatin1_aae02 0 = .ok (.getstatic 18, 3) := by decide +kernel
theorem dJ5_isLatin1_aae02_3 : decode cJ5_isLatin1_aae02 3 = .ok (.ifCond .eq 14, 3) := by decide +kernel
theorem dJ5_isLatin1_aae02_6 : decode cJ5_isLatin1_aae02 6 = .ok (.aload_n 0, 1) := by decide +kernel
theorem dJ5_isLatin1_aae02_7 : decode cJ5_isLatin1_aae02 7 = .ok (.getfield 22, 3) := by decide +kernel
theorem dJ5_isLatin1_aae02_10 : decode cJ5_isLatin1_aae02 10 = .ok (.ifCond .ne 7, 3) := by decide +kernel
theorem dJ5_isLatin1_aae02_13 : decode cJ5_isLatin1_aae02 13 = .ok (.iconst 1, 1) := by decide +kernel
theorem dJ5_isLatin1_aae02_14 : decode cJ5_isLatin1_aae02 14 = .ok (.goto 4, 3) := by decide +kernel
theorem dJ5_isLatin1_aae02_17 : decode cJ5_isLatin1_aae02 17 = .ok (.iconst 0, 1) := by decide +kernel
theorem dJ5_isLatin1_aae02_18 : decode cJ5_isLatin1_aae02 18 = .ok (.ireturn, 1) := by decide +kernel
theorem dJ5_inflateIfNeededFor_a7421_0 : decode cJ5_inflateIfNeededFor_a7421 0 = .ok (.getstatic 18, 3) := by decide +kernel
theorem dJ5_inflateIfNeededFor_a7421_3 : decode cJ5_inflateIfNeededFor_a7421 3 = .ok (.ifCond .eq 18, 3) := by decide +kernel
theorem dJ5_inflateIfNeededFor_a7421_6 : decode cJ5_inflateIfNeededFor_a7421 6 = .ok (.aload_n 0, 1) := by decide +kernel
theorem dJ5_inflateIfNeededFor_a7421_7 : decode cJ5_inflateIfNeededFor_a7421 7 = .ok (.getfield 22, 3) := by decide +kernel
theorem dJ5_inflateIfNeededFor_a7421_10 : decode cJ5_inflateIfNeededFor_a7421 10 = .ok (.aload_n 1, 1) := by decide +kernel
theorem dJ5_inflateIfNeededFor_a7421_11 : decode cJ5_inflateIfNeededFor_a7421 11 = .ok (.invokevirtual 40, 3) := by decide +kernel
theorem dJ5_inflateIfNeededFor_a7421_14 : decode cJ5_inflateIfNeededFor_a7421 14 = .ok (.if_icmp .eq 7, 3) := by decide +kernel
theorem dJ5_inflateIfNeededFor_a7421_17 : decode cJ5_inflateIfNeededFor_a7421 17 = .ok (.aload_n 0, 1) := by decide +kernel
theorem dJ5_inflateIfNeededFor_a7421_18 : decode cJ5_inflateIfNeededFor_a7421 18 = .ok (.invokevirtual 195, 3) := by decide +kernel
theorem dJ5_inflateIfNeededFor_a7421_21 : decode cJ5_inflateIfNeededFor_a7421 21 = .ok (.return_, 1) := by decide +kernel
theorem dJ5_putStringAt_47b60_0 : decode cJ5_putStringAt_47b60 0 = .ok (.aload_n 0, 1) := by decide +kernel
theorem dJ5_putStringAt_47b60_1 : decode cJ5_putStringAt_47b60 1 = .ok (.aload_n 2, 1) := by decide +kernel
theorem dJ5_putStringAt_47b60_2 : decode cJ5_putStringAt_47b60 2 = .ok (.invokevirtual 397, 3) := by decide +kernel
theorem dJ5_putStringAt_47b60_5 : decode cJ5_putStringAt_47b60 5 = .ok (.aload_n 2, 1) := by decide +kernel
theorem dJ5_putStringAt_47b60_6 : decode cJ5_putStringAt_47b60 6 = .ok (.aload_n 0, 1) := by decide +kernel
theorem dJ5_putStringAt_47b60_7 : decode cJ5_putStringAt_47b60 7 = .ok (.getfield 15, 3) := by decide +kernel
theorem dJ5_putStringAt_47b60_10 : decode cJ5_putStringAt_47b60 10 = .ok (.iload_n 1, 1) := by decide +kernel
theorem dJ5_putStringAt_47b60_11 : decode cJ5_putStringAt_47b60 11 = .ok (.aload_n 0, 1) := by decide +kernel
theorem dJ5_putStringAt_47b60_12 : decode cJ5_putStringAt_47b60 12 = .ok (.getfield 22, 3) := by decide +kernel
theorem dJ5_putStringAt_47b60_15 : decode cJ5_putStringAt_47b60 15 = .ok (.invokevirtual 399, 3) := by decide +kernel
theorem dJ5_putStringAt_47b60_18 : decode cJ5_putStringAt_47b60 18 = .ok (.return_, 1) := by decide +kernel
theorem dJ6_getChars_ba4f3_0 : decode cJ6_getChars_ba4f3 0 = .ok (.iload_n 1, 1) := by decide +kernel
theorem dJ6_getChars_ba4f3_1 : decode cJ6_getChars_ba4f3 1 = .ok (.istore 5, 2) := by decide +kernel
theorem dJ6_getChars_ba4f3_3 : decode cJ6_getChars_ba4f3 3 = .ok (.iload_n 0, 1) := by decide +kernel
theorem dJ6_getChars_ba4f3_4 : decode cJ6_getChars_ba4f3 4 = .ok (.ifCond .ge 7, 3) := by decide +kernel
theorem dJ6_getChars_ba4f3_7 : decode cJ6_getChars_ba4f3 7 = .ok (.iconst 1, 1) := by decide +kernel
theorem dJ6_getChars_ba4f3_8 : decode cJ6_getChars_ba4f3 8 = .ok (.goto 4, 3) := by decide +kernel
theorem dJ6_getChars_ba4f3_11 : decode cJ6_getChars_ba4f3 11 = .ok (.iconst 0, 1) := by decide +kernel
theorem dJ6_getChars_ba4f3_12 : decode cJ6_getChars_ba4f3 12 = .ok (.istore 6, 2) := by decide +kernel
theorem dJ6_getChars_ba4f3_14 : decode cJ6_getChars_ba4f3 14 = .ok (.iload 6, 2) := by decide +kernel
theorem dJ6_getChars_ba4f3_16 : decode cJ6_getChars_ba4f3 16 = .ok (.ifCond .ne 6, 3) := by decide +kernel
theorem dJ6_getChars_ba4f3_19 : decode cJ6_getChars_ba4f3 19 = .ok (.iload_n 0, 1) := by decide +kernel
theorem dJ6_getChars_ba4f3_20 : decode cJ6_getChars_ba4f3 20 = .ok (.ineg, 1) := by decide +kernel
theorem dJ6_getChars_ba4f3_21 : decode cJ6_getChars_ba4f3 21 = .ok (.istore_n 0, 1) := by decide +kernel
theorem dJ6_getChars_ba4f3_22 : decode cJ6_getChars_ba4f3 22 = .ok (.iload_n 0, 1) := by decide +kernel
theorem dJ6_getChars_ba4f3_23 : decode cJ6_getChars_ba4f3 23 = .ok (.bipush (-100), 2) := by decide +kernel
theorem dJ6_getChars_ba4f3_25 : decode cJ6_getChars_ba4f3 25 = .ok (.if_icmp .gt 47, 3) := by decide +kernel
theorem dJ6_getChars_ba4f3_28 : decode cJ6_getChars_ba4f3 28 = .ok (.iload_n 0, 1) := by decide +kernel
theorem dJ6_getChars_ba4f3_29 : decode cJ6_getChars_ba4f3 29 = .ok (.bipush 100, 2) := by decide +kernel
theorem dJ6_getChars_ba4f3_31 : decode cJ6_getChars_ba4f3 31 = .ok (.idiv, 1) := by decide +kernel
theorem dJ6_getChars_ba4f3_32 : decode cJ6_getChars_ba4f3 32 = .ok (.istore_n 3, 1) := by decide +kernel
theorem dJ6_getChars_ba4f3_33 : decode cJ6_getChars_ba4f3 33 = .ok (.iload_n 3, 1) := by decide +kernel
theorem dJ6_getChars_ba4f3_34 : decode cJ6_getChars_ba4f3 34 = .ok (.bipush 100, 2) := by decide +kernel
theorem dJ6_getChars_ba4f3_36 : decode cJ6_getChars_ba4f3 36 = .ok (.imul, 1) := by decide +kernel
theorem dJ6_getChars_ba4f3_37 : decode cJ6_getChars_ba4f3 37 = .ok (.iload_n 0, 1) := by decide +kernel
theorem dJ6_getChars_ba4f3_38 : decode cJ6_getChars_ba4f3 38 = .ok (.isub, 1) := by decide +kernel
theorem dJ6_getChars_ba4f3_39 : decode cJ6_getChars_ba4f3 39 = .ok (.istore 4, 2) := by decide +kernel
theorem dJ6_getChars_ba4f3_41 : decode cJ6_getChars_ba4f3 41 = .ok (.iload_n 3, 1) := by decide +kernel
theorem dJ6_getChars_ba4f3_42 : decode cJ6_getChars_ba4f3 42 = .ok (.istore_n 0, 1) := by decide +kernel
theorem dJ6_getChars_ba4f3_43 : decode cJ6_getChars_ba4f3 43 = .ok (.aload_n 2, 1) := by decide +kernel
theorem dJ6_getChars_ba4f3_44 : decode cJ6_getChars_ba4f3 44 = .ok (.iinc 5 (-1), 3) := by decide +kernel
theorem dJ6_getChars_ba4f3_47 : decode cJ6_getChars_ba4f3 47 = .ok (.iload 5, 2) := by decide +kernel
theorem dJ6_getChars_ba4f3_49 : decode cJ6_getChars_ba4f3 49 = .ok (.getstatic 83, 3) := by decide +kernel
theorem dJ6_getChars_ba4f3_52 : decode cJ6_getChars_ba4f3 52 = .ok (.iload 4, 2) := by decide +kernel
theorem dJ6_getChars_ba4f3_54 : decode cJ6_getChars_ba4f3 54 = .ok (.baload, 1) := by decide +kernel
theorem dJ6_getChars_ba4f3_55 : decode cJ6_getChars_ba4f3 55 = .ok (.bastore, 1) := by decide +kernel
theorem dJ6_getChars_ba4f3_56 : decode cJ6_getChars_ba4f3 56 = .ok (.aload_n 2, 1) := by decide +kernel
theorem dJ6_getChars_ba4f3_57 : decode cJ6_getChars_ba4f3 57 = .ok (.iinc 5 (-1), 3) := by decide +kernel
theorem dJ6_getChars_ba4f3_60 : decode cJ6_getChars_ba4f3 60 = .ok (.iload 5, 2) := by decide +kernel
theorem dJ6_getChars_ba4f3_62 : decode cJ6_getChars_ba4f3 62 = .ok (.getstatic 87, 3) := by decide +kernel
theorem dJ6_getChars_ba4f3_65 : decode cJ6_getChars_ba4f3 65 = .ok (.iload 4, 2) := by decide +kernel
theorem dJ6_getChars_ba4f3_67 : decode cJ6_getChars_ba4f3 67 = .ok (.baload, 1) := by decide +kernel
theorem dJ6_getChars_ba4f3_68 : decode cJ6_getChars_ba4f3 68 = .ok (.bastore, 1) := by decide +kernel
theorem dJ6_getChars_ba4f3_69 : decode cJ6_getChars_ba4f3 69 = .ok (.goto (-47), 3) := by decide +kernel
theorem dJ6_getChars_ba4f3_72 : decode cJ6_getChars_ba4f3 72 = .ok (.aload_n 2, 1) := by decide +kernel
theorem dJ6_getChars_ba4f3_73 : decode cJ6_getChars_ba4f3 73 = .ok (.iinc 5 (-1), 3) := by decide +kernel
theorem dJ6_getChars_ba4f3_76 : decode cJ6_getChars_ba4f3 76 = .ok (.iload 5, 2) := by decide +kernel
theorem dJ6_getChars_ba4f3_78 : decode cJ6_getChars_ba4f3 78 = .ok (.getstatic 83, 3) := by decide +kernel
theorem dJ6_getChars_ba4f3_81 : decode cJ6_getChars_ba4f3 81 = .ok (.iload_n 0, 1) := by decide +kernel
theorem dJ6_getChars_ba4f3_82 : decode cJ6_getChars_ba4f3 82 = .ok (.ineg, 1) := by decide +kernel
theorem dJ6_getChars_ba4f3_83 : decode cJ6_getChars_ba4f3 83 = .ok (.baload, 1) := by decide +kernel
theorem dJ6_getChars_ba4f3_84 : decode cJ6_getChars_ba4f3 84 = .ok (.bastore, 1) := by decide +kernel
theorem dJ6_getChars_ba4f3_85 : decode cJ6_getChars_ba4f3 85 = .ok (.iload_n 0, 1) := by decide +kernel
theorem dJ6_getChars_ba4f3_86 : decode cJ6_getChars_ba4f3 86 = .ok (.bipush (-9), 2) := by decide +kernel
theorem dJ6_getChars_ba4f3_88 : decode cJ6_getChars_ba4f3 88 = .ok (.if_icmp .ge 16, 3) := by decide +kernel
theorem dJ6_getChars_ba4f3_91 : decode cJ6_getChars_ba4f3 91 = .ok (.aload_n 2, 1) := by decide +kernel
theorem dJ6_getChars_ba4f3_92 : decode cJ6_getChars_ba4f3 92 = .ok (.iinc 5 (-1), 3) := by decide +kernel
theorem dJ6_getChars_ba4f3_95 : decode cJ6_getChars_ba4f3 95 = .ok (.iload 5, 2) := by decide +kernel
theorem dJ6_getChars_ba4f3_97 : decode cJ6_getChars_ba4f3 97 = .ok (.getstatic 87, 3) := by decide +kernel
theorem dJ6_getChars_ba4f3_100 : decode cJ6_getChars_ba4f3 100 = .ok (.iload_n 0, 1) := by decide +kernel
theorem dJ6_getChars_ba4f3_101 : decode cJ6_getChars_ba4f3 101 = .ok (.ineg, 1) := by decide +kernel
theorem dJ6_getChars_ba4f3_102 : decode cJ6_getChars_ba4f3 102 = .ok (.baload, 1) := by decide +kernel
theorem dJ6_getChars_ba4f3_103 : decode cJ6_getChars_ba4f3 103 = .ok (.bastore, 1) := by decide +kernel
theorem dJ6_getChars_ba4f3_104 : decode cJ6_getChars_ba4f3 104 = .ok (.iload 6, 2) := by decide +kernel
theorem dJ6_getChars_ba4f3_106 : decode cJ6_getChars_ba4f3 106 = .ok (.ifCond .eq 12, 3) := by decide +kernel
theorem dJ6_getChars_ba4f3_109 : decode cJ6_getChars_ba4f3 109 = .ok (.aload_n 2, 1) := by decide +kernel
theorem dJ6_getChars_ba4f3_110 : decode cJ6_getChars_ba4f3 110 = .ok (.iinc 5 (-1), 3) := by decide +kernel
theorem dJ6_getChars_ba4f3_113 : decode cJ6_getChars_ba4f3 113 = .ok (.iload 5, 2) := by decide +kernel
theorem dJ6_getChars_ba4f3_115 : decode cJ6_getChars_ba4f3 115 = .ok (.bipush 45, 2) := by decide +kernel
theorem dJ6_getChars_ba4f3_117 : decode cJ6_getChars_ba4f3 117 = .ok (.bastore, 1) := by decide +kernel
theorem dJ6_getChars_ba4f3_118 : decode cJ6_getChars_ba4f3 118 = .ok (.iload 5, 2) := by decide +kernel
theorem dJ6_getChars_ba4f3_120 : decode cJ6_getChars_ba4f3 120 = .ok (.ireturn, 1) := by decide +kernel
theorem dJ6_stringSize_0f7a4_0 : decode cJ6_stringSize_0f7a4 0 = .ok (.iconst 1, 1) := by decide +kernel
theorem dJ6_stringSize_0f7a4_1 : decode cJ6_stringSize_0f7a4 1 = .ok (.istore_n 1, 1) := by decide +kernel
theorem dJ6_stringSize_0f7a4_2 : decode cJ6_stringSize_0f7a4 2 = .ok (.iload_n 0, 1) := by decide +kernel
theorem dJ6_stringSize_0f7a4_3 : decode cJ6_stringSize_0f7a4 3 = .ok (.ifCond .lt 8, 3) := by decide +kernel
theorem dJ6_stringSize_0f7a4_6 : decode cJ6_stringSize_0f7a4 6 = .ok (.iconst 0, 1) := by decide +kernel
theorem dJ6_stringSize_0f7a4_7 : decode cJ6_stringSize_0f7a4 7 = .ok (.istore_n 1, 1) := by decide +kernel
theorem dJ6_stringSize_0f7a4_8 : decode cJ6_stringSize_0f7a4 8 = .ok (.iload_n 0, 1) := by decide +kernel
theorem dJ6_stringSize_0f7a4_9 : decode cJ6_stringSize_0f7a4 9 = .ok (.ineg, 1) := by decide +kernel
theorem dJ6_stringSize_0f7a4_10 : decode cJ6_stringSize_0f7a4 10 = .ok (.istore_n 0, 1) := by decide +kernel
theorem dJ6_stringSize_0f7a4_11 : decode cJ6_stringSize_0f7a4 11 = .ok (.bipush (-10), 2) := by decide +kernel
theorem dJ6_stringSize_0f7a4_13 : decode cJ6_stringSize_0f7a4 13 = .ok (.istore_n 2, 1) := by decide +kernel
theorem dJ6_stringSize_0f7a4_14 : decode cJ6_stringSize_0f7a4 14 = .ok (.iconst 1, 1) := by decide +kernel
theorem dJ6_stringSize_0f7a4_15 : decode cJ6_stringSize_0f7a4 15 = .ok (.istore_n 3, 1) := by decide +kernel
theorem dJ6_stringSize_0f7a4_16 : decode cJ6_stringSize_0f7a4 16 = .ok (.iload_n 3, 1) := by decide +kernel
theorem dJ6_stringSize_0f7a4_17 : decode cJ6_stringSize_0f7a4 17 = .ok (.bipush 10, 2) := by decide +kernel
theorem dJ6_stringSize_0f7a4_19 : decode cJ6_stringSize_0f7a4 19 = .ok (.if_icmp .ge 23, 3) := by decide +kernel
theorem dJ6_stringSize_0f7a4_22 : decode cJ6_stringSize_0f7a4 22 = .ok (.iload_n 0, 1) := by decide +kernel
theorem dJ6_stringSize_0f7a4_23 : decode cJ6_stringSize_0f7a4 23 = .ok (.iload_n 2, 1) := by decide +kernel
theorem dJ6_stringSize_0f7a4_24 : decode cJ6_stringSize_0f7a4 24 = .ok (.if_icmp .le 7, 3) := by decide +kernel
theorem dJ6_stringSize_0f7a4_27 : decode cJ6_stringSize_0f7a4 27 = .ok (.iload_n 3, 1) := by decide +kernel
theorem dJ6_stringSize_0f7a4_28 : decode cJ6_stringSize_0f7a4 28 = .ok (.iload_n 1, 1) := by decide +kernel
theorem dJ6_stringSize_0f7a4_29 : decode cJ6_stringSize_0f7a4 29 = .ok (.iadd, 1) := by decide +kernel
theorem dJ6_stringSize_0f7a4_30 : decode cJ6_stringSize_0f7a4 30 = .ok (.ireturn, 1) := by decide +kernel
theorem dJ6_stringSize_0f7a4_31 : decode cJ6_stringSize_0f7a4 31 = .ok (.bipush 10, 2) := by decide +kernel
theorem dJ6_stringSize_0f7a4_33 : decode cJ6_stringSize_0f7a4 33 = .ok (.iload_n 2, 1) := by decide +kernel
theorem dJ6_stringSize_0f7a4_34 : decode cJ6_stringSize_0f7a4 34 = .ok (.imul, 1) := by decide +kernel
theorem dJ6_stringSize_0f7a4_35 : decode cJ6_stringSize_0f7a4 35 = .ok (.istore_n 2, 1) := by decide +kernel
theorem dJ6_stringSize_0f7a4_36 : decode cJ6_stringSize_0f7a4 36 = .ok (.iinc 3 1, 3) := by decide +kernel
theorem dJ6_stringSize_0f7a4_39 : decode cJ6_stringSize_0f7a4 39 = .ok (.goto (-23), 3) := by decide +kernel
theorem dJ6_stringSize_0f7a4_42 : decode cJ6_stringSize_0f7a4 42 = .ok (.bipush 10, 2) := by decide +kernel
theorem dJ6_stringSize_0f7a4_44 : decode cJ6_stringSize_0f7a4 44 = .ok (.iload_n 1, 1) := by decide +kernel
theorem dJ6_stringSize_0f7a4_45 : decode cJ6_stringSize_0f7a4 45 = .ok (.iadd, 1) := by decide +kernel
theorem dJ6_stringSize_0f7a4_46 : decode cJ6_stringSize_0f7a4 46 = .ok (.ireturn, 1) := by decide +kernel
theorem dJ6_compare_7cf53_0 : decode cJ6_compare_7cf53 0 = .ok (.iload_n 0, 1) := by decide +kernel
theorem dJ6_compare_7cf53_1 : decode cJ6_compare_7cf53 1 = .ok (.iload_n 1, 1) := by decide +kernel
theorem dJ6_compare_7cf53_2 : decode cJ6_compare_7cf53 2 = .ok (.if_icmp .ge 7, 3) := by decide +kernel
theorem dJ6_compare_7cf53_5 : decode cJ6_compare_7cf53 5 = .ok (.iconst (-1), 1) := by decide +kernel
theorem dJ6_compare_7cf53_6 : decode cJ6_compare_7cf53 6 = .ok (.goto 13, 3) := by decide +kernel
theorem dJ6_compare_7cf53_9 : decode cJ6_compare_7cf53 9 = .ok (.iload_n 0, 1) := by decide +kernel
theorem dJ6_compare_7cf53_10 : decode cJ6_compare_7cf53 10 = .ok (.iload_n 1, 1) := by decide +kernel
theorem dJ6_compare_7cf53_11 : decode cJ6_compare_7cf53 11 = .ok (.if_icmp .ne 7, 3) := by decide +kernel
theorem dJ6_compare_7cf53_14 : decode cJ6_compare_7cf53 14 = .ok (.iconst 0, 1) := by decide +kernel
theorem dJ6_compare_7cf53_15 : decode cJ6_compare_7cf53 15 = .ok (.goto 4, 3) := by decide +kernel
theorem dJ6_compare_7cf53_18 : decode cJ6_compare_7cf53 18 = .ok (.iconst 1, 1) := by decide +kernel
theorem dJ6_compare_7cf53_19 : decode cJ6_compare_7cf53 19 = .ok (.ireturn, 1) := by decide +kernel
theorem dJ6_bitCount_0f7a4_0 : decode cJ6_bitCount_0f7a4 0 = .ok (.iload_n 0, 1) := by decide +kernel
theorem dJ6_bitCount_0f7a4_1 : decode cJ6_bitCount_0f7a4 1 = .ok (.iload_n 0, 1) := by decide +kernel
theorem dJ6_bitCount_0f7a4_2 : decode cJ6_bitCount_0f7a4 2 = .ok (.iconst 1, 1) := by decide +kernel
theorem dJ6_bitCount_0f7a4_3 : decode cJ6_bitCount_0f7a4 3 = .ok (.iushr, 1) := by decide +kernel
theorem dJ6_bitCount_0f7a4_4 : decode cJ6_bitCount_0f7a4 4 = .ok (.ldc_w 265, 3) := by decide +kernel
theorem dJ6_bitCount_0f7a4_7 : decode cJ6_bitCount_0f7a4 7 = .ok (.iand, 1) := by decide +kernel
theorem dJ6_bitCount_0f7a4_8 : decode cJ6_bitCount_0f7a4 8 = .ok (.isub, 1) := by decide +kernel
theorem dJ6_bitCount_0f7a4_9 : decode cJ6_bitCount_0f7a4 9 = .ok (.istore_n 0, 1) := by decide +kernel
theorem dJ6_bitCount_0f7a4_10 : decode cJ6_bitCount_0f7a4 10 = .ok (.iload_n 0, 1) := by decide +kernel
theorem dJ6_bitCount_0f7a4_11 : decode cJ6_bitCount_0f7a4 11 = .ok (.ldc_w 266, 3) := by decide +kernel
theorem dJ6_bitCount_0f7a4_14 : decode cJ6_bitCount_0f7a4 14 = .ok (.iand, 1) := by decide +kernel
theorem dJ6_bitCount_0f7a4_15 : decode cJ6_bitCount_0f7a4 15 = .ok (.iload_n 0, 1) := by decide +kernel
theorem dJ6_bitCount_0f7a4_16 : decode cJ6_bitCount_0f7a4 16 = .ok (.iconst 2, 1) := by decide +kernel
theorem dJ6_bitCount_0f7a4_17 : decode cJ6_bitCount_0f7a4 17 = .ok (.iushr, 1) := by decide +kernel
theorem dJ6_bitCount_0f7a4_18 : decode cJ6_bitCount_0f7a4 18 = .ok (.ldc_w 266, 3) := by decide +kernel
theorem dJ6_bitCount_0f7a4_21 : decode cJ6_bitCount_0f7a4 21 = .ok (.iand, 1) := by decide +kernel
theorem dJ6_bitCount_0f7a4_22 : decode cJ6_bitCount_0f7a4 22 = .ok (.iadd, 1) := by decide +kernel
theorem dJ6_bitCount_0f7a4_23 : decode cJ6_bitCount_0f7a4 23 = .ok (.istore_n 0, 1) := by decide +kernel
theorem dJ6_bitCount_0f7a4_24 : decode cJ6_bitCount_0f7a4 24 = .ok (.iload_n 0, 1) := by decide +kernel
theorem dJ6_bitCount_0f7a4_25 : decode cJ6_bitCount_0f7a4 25 = .ok (.iload_n 0, 1) := by decide +kernel
theorem dJ6_bitCount_0f7a4_26 : decode cJ6_bitCount_0f7a4 26 = .ok (.iconst 4, 1) := by decide +kernel
theorem dJ6_bitCount_0f7a4_27 : decode cJ6_bitCount_0f7a4 27 = .ok (.iushr, 1) := by decide +kernel
theorem dJ6_bitCount_0f7a4_28 : decode cJ6_bitCount_0f7a4 28 = .ok (.iadd, 1) := by decide +kernel
theorem dJ6_bitCount_0f7a4_29 : decode cJ6_bitCount_0f7a4 29 = .ok (.ldc_w 267, 3) := by decide +kernel
theorem dJ6_bitCount_0f7a4_32 : decode cJ6_bitCount_0f7a4 32 = .ok (.iand, 1) := by decide +kernel
theorem dJ6_bitCount_0f7a4_33 : decode cJ6_bitCount_0f7a4 33 = .ok (.istore_n 0, 1) := by decide +kernel
theorem dJ6_bitCount_0f7a4_34 : decode cJ6_bitCount_0f7a4 34 = .ok (.iload_n 0, 1) := by decide +kernel
theorem dJ6_bitCount_0f7a4_35 : decode cJ6_bitCount_0f7a4 35 = .ok (.iload_n 0, 1) := by decide +kernel
theorem dJ6_bitCount_0f7a4_36 : decode cJ6_bitCount_0f7a4 36 = .ok (.bipush 8, 2) := by decide +kernel
theorem dJ6_bitCount_0f7a4_38 : decode cJ6_bitCount_0f7a4 38 = .ok (.iushr, 1) := by decide +kernel
theorem dJ6_bitCount_0f7a4_39 : decode cJ6_bitCount_0f7a4 39 = .ok (.iadd, 1) := by decide +kernel
theorem dJ6_bitCount_0f7a4_40 : decode cJ6_bitCount_0f7a4 40 = .ok (.istore_n 0, 1) := by decide +kernel
theorem dJ6_bitCount_0f7a4_41 : decode cJ6_bitCount_0f7a4 41 = .ok (.iload_n 0, 1) := by decide +kernel
theorem dJ6_bitCount_0f7a4_42 : decode cJ6_bitCount_0f7a4 42 = .ok (.iload_n 0, 1) := by decide +kernel
theorem dJ6_bitCount_0f7a4_43 : decode cJ6_bitCount_0f7a4 43 = .ok (.bipush 16, 2) := by decide +kernel
theorem dJ6_bitCount_0f7a4_45 : decode cJ6_bitCount_0f7a4 45 = .ok (.iushr, 1) := by decide +kernel
theorem dJ6_bitCount_0f7a4_46 : decode cJ6_bitCount_0f7a4 46 = .ok (.iadd, 1) := by decide +kernel
theorem dJ6_bitCount_0f7a4_47 : decode cJ6_bitCount_0f7a4 47 = .ok (.istore_n 0, 1) := by decide +kernel
theorem dJ6_bitCount_0f7a4_48 : decode cJ6_bitCount_0f7a4 48 = .ok (.iload_n 0, 1) := by decide +kernel
theorem dJ6_bitCount_0f7a4_49 : decode cJ6_bitCount_0f7a4 49 = .ok (.bipush 63, 2) := by decide +kernel
theorem dJ6_bitCount_0f7a4_51 : decode cJ6_bitCount_0f7a4 51 = .ok (.iand, 1) := by decide +kernel
theorem dJ6_bitCount_0f7a4_52 : decode cJ6_bitCount_0f7a4 52 = .ok (.ireturn, 1) := by decide +kernel
theorem dJ9_abs_0f7a4_0 : decode cJ9_abs_0f7a4 0 = .ok (.iload_n 0, 1) := by decide +kernel
theorem dJ9_abs_0f7a4_1 : decode cJ9_abs_0f7a4 1 = .ok (.ifCond .ge 8, 3) := by decide +kernel
theorem dJ9_abs_0f7a4_4 : decode cJ9_abs_0f7a4 4 = .ok (.iload_n 0, 1) := by decide +kernel
theorem dJ9_abs_0f7a4_5 : decode cJ9_abs_0f7a4 5 = .ok (.ineg, 1) := by decide +kernel
theorem dJ9_abs_0f7a4_6 : decode cJ9_abs_0f7a4 6 = .ok (.goto 4, 3) := by decide +kernel
theorem dJ9_abs_0f7a4_9 : decode cJ9_abs_0f7a4 9 = .ok (.iload_n 0, 1) := by decide +kernel
theorem dJ9_abs_0f7a4_10 : decode cJ9_abs_0f7a4 10 = .ok (.ireturn, 1) := by decide +kernel
theorem dJ9_max_7cf53_0 : decode cJ9_max_7cf53 0 = .ok (.iload_n 0, 1) := by decide +kernel
theorem dJ9_max_7cf53_1 : decode cJ9_max_7cf53 1 = .ok (.iload_n 1, 1) := by decide +kernel
theorem dJ9_max_7cf53_2 : decode cJ9_max_7cf53 2 = .ok (.if_icmp .lt 7, 3) := by decide +kernel
theorem dJ9_max_7cf53_5 : decode cJ9_max_7cf53 5 = .ok (.iload_n 0, 1) := by decide +kernel
theorem dJ9_max_7cf53_6 : decode cJ9_max_7cf53 6 = .ok (.goto 4, 3) := by decide +kernel
theorem dJ9_max_7cf53_9 : decode cJ9_max_7cf53 9 = .ok (.iload_n 1, 1) := by decide +kernel
theorem dJ9_max_7cf53_10 : decode cJ9_max_7cf53 10 = .ok (.ireturn, 1) := by decide +kernel
theorem dJ9_min_7cf53_0 : decode cJ9_min_7cf53 0 = .ok (.iload_n 0, 1) := by decide +kernel
theorem dJ9_min_7cf53_1 : decode cJ9_min_7cf53 1 = .ok (.iload_n 1, 1) := by decide +kernel
theorem dJ9_min_7cf53_2 : decode cJ9_min_7cf53 2 = .ok (.if_icmp .gt 7, 3) := by decide +kernel
theorem dJ9_min_7cf53_5 : decode cJ9_min_7cf53 5 = .ok (.iload_n 0, 1) := by decide +kernel
theorem dJ9_min_7cf53_6 : decode cJ9_min_7cf53 6 = .ok (.goto 4, 3) := by decide +kernel
theorem dJ9_min_7cf53_9 : decode cJ9_min_7cf53 9 = .ok (.iload_n 1, 1) := by decide +kernel
theorem dJ9_min_7cf53_10 : decode cJ9_min_7cf53 10 = .ok (.ireturn, 1) := by decide +kernel
theorem dJ0_init_81219_0 : decode cJ0_init_81219 0 = .ok (.aload_n 0, 1) := by decide +kernel
theorem dJ0_init_81219_1 : decode cJ0_init_81219 1 = .ok (.aload_n 1, 1) := by decide +kernel
theorem dJ0_init_81219_2 : decode cJ0_init_81219 2 = .ok (.aconst_null, 1) := by decide +kernel
theorem dJ0_init_81219_3 : decode cJ0_init_81219 3 = .ok (.invokespecial 489, 3) := by decide +kernel
theorem dJ0_init_81219_6 : decode cJ0_init_81219 6 = .ok (.return_, 1) := by decide +kernel
theorem dJ0_length_8abf5_0 : decode cJ0_length_8abf5 0 = .ok (.aload_n 0, 1) := by decide +kernel
theorem dJ0_length_8abf5_1 : decode cJ0_length_8abf5 1 = .ok (.getfield 9, 3) := by decide +kernel
theorem dJ0_length_8abf5_4 : decode cJ0_length_8abf5 4 = .ok (.arraylength, 1) := by decide +kernel
theorem dJ0_length_8abf5_5 : decode cJ0_length_8abf5 5 = .ok (.aload_n 0, 1) := by decide +kernel
theorem dJ0_length_8abf5_6 : decode cJ0_length_8abf5 6 = .ok (.invokevirtual 335, 3) := by decide +kernel
theorem dJ0_length_8abf5_9 : decode cJ0_length_8abf5 9 = .ok (.ishr, 1) := by decide +kernel
theorem dJ0_length_8abf5_10 : decode cJ0_length_8abf5 10 = .ok (.ireturn, 1) := by decide +kernel
theorem dJ0_charAt_5068e_0 : decode cJ0_charAt_5068e 0 = .ok (.aload_n 0, 1) := by decide +kernel
theorem dJ0_charAt_5068e_1 : decode cJ0_charAt_5068e 1 = .ok (.invokevirtual 492, 3) := by decide +kernel
theorem dJ0_charAt_5068e_4 : decode cJ0_charAt_5068e 4 = .ok (.ifCond .eq 12, 3) := by decide +kernel
theorem dJ0_charAt_5068e_7 : decode cJ0_charAt_5068e 7 = .ok (.aload_n 0, 1) := by decide +kernel
theorem dJ0_charAt_5068e_8 : decode cJ0_charAt_5068e 8 = .ok (.getfield 9, 3) := by decide +kernel
theorem dJ0_charAt_5068e_11 : decode cJ0_charAt_5068e 11 = .ok (.iload_n 1, 1) := by decide +kernel
theorem dJ0_charAt_5068e_12 : decode cJ0_charAt_5068e 12 = .ok (.invokestatic 495, 3) := by decide +kernel
theorem dJ0_charAt_5068e_15 : decode cJ0_charAt_5068e 15 = .ok (.ireturn, 1) := by decide +kernel
theorem dJ0_charAt_5068e_16 : decode cJ0_charAt_5068e 16 = .ok (.aload_n 0, 1) := by decide +kernel
theorem dJ0_charAt_5068e_17 : decode cJ0_charAt_5068e 17 = .ok (.getfield 9, 3) := by decide +kernel
theorem dJ0_charAt_5068e_20 : decode cJ0_charAt_5068e 20 = .ok (.iload_n 1, 1) := by decide +kernel
theorem dJ0_charAt_5068e_21 : decode cJ0_charAt_5068e 21 = .ok (.invokestatic 498, 3) := by decide +kernel
theorem dJ0_charAt_5068e_24 : decode cJ0_charAt_5068e 24 = .ok (.ireturn, 1) := by decide +kernel
theorem dJ0_getBytes_840e7_0 : decode cJ0_getBytes_840e7 0 = .ok (.aload_n 0, 1) := by decide +kernel
theorem dJ0_getBytes_840e7_1 : decode cJ0_getBytes_840e7 1 = .ok (.invokevirtual 335, 3) := by decide +kernel
theorem dJ0_getBytes_840e7_4 : decode cJ0_getBytes_840e7 4 = .ok (.iload_n 3, 1) := by decide +kernel
theorem dJ0_getBytes_840e7_5 : decode cJ0_getBytes_840e7 5 = .ok (.if_icmp .ne 23, 3) := by decide +kernel
theorem dJ0_getBytes_840e7_8 : decode cJ0_getBytes_840e7 8 = .ok (.aload_n 0, 1) := by decide +kernel
theorem dJ0_getBytes_840e7_9 : decode cJ0_getBytes_840e7 9 = .ok (.getfield 9, 3) := by decide +kernel
theorem dJ0_getBytes_840e7_12 : decode cJ0_getBytes_840e7 12 = .ok (.iconst 0, 1) := by decide +kernel
theorem dJ0_getBytes_840e7_13 : decode cJ0_getBytes_840e7 13 = .ok (.aload_n 1, 1) := by decide +kernel
theorem dJ0_getBytes_840e7_14 : decode cJ0_getBytes_840e7 14 = .ok (.iload_n 2, 1) := by decide +kernel
theorem dJ0_getBytes_840e7_15 : decode cJ0_getBytes_840e7 15 = .ok (.iload_n 3, 1) := by decide +kernel
theorem dJ0_getBytes_840e7_16 : decode cJ0_getBytes_840e7 16 = .ok (.ishl, 1) := by decide +kernel
theorem dJ0_getBytes_840e7_17 : decode cJ0_getBytes_840e7 17 = .ok (.aload_n 0, 1) := by decide +kernel
theorem dJ0_getBytes_840e7_18 : decode cJ0_getBytes_840e7 18 = .ok (.getfield 9, 3) := by decide +kernel
theorem dJ0_getBytes_840e7_21 : decode cJ0_getBytes_840e7 21 = .ok (.arraylength, 1) := by decide +kernel
theorem dJ0_getBytes_840e7_22 : decode cJ0_getBytes_840e7 22 = .ok (.invokestatic 212, 3) := by decide +kernel
theorem dJ0_getBytes_840e7_25 : decode cJ0_getBytes_840e7 25 = .ok (.goto 18, 3) := by decide +kernel
theorem dJ0_getBytes_840e7_28 : decode cJ0_getBytes_840e7 28 = .ok (.aload_n 0, 1) := by decide +kernel
theorem dJ0_getBytes_840e7_29 : decode cJ0_getBytes_840e7 29 = .ok (.getfield 9, 3) := by decide +kernel
theorem dJ0_getBytes_840e7_32 : decode cJ0_getBytes_840e7 32 = .ok (.iconst 0, 1) := by decide +kernel
theorem dJ0_getBytes_840e7_33 : decode cJ0_getBytes_840e7 33 = .ok (.aload_n 1, 1) := by decide +kernel
theorem dJ0_getBytes_840e7_34 : decode cJ0_getBytes_840e7 34 = .ok (.iload_n 2, 1) := by decide +kernel
theorem dJ0_getBytes_840e7_35 : decode cJ0_getBytes_840e7 35 = .ok (.aload_n 0, 1) := by decide +kernel
theorem dJ0_getBytes_840e7_36 : decode cJ0_getBytes_840e7 36 = .ok (.getfield 9, 3) := by decide +kernel
theorem dJ0_getBytes_840e7_39 : decode cJ0_getBytes_840e7 39 = .ok (.arraylength, 1) := by decide +kernel
theorem dJ0_getBytes_840e7_40 : decode cJ0_getBytes_840e7 40 = .ok (.invokestatic 106, 3) := by decide +kernel
theorem dJ0_getBytes_840e7_43 : decode cJ0_getBytes_840e7 43 = .ok (.return_, 1) := by decide +kernel
theorem dJ0_init_db425_0 : decode cJ0_init_db425 0 = .ok (.aload_n 0, 1) := by decide +kernel
theorem dJ0_init_db425_1 : decode cJ0_init_db425 1 = .ok (.invokespecial 1, 3) := by decide +kernel
theorem dJ0_init_db425_4 : decode cJ0_init_db425 4 = .ok (.aload_n 1, 1) := by decide +kernel
theorem dJ0_init_db425_5 : decode cJ0_init_db425 5 = .ok (.invokevirtual 552, 3) := by decide +kernel
theorem dJ0_init_db425_8 : decode cJ0_init_db425 8 = .ok (.astore_n 3, 1) := by decide +kernel
theorem dJ0_init_db425_9 : decode cJ0_init_db425 9 = .ok (.aload_n 1, 1) := by decide +kernel
theorem dJ0_init_db425_10 : decode cJ0_init_db425 10 = .ok (.invokevirtual 549, 3) := by decide +kernel
theorem dJ0_init_db425_13 : decode cJ0_init_db425 13 = .ok (.istore 4, 2) := by decide +kernel
theorem dJ0_init_db425_15 : decode cJ0_init_db425 15 = .ok (.aload_n 1, 1) := by decide +kernel
theorem dJ0_init_db425_16 : decode cJ0_init_db425 16 = .ok (.invokevirtual 1047, 3) := by decide +kernel
theorem dJ0_init_db425_19 : decode cJ0_init_db425 19 = .ok (.ifCond .eq 22, 3) := by decide +kernel
theorem dJ0_init_db425_22 : decode cJ0_init_db425 22 = .ok (.aload_n 0, 1) := by decide +kernel
theorem dJ0_init_db425_23 : decode cJ0_init_db425 23 = .ok (.iconst 0, 1) := by decide +kernel
theorem dJ0_init_db425_24 : decode cJ0_init_db425 24 = .ok (.putfield 15, 3) := by decide +kernel
theorem dJ0_init_db425_27 : decode cJ0_init_db425 27 = .ok (.aload_n 0, 1) := by decide +kernel
theorem dJ0_init_db425_28 : decode cJ0_init_db425 28 = .ok (.aload_n 3, 1) := by decide +kernel
theorem dJ0_init_db425_29 : decode cJ0_init_db425 29 = .ok (.iconst 0, 1) := by decide +kernel
theorem dJ0_init_db425_30 : decode cJ0_init_db425 30 = .ok (.iload 4, 2) := by decide +kernel
theorem dJ0_init_db425_32 : decode cJ0_init_db425 32 = .ok (.invokestatic 54, 3) := by decide +kernel
theorem dJ0_init_db425_35 : decode cJ0_init_db425 35 = .ok (.putfield 9, 3) := by decide +kernel
theorem dJ0_init_db425_38 : decode cJ0_init_db425 38 = .ok (.goto 59, 3) := by decide +kernel
theorem dJ0_init_db425_41 : decode cJ0_init_db425 41 = .ok (.getstatic 38, 3) := by decide +kernel
theorem dJ0_init_db425_44 : decode cJ0_init_db425 44 = .ok (.ifCond .eq 35, 3) := by decide +kernel
theorem dJ0_init_db425_47 : decode cJ0_init_db425 47 = .ok (.aload_n 1, 1) := by decide +kernel
theorem dJ0_init_db425_48 : decode cJ0_init_db425 48 = .ok (.getfield 1048, 3) := by decide +kernel
theorem dJ0_init_db425_51 : decode cJ0_init_db425 51 = .ok (.ifCond .eq 28, 3) := by decide +kernel
theorem dJ0_init_db425_54 : decode cJ0_init_db425 54 = .ok (.aload_n 0, 1) := by decide +kernel
theorem dJ0_init_db425_55 : decode cJ0_init_db425 55 = .ok (.aload_n 3, 1) := by decide +kernel
theorem dJ0_init_db425_56 : decode cJ0_init_db425 56 = .ok (.iconst 0, 1) := by decide +kernel
theorem dJ0_init_db425_57 : decode cJ0_init_db425 57 = .ok (.iload 4, 2) := by decide +kernel
theorem dJ0_init_db425_59 : decode cJ0_init_db425 59 = .ok (.invokestatic 1051, 3) := by decide +kernel
theorem dJ0_init_db425_62 : decode cJ0_init_db425 62 = .ok (.putfield 9, 3) := by decide +kernel
theorem dJ0_init_db425_65 : decode cJ0_init_db425 65 = .ok (.aload_n 0, 1) := by decide +kernel
theorem dJ0_init_db425_66 : decode cJ0_init_db425 66 = .ok (.aload_n 0, 1) := by decide +kernel
theorem dJ0_init_db425_67 : decode cJ0_init_db425 67 = .ok (.getfield 9, 3) := by decide +kernel
theorem dJ0_init_db425_70 : decode cJ0_init_db425 70 = .ok (.iload 4, 2) := by decide +kernel
theorem dJ0_init_db425_72 : decode cJ0_init_db425 72 = .ok (.invokestatic 47, 3) := by decide +kernel
theorem dJ0_init_db425_75 : decode cJ0_init_db425 75 = .ok (.putfield 15, 3) := by decide +kernel
theorem dJ0_init_db425_78 : decode cJ0_init_db425 78 = .ok (.return_, 1) := by decide +kernel
theorem dJ0_init_db425_79 : decode cJ0_init_db425 79 = .ok (.aload_n 0, 1) := by decide +kernel
theorem dJ0_init_db425_80 : decode cJ0_init_db425 80 = .ok (.iconst 1, 1) := by decide +kernel
theorem dJ0_init_db425_81 : decode cJ0_init_db425 81 = .ok (.putfield 15, 3) := by decide +kernel
theorem dJ0_init_db425_84 : decode cJ0_init_db425 84 = .ok (.aload_n 0, 1) := by decide +kernel
theorem dJ0_init_db425_85 : decode cJ0_init_db425 85 = .ok (.aload_n 3, 1) := by decide +kernel
theorem dJ0_init_db425_86 : decode cJ0_init_db425 86 = .ok (.iconst 0, 1) := by decide +kernel
theorem dJ0_init_db425_87 : decode cJ0_init_db425 87 = .ok (.iload 4, 2) := by decide +kernel
theorem dJ0_init_db425_89 : decode cJ0_init_db425 89 = .ok (.iconst 1, 1) := by decide +kernel
theorem dJ0_init_db425_90 : decode cJ0_init_db425 90 = .ok (.ishl, 1) := by decide +kernel
theorem dJ0_init_db425_91 : decode cJ0_init_db425 91 = .ok (.invokestatic 54, 3) := by decide +kernel
theorem dJ0_init_db425_94 : decode cJ0_init_db425 94 = .ok (.putfield 9, 3) := by decide +kernel
theorem dJ0_init_db425_97 : decode cJ0_init_db425 97 = .ok (.return_, 1) := by decide +kernel
theorem dJ0_coder_7d493_0 : decode cJ0_coder_7d493 0 = .ok (.getstatic 38, 3) := by decide +kernel
theorem dJ0_coder_7d493_3 : decode cJ0_coder_7d493 3 = .ok (.ifCond .eq 10, 3) := by decide +kernel
theorem dJ0_coder_7d493_6 : decode cJ0_coder_7d493 6 = .ok (.aload_n 0, 1) := by decide +kernel
theorem dJ0_coder_7d493_7 : decode cJ0_coder_7d493 7 = .ok (.getfield 15, 3) := by decide +kernel
theorem dJ0_coder_7d493_10 : decode cJ0_coder_7d493 10 = .ok (.goto 4, 3) := by decide +kernel
theorem dJ0_coder_7d493_13 : decode cJ0_coder_7d493 13 = .ok (.iconst 1, 1) := by decide +kernel
theorem dJ0_coder_7d493_14 : decode cJ0_coder_7d493 14 = .ok (.ireturn, 1) := by decide +kernel
theorem dJ0_isLatin1_aae02_0 : decode cJ0_isLatin1_aae02 0 = .ok (.getstatic 38, 3) := by decide +kernel
theorem dJ0_isLatin1_aae02_3 : decode cJ0_isLatin1_aae02 3 = .ok (.ifCond .eq 14, 3) := by decide +kernel
theorem dJ0_isLatin1_aae02_6 : decode cJ0_isLatin1_aae02 6 = .ok (.aload_n 0, 1) := by decide +kernel
theorem dJ0_isLatin1_aae02_7 : decode cJ0_isLatin1_aae02 7 = .ok (.getfield 15, 3) := by decide +kernel
theorem dJ0_isLatin1_aae02_10 : decode cJ0_isLatin1_aae02 10 = .ok (.ifCond .ne 7, 3) := by decide +kernel
theorem dJ0_isLatin1_aae02_13 : decode cJ0_isLatin1_aae02 13 = .ok (.iconst 1, 1) := by decide +kernel
theorem dJ0_isLatin1_aae02_14 : decode cJ0_isLatin1_aae02 14 = .ok (.goto 4, 3) := by decide +kernel
theorem dJ0_isLatin1_aae02_17 : decode cJ0_isLatin1_aae02 17 = .ok (.iconst 0, 1) := by decide +kernel
theorem dJ0_isLatin1_aae02_18 : decode cJ0_isLatin1_aae02 18 = .ok (.ireturn, 1) := by decide +kernel
theorem dJ0_checkIndex_df160_0 : decode cJ0_checkIndex_df160 0 = .ok (.iload_n 0, 1) := by decide +kernel
theorem dJ0_checkIndex_df160_1 : decode cJ0_checkIndex_df160 1 = .ok (.iload_n 1, 1) := by decide +kernel
theorem dJ0_checkIndex_df160_2 : decode cJ0_checkIndex_df160 2 = .ok (.getstatic 1053, 3) := by decide +kernel
theorem dJ0_checkIndex_df160_5 : decode cJ0_checkIndex_df160 5 = .ok (.invokestatic 1059, 3) := by decide +kernel
theorem dJ0_checkIndex_df160_8 : decode cJ0_checkIndex_df160 8 = .ok (.pop, 1) := by decide +kernel
theorem dJ0_checkIndex_df160_9 : decode cJ0_checkIndex_df160 9 = .ok (.return_, 1) := by decide +kernel
theorem dJ0_checkBoundsOffCount_cabcc_0 : decode cJ0_checkBoundsOffCount_cabcc 0 = .ok (.iload_n 0, 1) := by decide +kernel
theorem dJ0_checkBoundsOffCount_cabcc_1 : decode cJ0_checkBoundsOffCount_cabcc 1 = .ok (.iload_n 1, 1) := by decide +kernel
theorem dJ0_checkBoundsOffCount_cabcc_2 : decode cJ0_checkBoundsOffCount_cabcc 2 = .ok (.iload_n 2, 1) := by decide +kernel
theorem dJ0_checkBoundsOffCount_cabcc_3 : decode cJ0_checkBoundsOffCount_cabcc 3 = .ok (.getstatic 1053, 3) := by decide +kernel
theorem dJ0_checkBoundsOffCount_cabcc_6 : decode cJ0_checkBoundsOffCount_cabcc 6 = .ok (.invokestatic 1065, 3) := by decide +kernel
theorem dJ0_checkBoundsOffCount_cabcc_9 : decode cJ0_checkBoundsOffCount_cabcc 9 = .ok (.ireturn, 1) := by decide +kernel
theorem dJ0_checkBoundsBeginEnd_23922_0 : decode cJ0_checkBoundsBeginEnd_23922 0 = .ok (.iload_n 0, 1) := by decide +kernel
theorem dJ0_checkBoundsBeginEnd_23922_1 : decode cJ0_checkBoundsBeginEnd_23922 1 = .ok (.iload_n 1, 1) := by decide +kernel
theorem dJ0_checkBoundsBeginEnd_23922_2 : decode cJ0_checkBoundsBeginEnd_23922 2 = .ok (.iload_n 2, 1) := by decide +kernel
theorem dJ0_checkBoundsBeginEnd_23922_3 : decode cJ0_checkBoundsBeginEnd_23922 3 = .ok (.getstatic 1053, 3) := by decide +kernel
theorem dJ0_checkBoundsBeginEnd_23922_6 : decode cJ0_checkBoundsBeginEnd_23922 6 = .ok (.invokestatic 1062, 3) := by decide +kernel
theorem dJ0_checkBoundsBeginEnd_23922_9 : decode cJ0_checkBoundsBeginEnd_23922 9 = .ok (.pop, 1) := by decide +kernel
theorem dJ0_checkBoundsBeginEnd_23922_10 : decode cJ0_checkBoundsBeginEnd_23922 10 = .ok (.return_, 1) := by decide +kernel
theorem dJ4_init_da8c8_0 : decode cJ4_init_da8c8 0 = .ok (.aload_n 0, 1) := by decide +kernel
theorem dJ4_init_da8c8_1 : decode cJ4_init_da8c8 1 = .ok (.bipush 16, 2) := by decide +kernel
theorem dJ4_init_da8c8_3 : decode cJ4_init_da8c8 3 = .ok (.invokespecial 1, 3) := by decide +kernel
theorem dJ4_init_da8c8_6 : decode cJ4_init_da8c8 6 = .ok (.return_, 1) := by decide +kernel
theorem dJ4_append_15ec4_0 : decode cJ4_append_15ec4 0 = .ok (.aload_n 0, 1) := by decide +kernel
theorem dJ4_append_15ec4_1 : decode cJ4_append_15ec4 1 = .ok (.aload_n 1, 1) := by decide +kernel
theorem dJ4_append_15ec4_2 : decode cJ4_append_15ec4 2 = .ok (.invokespecial 29, 3) := by decide +kernel
theorem dJ4_append_15ec4_5 : decode cJ4_append_15ec4 5 = .ok (.pop, 1) := by decide +kernel
theorem dJ4_append_15ec4_6 : decode cJ4_append_15ec4 6 = .ok (.aload_n 0, 1) := by decide +kernel
theorem dJ4_append_15ec4_7 : decode cJ4_append_15ec4 7 = .ok (.areturn, 1) := by decide +kernel
theorem dJ4_append_cf468_0 : decode cJ4_append_cf468 0 = .ok (.aload_n 0, 1) := by decide +kernel
theorem dJ4_append_cf468_1 : decode cJ4_append_cf468 1 = .ok (.iload_n 1, 1) := by decide +kernel
theorem dJ4_append_cf468_2 : decode cJ4_append_cf468 2 = .ok (.invokespecial 50, 3) := by decide +kernel
theorem dJ4_append_cf468_5 : decode cJ4_append_cf468 5 = .ok (.pop, 1) := by decide +kernel
theorem dJ4_append_cf468_6 : decode cJ4_append_cf468 6 = .ok (.aload_n 0, 1) := by decide +kernel
theorem dJ4_append_cf468_7 : decode cJ4_append_cf468 7 = .ok (.areturn, 1) := by decide +kernel
theorem dJ4_append_bf812_0 : decode cJ4_append_bf812 0 = .ok (.aload_n 0, 1) := by decide +kernel
theorem dJ4_append_bf812_1 : decode cJ4_append_bf812 1 = .ok (.iload_n 1, 1) := by decide +kernel
theorem dJ4_append_bf812_2 : decode cJ4_append_bf812 2 = .ok (.invokespecial 53, 3) := by decide +kernel
theorem dJ4_append_bf812_5 : decode cJ4_append_bf812 5 = .ok (.pop, 1) := by decide +kernel
theorem dJ4_append_bf812_6 : decode cJ4_append_bf812 6 = .ok (.aload_n 0, 1) := by decide +kernel
theorem dJ4_append_bf812_7 : decode cJ4_append_bf812 7 = .ok (.areturn, 1) := by decide +kernel
theorem dJ4_toString_0e30d_0 : decode cJ4_toString_0e30d 0 = .ok (.new 18, 3) := by decide +kernel
theorem dJ4_toString_0e30d_3 : decode cJ4_toString_0e30d 3 = .ok (.dup, 1) := by decide +kernel
theorem dJ4_toString_0e30d_4 : decode cJ4_toString_0e30d 4 = .ok (.aload_n 0, 1) := by decide +kernel
theorem dJ4_toString_0e30d_5 : decode cJ4_toString_0e30d 5 = .ok (.invokespecial 137, 3) := by decide +kernel
theorem dJ4_toString_0e30d_8 : decode cJ4_toString_0e30d 8 = .ok (.areturn, 1) := by decide +kernel
theorem dJ4_charAt_5068e_0 : decode cJ4_charAt_5068e 0 = .ok (.aload_n 0, 1) := by decide +kernel
theorem dJ4_charAt_5068e_1 : decode cJ4_charAt_5068e 1 = .ok (.iload_n 1, 1) := by decide +kernel
theorem dJ4_charAt_5068e_2 : decode cJ4_charAt_5068e 2 = .ok (.invokespecial 329, 3) := by decide +kernel
theorem dJ4_charAt_5068e_5 : decode cJ4_charAt_5068e 5 = .ok (.ireturn, 1) := by decide +kernel
theorem dJ4_setLength_d00df_0 : decode cJ4_setLength_d00df 0 = .ok (.aload_n 0, 1) := by decide +kernel
theorem dJ4_setLength_d00df_1 : decode cJ4_setLength_d00df 1 = .ok (.iload_n 1, 1) := by decide +kernel
theorem dJ4_setLength_d00df_2 : decode cJ4_setLength_d00df 2 = .ok (.invokespecial 333, 3) := by decide +kernel
theorem dJ4_setLength_d00df_5 : decode cJ4_setLength_d00df 5 = .ok (.return_, 1) := by decide +kernel
theorem dJ4_length_8abf5_0 : decode cJ4_length_8abf5 0 = .ok (.aload_n 0, 1) := by decide +kernel
theorem dJ4_length_8abf5_1 : decode cJ4_length_8abf5 1 = .ok (.invokespecial 343, 3) := by decide +kernel
theorem dJ4_length_8abf5_4 : decode cJ4_length_8abf5 4 = .ok (.ireturn, 1) := by decide +kernel
theorem dJ1_charAt_3b067_0 : decode cJ1_charAt_3b067 0 = .ok (.iload_n 1, 1) := by decide +kernel
theorem dJ1_charAt_3b067_1 : decode cJ1_charAt_3b067 1 = .ok (.aload_n 0, 1) := by decide +kernel
theorem dJ1_charAt_3b067_2 : decode cJ1_charAt_3b067 2 = .ok (.arraylength, 1) := by decide +kernel
theorem dJ1_charAt_3b067_3 : decode cJ1_charAt_3b067 3 = .ok (.invokestatic 9, 3) := by decide +kernel
theorem dJ1_charAt_3b067_6 : decode cJ1_charAt_3b067 6 = .ok (.aload_n 0, 1) := by decide +kernel
theorem dJ1_charAt_3b067_7 : decode cJ1_charAt_3b067 7 = .ok (.iload_n 1, 1) := by decide +kernel
theorem dJ1_charAt_3b067_8 : decode cJ1_charAt_3b067 8 = .ok (.baload, 1) := by decide +kernel
theorem dJ1_charAt_3b067_9 : decode cJ1_charAt_3b067 9 = .ok (.sipush 255, 3) := by decide +kernel
theorem dJ1_charAt_3b067_12 : decode cJ1_charAt_3b067 12 = .ok (.iand, 1) := by decide +kernel
theorem dJ1_charAt_3b067_13 : decode cJ1_charAt_3b067 13 = .ok (.i2c, 1) := by decide +kernel
theorem dJ1_charAt_3b067_14 : decode cJ1_charAt_3b067 14 = .ok (.ireturn, 1) := by decide +kernel
theorem dJ1_canEncode_fc78d_0 : decode cJ1_canEncode_fc78d 0 = .ok (.iload_n 0, 1) := by decide +kernel
theorem dJ1_canEncode_fc78d_1 : decode cJ1_canEncode_fc78d 1 = .ok (.sipush 255, 3) := by decide +kernel
theorem dJ1_canEncode_fc78d_4 : decode cJ1_canEncode_fc78d 4 = .ok (.if_icmp .gt 7, 3) := by decide +kernel
theorem dJ1_canEncode_fc78d_7 : decode cJ1_canEncode_fc78d 7 = .ok (.iconst 1, 1) := by decide +kernel
theorem dJ1_canEncode_fc78d_8 : decode cJ1_canEncode_fc78d 8 = .ok (.goto 4, 3) := by decide +kernel
theorem dJ1_canEncode_fc78d_11 : decode cJ1_canEncode_fc78d 11 = .ok (.iconst 0, 1) := by decide +kernel
theorem dJ1_canEncode_fc78d_12 : decode cJ1_canEncode_fc78d 12 = .ok (.ireturn, 1) := by decide +kernel
theorem dJ1_fillNull_b72d1_0 : decode cJ1_fillNull_b72d1 0 = .ok (.aload_n 0, 1) := by decide +kernel
theorem dJ1_fillNull_b72d1_1 : decode cJ1_fillNull_b72d1 1 = .ok (.iload_n 1, 1) := by decide +kernel
theorem dJ1_fillNull_b72d1_2 : decode cJ1_fillNull_b72d1 2 = .ok (.iload_n 2, 1) := by decide +kernel
theorem dJ1_fillNull_b72d1_3 : decode cJ1_fillNull_b72d1 3 = .ok (.iconst 0, 1) := by decide +kernel
theorem dJ1_fillNull_b72d1_4 : decode cJ1_fillNull_b72d1 4 = .ok (.invokestatic 236, 3) := by decide +kernel
theorem dJ1_fillNull_b72d1_7 : decode cJ1_fillNull_b72d1 7 = .ok (.return_, 1) := by decide +kernel
theorem dJ1_inflate_0e8fd_0 : decode cJ1_inflate_0e8fd 0 = .ok (.aload_n 0, 1) := by decide +kernel
theorem dJ1_inflate_0e8fd_1 : decode cJ1_inflate_0e8fd 1 = .ok (.iload_n 1, 1) := by decide +kernel
theorem dJ1_inflate_0e8fd_2 : decode cJ1_inflate_0e8fd 2 = .ok (.aload_n 2, 1) := by decide +kernel
theorem dJ1_inflate_0e8fd_3 : decode cJ1_inflate_0e8fd 3 = .ok (.iload_n 3, 1) := by decide +kernel
theorem dJ1_inflate_0e8fd_4 : decode cJ1_inflate_0e8fd 4 = .ok (.iload 4, 2) := by decide +kernel
theorem dJ1_inflate_0e8fd_6 : decode cJ1_inflate_0e8fd 6 = .ok (.invokestatic 240, 3) := by decide +kernel
theorem dJ1_inflate_0e8fd_9 : decode cJ1_inflate_0e8fd 9 = .ok (.return_, 1) := by decide +kernel
theorem dJ2_newBytesFor_77867_0 : decode cJ2_newBytesFor_77867 0 = .ok (.iload_n 0, 1) := by decide +kernel
theorem dJ2_newBytesFor_77867_1 : decode cJ2_newBytesFor_77867 1 = .ok (.invokestatic 11, 3) := by decide +kernel
theorem dJ2_newBytesFor_77867_4 : decode cJ2_newBytesFor_77867 4 = .ok (.newarray .byte, 2) := by decide +kernel
theorem dJ2_newBytesFor_77867_6 : decode cJ2_newBytesFor_77867 6 = .ok (.areturn, 1) := by decide +kernel
theorem dJ2_newBytesLength_0f7a4_0 : decode cJ2_newBytesLength_0f7a4 0 = .ok (.iload_n 0, 1) := by decide +kernel
theorem dJ2_newBytesLength_0f7a4_1 : decode cJ2_newBytesLength_0f7a4 1 = .ok (.ifCond .ge 11, 3) := by decide +kernel
theorem dJ2_newBytesLength_0f7a4_4 : decode cJ2_newBytesLength_0f7a4 4 = .ok (.new 17, 3) := by decide +kernel
theorem dJ2_newBytesLength_0f7a4_7 : decode cJ2_newBytesLength_0f7a4 7 = .ok (.dup, 1) := by decide +kernel
theorem dJ2_newBytesLength_0f7a4_8 : decode cJ2_newBytesLength_0f7a4 8 = .ok (.invokespecial 19, 3) := by decide +kernel
theorem dJ2_newBytesLength_0f7a4_11 : decode cJ2_newBytesLength_0f7a4 11 = .ok (.athrow, 1) := by decide +kernel
theorem dJ2_newBytesLength_0f7a4_12 : decode cJ2_newBytesLength_0f7a4 12 = .ok (.iload_n 0, 1) := by decide +kernel
theorem dJ2_newBytesLength_0f7a4_13 : decode cJ2_newBytesLength_0f7a4 13 = .ok (.ldc 20, 2) := by decide +kernel
theorem dJ2_newBytesLength_0f7a4_15 : decode cJ2_newBytesLength_0f7a4 15 = .ok (.if_icmp .lt 40, 3) := by decide +kernel
theorem dJ2_newBytesLength_0f7a4_18 : decode cJ2_newBytesLength_0f7a4 18 = .ok (.new 21, 3) := by decide +kernel
theorem dJ2_newBytesLength_0f7a4_21 : decode cJ2_newBytesLength_0f7a4 21 = .ok (.dup, 1) := by decide +kernel
theorem dJ2_newBytesLength_0f7a4_22 : decode cJ2_newBytesLength_0f7a4 22 = .ok (.new 23, 3) := by decide +kernel
theorem dJ2_newBytesLength_0f7a4_25 : decode cJ2_newBytesLength_0f7a4 25 = .ok (.dup, 1) := by decide +kernel
theorem dJ2_newBytesLength_0f7a4_26 : decode cJ2_newBytesLength_0f7a4 26 = .ok (.invokespecial 25, 3) := by decide +kernel
theorem dJ2_newBytesLength_0f7a4_29 : decode cJ2_newBytesLength_0f7a4 29 = .ok (.ldc 26, 2) := by decide +kernel
theorem dJ2_newBytesLength_0f7a4_31 : decode cJ2_newBytesLength_0f7a4 31 = .ok (.invokevirtual 28, 3) := by decide +kernel
theorem dJ2_newBytesLength_0f7a4_34 : decode cJ2_newBytesLength_0f7a4 34 = .ok (.iload_n 0, 1) := by decide +kernel
theorem dJ2_newBytesLength_0f7a4_35 : decode cJ2_newBytesLength_0f7a4 35 = .ok (.invokevirtual 32, 3) := by decide +kernel
theorem dJ2_newBytesLength_0f7a4_38 : decode cJ2_newBytesLength_0f7a4 38 = .ok (.ldc 35, 2) := by decide +kernel
theorem dJ2_newBytesLength_0f7a4_40 : decode cJ2_newBytesLength_0f7a4 40 = .ok (.invokevirtual 28, 3) := by decide +kernel
theorem dJ2_newBytesLength_0f7a4_43 : decode cJ2_newBytesLength_0f7a4 43 = .ok (.ldc 20, 2) := by decide +kernel
theorem dJ2_newBytesLength_0f7a4_45 : decode cJ2_newBytesLength_0f7a4 45 = .ok (.invokevirtual 32, 3) := by decide +kernel
theorem dJ2_newBytesLength_0f7a4_48 : decode cJ2_newBytesLength_0f7a4 48 = .ok (.invokevirtual 37, 3) := by decide +kernel
theorem dJ2_newBytesLength_0f7a4_51 : decode cJ2_newBytesLength_0f7a4 51 = .ok (.invokespecial 41, 3) := by decide +kernel
theorem dJ2_newBytesLength_0f7a4_54 : decode cJ2_newBytesLength_0f7a4 54 = .ok (.athrow, 1) := by decide +kernel
theorem dJ2_newBytesLength_0f7a4_55 : decode cJ2_newBytesLength_0f7a4 55 = .ok (.iload_n 0, 1) := by decide +kernel
theorem dJ2_newBytesLength_0f7a4_56 : decode cJ2_newBytesLength_0f7a4 56 = .ok (.iconst 1, 1) := by decide +kernel
theorem dJ2_newBytesLength_0f7a4_57 : decode cJ2_newBytesLength_0f7a4 57 = .ok (.ishl, 1) := by decide +kernel
theorem dJ2_newBytesLength_0f7a4_58 : decode cJ2_newBytesLength_0f7a4 58 = .ok (.ireturn, 1) := by decide +kernel
theorem dJ2_putChar_b72d1_0 : decode cJ2_putChar_b72d1 0 = .ok (.getstatic 44, 3) := by decide +kernel
theorem dJ2_putChar_b72d1_3 : decode cJ2_putChar_b72d1 3 = .ok (.ifCond .ne 25, 3) := by decide +kernel
theorem dJ2_putChar_b72d1_6 : decode cJ2_putChar_b72d1 6 = .ok (.iload_n 1, 1) := by decide +kernel
theorem dJ2_putChar_b72d1_7 : decode cJ2_putChar_b72d1 7 = .ok (.ifCond .lt 11, 3) := by decide +kernel
theorem dJ2_putChar_b72d1_10 : decode cJ2_putChar_b72d1 10 = .ok (.iload_n 1, 1) := by decide +kernel
theorem dJ2_putChar_b72d1_11 : decode cJ2_putChar_b72d1 11 = .ok (.aload_n 0, 1) := by decide +kernel
theorem dJ2_putChar_b72d1_12 : decode cJ2_putChar_b72d1 12 = .ok (.invokestatic 48, 3) := by decide +kernel
theorem dJ2_putChar_b72d1_15 : decode cJ2_putChar_b72d1 15 = .ok (.if_icmp .lt 13, 3) := by decide +kernel
theorem dJ2_putChar_b72d1_18 : decode cJ2_putChar_b72d1 18 = .ok (.new 52, 3) := by decide +kernel
theorem dJ2_putChar_b72d1_21 : decode cJ2_putChar_b72d1 21 = .ok (.dup, 1) := by decide +kernel
theorem dJ2_putChar_b72d1_22 : decode cJ2_putChar_b72d1 22 = .ok (.ldc 54, 2) := by decide +kernel
theorem dJ2_putChar_b72d1_24 : decode cJ2_putChar_b72d1 24 = .ok (.invokespecial 56, 3) := by decide +kernel
theorem dJ2_putChar_b72d1_27 : decode cJ2_putChar_b72d1 27 = .ok (.athrow, 1) := by decide +kernel
theorem dJ2_putChar_b72d1_28 : decode cJ2_putChar_b72d1 28 = .ok (.iload_n 1, 1) := by decide +kernel
theorem dJ2_putChar_b72d1_29 : decode cJ2_putChar_b72d1 29 = .ok (.iconst 1, 1) := by decide +kernel
theorem dJ2_putChar_b72d1_30 : decode cJ2_putChar_b72d1 30 = .ok (.ishl, 1) := by decide +kernel
theorem dJ2_putChar_b72d1_31 : decode cJ2_putChar_b72d1 31 = .ok (.istore_n 1, 1) := by decide +kernel
theorem dJ2_putChar_b72d1_32 : decode cJ2_putChar_b72d1 32 = .ok (.aload_n 0, 1) := by decide +kernel
theorem dJ2_putChar_b72d1_33 : decode cJ2_putChar_b72d1 33 = .ok (.iload_n 1, 1) := by decide +kernel
theorem dJ2_putChar_b72d1_34 : decode cJ2_putChar_b72d1 34 = .ok (.iinc 1 1, 3) := by decide +kernel
theorem dJ2_putChar_b72d1_37 : decode cJ2_putChar_b72d1 37 = .ok (.iload_n 2, 1) := by decide +kernel
theorem dJ2_putChar_b72d1_38 : decode cJ2_putChar_b72d1 38 = .ok (.getstatic 59, 3) := by decide +kernel
theorem dJ2_putChar_b72d1_41 : decode cJ2_putChar_b72d1 41 = .ok (.ishr, 1) := by decide +kernel
theorem dJ2_putChar_b72d1_42 : decode cJ2_putChar_b72d1 42 = .ok (.i2b, 1) := by decide +kernel
theorem dJ2_putChar_b72d1_43 : decode cJ2_putChar_b72d1 43 = .ok (.bastore, 1) := by decide +kernel
theorem dJ2_putChar_b72d1_44 : decode cJ2_putChar_b72d1 44 = .ok (.aload_n 0, 1) := by decide +kernel
theorem dJ2_putChar_b72d1_45 : decode cJ2_putChar_b72d1 45 = .ok (.iload_n 1, 1) := by decide +kernel
theorem dJ2_putChar_b72d1_46 : decode cJ2_putChar_b72d1 46 = .ok (.iload_n 2, 1) := by decide +kernel
theorem dJ2_putChar_b72d1_47 : decode cJ2_putChar_b72d1 47 = .ok (.getstatic 63, 3) := by decide +kernel
theorem dJ2_putChar_b72d1_50 : decode cJ2_putChar_b72d1 50 = .ok (.ishr, 1) := by decide +kernel
theorem dJ2_putChar_b72d1_51 : decode cJ2_putChar_b72d1 51 = .ok (.i2b, 1) := by decide +kernel
theorem dJ2_putChar_b72d1_52 : decode cJ2_putChar_b72d1 52 = .ok (.bastore, 1) := by decide +kernel
theorem dJ2_putChar_b72d1_53 : decode cJ2_putChar_b72d1 53 = .ok (.return_, 1) := by decide +kernel
theorem dJ2_getChar_3b067_0 : decode cJ2_getChar_3b067 0 = .ok (.getstatic 44, 3) := by decide +kernel
theorem dJ2_getChar_3b067_3 : decode cJ2_getChar_3b067 3 = .ok (.ifCond .ne 25, 3) := by decide +kernel
theorem dJ2_getChar_3b067_6 : decode cJ2_getChar_3b067 6 = .ok (.iload_n 1, 1) := by decide +kernel
theorem dJ2_getChar_3b067_7 : decode cJ2_getChar_3b067 7 = .ok (.ifCond .lt 11, 3) := by decide +kernel
theorem dJ2_getChar_3b067_10 : decode cJ2_getChar_3b067 10 = .ok (.iload_n 1, 1) := by decide +kernel
theorem dJ2_getChar_3b067_11 : decode cJ2_getChar_3b067 11 = .ok (.aload_n 0, 1) := by decide +kernel
theorem dJ2_getChar_3b067_12 : decode cJ2_getChar_3b067 12 = .ok (.invokestatic 48, 3) := by decide +kernel
theorem dJ2_getChar_3b067_15 : decode cJ2_getChar_3b067 15 = .ok (.if_icmp .lt 13, 3) := by decide +kernel
theorem dJ2_getChar_3b067_18 : decode cJ2_getChar_3b067 18 = .ok (.new 52, 3) := by decide +kernel
theorem dJ2_getChar_3b067_21 : decode cJ2_getChar_3b067 21 = .ok (.dup, 1) := by decide +kernel
theorem dJ2_getChar_3b067_22 : decode cJ2_getChar_3b067 22 = .ok (.ldc 54, 2) := by decide +kernel
theorem dJ2_getChar_3b067_24 : decode cJ2_getChar_3b067 24 = .ok (.invokespecial 56, 3) := by decide +kernel
theorem dJ2_getChar_3b067_27 : decode cJ2_getChar_3b067 27 = .ok (.athrow, 1) := by decide +kernel
theorem dJ2_getChar_3b067_28 : decode cJ2_getChar_3b067 28 = .ok (.iload_n 1, 1) := by decide +kernel
theorem dJ2_getChar_3b067_29 : decode cJ2_getChar_3b067 29 = .ok (.iconst 1, 1) := by decide +kernel
theorem dJ2_getChar_3b067_30 : decode cJ2_getChar_3b067 30 = .ok (.ishl, 1) := by decide +kernel
theorem dJ2_getChar_3b067_31 : decode cJ2_getChar_3b067 31 = .ok (.istore_n 1, 1) := by decide +kernel
theorem dJ2_getChar_3b067_32 : decode cJ2_getChar_3b067 32 = .ok (.aload_n 0, 1) := by decide +kernel
theorem dJ2_getChar_3b067_33 : decode cJ2_getChar_3b067 33 = .ok (.iload_n 1, 1) := by decide +kernel
theorem dJ2_getChar_3b067_34 : decode cJ2_getChar_3b067 34 = .ok (.iinc 1 1, 3) := by decide +kernel
theorem dJ2_getChar_3b067_37 : decode cJ2_getChar_3b067 37 = .ok (.baload, 1) := by decide +kernel
theorem dJ2_getChar_3b067_38 : decode cJ2_getChar_3b067 38 = .ok (.sipush 255, 3) := by decide +kernel
theorem dJ2_getChar_3b067_41 : decode cJ2_getChar_3b067 41 = .ok (.iand, 1) := by decide +kernel
theorem dJ2_getChar_3b067_42 : decode cJ2_getChar_3b067 42 = .ok (.getstatic 59, 3) := by decide +kernel
theorem dJ2_getChar_3b067_45 : decode cJ2_getChar_3b067 45 = .ok (.ishl, 1) := by decide +kernel
theorem dJ2_getChar_3b067_46 : decode cJ2_getChar_3b067 46 = .ok (.aload_n 0, 1) := by decide +kernel
theorem dJ2_getChar_3b067_47 : decode cJ2_getChar_3b067 47 = .ok (.iload_n 1, 1) := by decide +kernel
theorem dJ2_getChar_3b067_48 : decode cJ2_getChar_3b067 48 = .ok (.baload, 1) := by decide +kernel
theorem dJ2_getChar_3b067_49 : decode cJ2_getChar_3b067 49 = .ok (.sipush 255, 3) := by decide +kernel
theorem dJ2_getChar_3b067_52 : decode cJ2_getChar_3b067 52 = .ok (.iand, 1) := by decide +kernel
theorem dJ2_getChar_3b067_53 : decode cJ2_getChar_3b067 53 = .ok (.getstatic 63, 3) := by decide +kernel
theorem dJ2_getChar_3b067_56 : decode cJ2_getChar_3b067 56 = .ok (.ishl, 1) := by decide +kernel
theorem dJ2_getChar_3b067_57 : decode cJ2_getChar_3b067 57 = .ok (.ior, 1) := by decide +kernel
theorem dJ2_getChar_3b067_58 : decode cJ2_getChar_3b067 58 = .ok (.i2c, 1) := by decide +kernel
theorem dJ2_getChar_3b067_59 : decode cJ2_getChar_3b067 59 = .ok (.ireturn, 1) := by decide +kernel
theorem dJ2_length_9d52b_0 : decode cJ2_length_9d52b 0 = .ok (.aload_n 0, 1) := by decide +kernel
theorem dJ2_length_9d52b_1 : decode cJ2_length_9d52b 1 = .ok (.arraylength, 1) := by decide +kernel
theorem dJ2_length_9d52b_2 : decode cJ2_length_9d52b 2 = .ok (.iconst 1, 1) := by decide +kernel
theorem dJ2_length_9d52b_3 : decode cJ2_length_9d52b 3 = .ok (.ishr, 1) := by decide +kernel
theorem dJ2_length_9d52b_4 : decode cJ2_length_9d52b 4 = .ok (.ireturn, 1) := by decide +kernel
theorem dJ2_coderFromArrayLen_85cad_0 : decode cJ2_coderFromArrayLen_85cad 0 = .ok (.iload_n 1, 1) := by decide +kernel
theorem dJ2_coderFromArrayLen_85cad_1 : decode cJ2_coderFromArrayLen_85cad 1 = .ok (.aload_n 0, 1) := by decide +kernel
theorem dJ2_coderFromArrayLen_85cad_2 : decode cJ2_coderFromArrayLen_85cad 2 = .ok (.arraylength, 1) := by decide +kernel
theorem dJ2_coderFromArrayLen_85cad_3 : decode cJ2_coderFromArrayLen_85cad 3 = .ok (.isub, 1) := by decide +kernel
theorem dJ2_coderFromArrayLen_85cad_4 : decode cJ2_coderFromArrayLen_85cad 4 = .ok (.bipush 31, 2) := by decide +kernel
theorem dJ2_coderFromArrayLen_85cad_6 : decode cJ2_coderFromArrayLen_85cad 6 = .ok (.iushr, 1) := by decide +kernel
theorem dJ2_coderFromArrayLen_85cad_7 : decode cJ2_coderFromArrayLen_85cad 7 = .ok (.i2b, 1) := by decide +kernel
theorem dJ2_coderFromArrayLen_85cad_8 : decode cJ2_coderFromArrayLen_85cad 8 = .ok (.ireturn, 1) := by decide +kernel
theorem dJ2_compress_39247_0 : decode cJ2_compress_39247 0 = .ok (.iload_n 2, 1) := by decide +kernel
theorem dJ2_compress_39247_1 : decode cJ2_compress_39247 1 = .ok (.newarray .byte, 2) := by decide +kernel
theorem dJ2_compress_39247_3 : decode cJ2_compress_39247 3 = .ok (.astore_n 3, 1) := by decide +kernel
theorem dJ2_compress_39247_4 : decode cJ2_compress_39247 4 = .ok (.aload_n 0, 1) := by decide +kernel
theorem dJ2_compress_39247_5 : decode cJ2_compress_39247 5 = .ok (.iload_n 1, 1) := by decide +kernel
theorem dJ2_compress_39247_6 : decode cJ2_compress_39247 6 = .ok (.aload_n 3, 1) := by decide +kernel
theorem dJ2_compress_39247_7 : decode cJ2_compress_39247 7 = .ok (.iconst 0, 1) := by decide +kernel
theorem dJ2_compress_39247_8 : decode cJ2_compress_39247 8 = .ok (.iload_n 2, 1) := by decide +kernel
theorem dJ2_compress_39247_9 : decode cJ2_compress_39247 9 = .ok (.invokestatic 123, 3) := by decide +kernel
theorem dJ2_compress_39247_12 : decode cJ2_compress_39247 12 = .ok (.istore 4, 2) := by decide +kernel
theorem dJ2_compress_39247_14 : decode cJ2_compress_39247 14 = .ok (.iload 4, 2) := by decide +kernel
theorem dJ2_compress_39247_16 : decode cJ2_compress_39247 16 = .ok (.iload_n 2, 1) := by decide +kernel
theorem dJ2_compress_39247_17 : decode cJ2_compress_39247 17 = .ok (.if_icmp .eq 47, 3) := by decide +kernel
theorem dJ2_compress_39247_20 : decode cJ2_compress_39247 20 = .ok (.aload_n 0, 1) := by decide +kernel
theorem dJ2_compress_39247_21 : decode cJ2_compress_39247 21 = .ok (.iload_n 1, 1) := by decide +kernel
theorem dJ2_compress_39247_22 : decode cJ2_compress_39247 22 = .ok (.iconst 1, 1) := by decide +kernel
theorem dJ2_compress_39247_23 : decode cJ2_compress_39247 23 = .ok (.ishl, 1) := by decide +kernel
theorem dJ2_compress_39247_24 : decode cJ2_compress_39247 24 = .ok (.iload_n 1, 1) := by decide +kernel
theorem dJ2_compress_39247_25 : decode cJ2_compress_39247 25 = .ok (.iload_n 2, 1) := by decide +kernel
theorem dJ2_compress_39247_26 : decode cJ2_compress_39247 26 = .ok (.iadd, 1) := by decide +kernel
theorem dJ2_compress_39247_27 : decode cJ2_compress_39247 27 = .ok (.invokestatic 11, 3) := by decide +kernel
theorem dJ2_compress_39247_30 : decode cJ2_compress_39247 30 = .ok (.invokestatic 126, 3) := by decide +kernel
theorem dJ2_compress_39247_33 : decode cJ2_compress_39247 33 = .ok (.astore 5, 2) := by decide +kernel
theorem dJ2_compress_39247_35 : decode cJ2_compress_39247 35 = .ok (.aload 5, 2) := by decide +kernel
theorem dJ2_compress_39247_37 : decode cJ2_compress_39247 37 = .ok (.iload 4, 2) := by decide +kernel
theorem dJ2_compress_39247_39 : decode cJ2_compress_39247 39 = .ok (.invokestatic 71, 3) := by decide +kernel
theorem dJ2_compress_39247_42 : decode cJ2_compress_39247 42 = .ok (.sipush 255, 3) := by decide +kernel
theorem dJ2_compress_39247_45 : decode cJ2_compress_39247 45 = .ok (.if_icmp .gt 16, 3) := by decide +kernel
theorem dJ2_compress_39247_48 : decode cJ2_compress_39247 48 = .ok (.aload 5, 2) := by decide +kernel
theorem dJ2_compress_39247_50 : decode cJ2_compress_39247 50 = .ok (.iconst 0, 1) := by decide +kernel
theorem dJ2_compress_39247_51 : decode cJ2_compress_39247 51 = .ok (.aload_n 3, 1) := by decide +kernel
theorem dJ2_compress_39247_52 : decode cJ2_compress_39247 52 = .ok (.iconst 0, 1) := by decide +kernel
theorem dJ2_compress_39247_53 : decode cJ2_compress_39247 53 = .ok (.iload_n 2, 1) := by decide +kernel
theorem dJ2_compress_39247_54 : decode cJ2_compress_39247 54 = .ok (.invokestatic 123, 3) := by decide +kernel
theorem dJ2_compress_39247_57 : decode cJ2_compress_39247 57 = .ok (.iload_n 2, 1) := by decide +kernel
theorem dJ2_compress_39247_58 : decode cJ2_compress_39247 58 = .ok (.if_icmp .eq 6, 3) := by decide +kernel
theorem dJ2_compress_39247_61 : decode cJ2_compress_39247 61 = .ok (.aload 5, 2) := by decide +kernel
theorem dJ2_compress_39247_63 : decode cJ2_compress_39247 63 = .ok (.areturn, 1) := by decide +kernel
theorem dJ2_compress_39247_64 : decode cJ2_compress_39247 64 = .ok (.aload_n 3, 1) := by decide +kernel
theorem dJ2_compress_39247_65 : decode cJ2_compress_39247 65 = .ok (.areturn, 1) := by decide +kernel
theorem dJ2_compress_5af95_0 : decode cJ2_compress_5af95 0 = .ok (.iload_n 1, 1) := by decide +kernel
theorem dJ2_compress_5af95_1 : decode cJ2_compress_5af95 1 = .ok (.iload 4, 2) := by decide +kernel
theorem dJ2_compress_5af95_3 : decode cJ2_compress_5af95 3 = .ok (.aload_n 0, 1) := by decide +kernel
theorem dJ2_compress_5af95_4 : decode cJ2_compress_5af95 4 = .ok (.invokestatic 173, 3) := by decide +kernel
theorem dJ2_compress_5af95_7 : decode cJ2_compress_5af95 7 = .ok (.iconst 0, 1) := by decide +kernel
theorem dJ2_compress_5af95_8 : decode cJ2_compress_5af95 8 = .ok (.istore 5, 2) := by decide +kernel
theorem dJ2_compress_5af95_10 : decode cJ2_compress_5af95 10 = .ok (.iload 5, 2) := by decide +kernel
theorem dJ2_compress_5af95_12 : decode cJ2_compress_5af95 12 = .ok (.iload 4, 2) := by decide +kernel
theorem dJ2_compress_5af95_14 : decode cJ2_compress_5af95 14 = .ok (.if_icmp .ge 39, 3) := by decide +kernel
theorem dJ2_compress_5af95_17 : decode cJ2_compress_5af95 17 = .ok (.aload_n 0, 1) := by decide +kernel
theorem dJ2_compress_5af95_18 : decode cJ2_compress_5af95 18 = .ok (.iload_n 1, 1) := by decide +kernel
theorem dJ2_compress_5af95_19 : decode cJ2_compress_5af95 19 = .ok (.invokestatic 71, 3) := by decide +kernel
theorem dJ2_compress_5af95_22 : decode cJ2_compress_5af95 22 = .ok (.istore 6, 2) := by decide +kernel
theorem dJ2_compress_5af95_24 : decode cJ2_compress_5af95 24 = .ok (.iload 6, 2) := by decide +kernel
theorem dJ2_compress_5af95_26 : decode cJ2_compress_5af95 26 = .ok (.sipush 255, 3) := by decide +kernel
theorem dJ2_compress_5af95_29 : decode cJ2_compress_5af95 29 = .ok (.if_icmp .le 6, 3) := by decide +kernel
theorem dJ2_compress_5af95_32 : decode cJ2_compress_5af95 32 = .ok (.iload 5, 2) := by decide +kernel
theorem dJ2_compress_5af95_34 : decode cJ2_compress_5af95 34 = .ok (.ireturn, 1) := by decide +kernel
theorem dJ2_compress_5af95_35 : decode cJ2_compress_5af95 35 = .ok (.aload_n 2, 1) := by decide +kernel
theorem dJ2_compress_5af95_36 : decode cJ2_compress_5af95 36 = .ok (.iload_n 3, 1) := by decide +kernel
theorem dJ2_compress_5af95_37 : decode cJ2_compress_5af95 37 = .ok (.iload 6, 2) := by decide +kernel
theorem dJ2_compress_5af95_39 : decode cJ2_compress_5af95 39 = .ok (.i2b, 1) := by decide +kernel
theorem dJ2_compress_5af95_40 : decode cJ2_compress_5af95 40 = .ok (.bastore, 1) := by decide +kernel
theorem dJ2_compress_5af95_41 : decode cJ2_compress_5af95 41 = .ok (.iinc 1 1, 3) := by decide +kernel
theorem dJ2_compress_5af95_44 : decode cJ2_compress_5af95 44 = .ok (.iinc 3 1, 3) := by decide +kernel
theorem dJ2_compress_5af95_47 : decode cJ2_compress_5af95 47 = .ok (.iinc 5 1, 3) := by decide +kernel
theorem dJ2_compress_5af95_50 : decode cJ2_compress_5af95 50 = .ok (.goto (-40), 3) := by decide +kernel
theorem dJ2_compress_5af95_53 : decode cJ2_compress_5af95 53 = .ok (.iload 4, 2) := by decide +kernel
theorem dJ2_compress_5af95_55 : decode cJ2_compress_5af95 55 = .ok (.ireturn, 1) := by decide +kernel
theorem dJ2_fillNull_b72d1_0 : decode cJ2_fillNull_b72d1 0 = .ok (.aload_n 0, 1) := by decide +kernel
theorem dJ2_fillNull_b72d1_1 : decode cJ2_fillNull_b72d1 1 = .ok (.iload_n 1, 1) := by decide +kernel
theorem dJ2_fillNull_b72d1_2 : decode cJ2_fillNull_b72d1 2 = .ok (.iconst 1, 1) := by decide +kernel
theorem dJ2_fillNull_b72d1_3 : decode cJ2_fillNull_b72d1 3 = .ok (.ishl, 1) := by decide +kernel
theorem dJ2_fillNull_b72d1_4 : decode cJ2_fillNull_b72d1 4 = .ok (.iload_n 2, 1) := by decide +kernel
theorem dJ2_fillNull_b72d1_5 : decode cJ2_fillNull_b72d1 5 = .ok (.iconst 1, 1) := by decide +kernel
theorem dJ2_fillNull_b72d1_6 : decode cJ2_fillNull_b72d1 6 = .ok (.ishl, 1) := by decide +kernel
theorem dJ2_fillNull_b72d1_7 : decode cJ2_fillNull_b72d1 7 = .ok (.iconst 0, 1) := by decide +kernel
theorem dJ2_fillNull_b72d1_8 : decode cJ2_fillNull_b72d1 8 = .ok (.invokestatic 380, 3) := by decide +kernel
theorem dJ2_fillNull_b72d1_11 : decode cJ2_fillNull_b72d1 11 = .ok (.return_, 1) := by decide +kernel
theorem dJ2_putCharSB_b72d1_0 : decode cJ2_putCharSB_b72d1 0 = .ok (.iload_n 1, 1) := by decide +kernel
theorem dJ2_putCharSB_b72d1_1 : decode cJ2_putCharSB_b72d1 1 = .ok (.aload_n 0, 1) := by decide +kernel
theorem dJ2_putCharSB_b72d1_2 : decode cJ2_putCharSB_b72d1 2 = .ok (.invokestatic 67, 3) := by decide +kernel
theorem dJ2_putCharSB_b72d1_5 : decode cJ2_putCharSB_b72d1 5 = .ok (.aload_n 0, 1) := by decide +kernel
theorem dJ2_putCharSB_b72d1_6 : decode cJ2_putCharSB_b72d1 6 = .ok (.iload_n 1, 1) := by decide +kernel
theorem dJ2_putCharSB_b72d1_7 : decode cJ2_putCharSB_b72d1 7 = .ok (.iload_n 2, 1) := by decide +kernel
theorem dJ2_putCharSB_b72d1_8 : decode cJ2_putCharSB_b72d1 8 = .ok (.invokestatic 111, 3) := by decide +kernel
theorem dJ2_putCharSB_b72d1_11 : decode cJ2_putCharSB_b72d1 11 = .ok (.return_, 1) := by decide +kernel
theorem dJ2_getChars_46870_0 : decode cJ2_getChars_46870 0 = .ok (.iload_n 1, 1) := by decide +kernel
theorem dJ2_getChars_46870_1 : decode cJ2_getChars_46870 1 = .ok (.iload_n 2, 1) := by decide +kernel
theorem dJ2_getChars_46870_2 : decode cJ2_getChars_46870 2 = .ok (.aload_n 3, 1) := by decide +kernel
theorem dJ2_getChars_46870_3 : decode cJ2_getChars_46870 3 = .ok (.invokestatic 96, 3) := by decide +kernel
theorem dJ2_getChars_46870_6 : decode cJ2_getChars_46870 6 = .ok (.iload_n 0, 1) := by decide +kernel
theorem dJ2_getChars_46870_7 : decode cJ2_getChars_46870 7 = .ok (.iload_n 2, 1) := by decide +kernel
theorem dJ2_getChars_46870_8 : decode cJ2_getChars_46870 8 = .ok (.aload_n 3, 1) := by decide +kernel
theorem dJ2_getChars_46870_9 : decode cJ2_getChars_46870 9 = .ok (.invokestatic 393, 3) := by decide +kernel
theorem dJ2_getChars_46870_12 : decode cJ2_getChars_46870 12 = .ok (.istore 4, 2) := by decide +kernel
theorem dJ2_getChars_46870_14 : decode cJ2_getChars_46870 14 = .ok (.getstatic 44, 3) := by decide +kernel
theorem dJ2_getChars_46870_17 : decode cJ2_getChars_46870 17 = .ok (.ifCond .ne 17, 3) := by decide +kernel
theorem dJ2_getChars_46870_20 : decode cJ2_getChars_46870 20 = .ok (.iload_n 1, 1) := by decide +kernel
theorem dJ2_getChars_46870_21 : decode cJ2_getChars_46870 21 = .ok (.iload 4, 2) := by decide +kernel
theorem dJ2_getChars_46870_23 : decode cJ2_getChars_46870 23 = .ok (.if_icmp .eq 11, 3) := by decide +kernel
theorem dJ2_getChars_46870_26 : decode cJ2_getChars_46870 26 = .ok (.new 52, 3) := by decide +kernel
theorem dJ2_getChars_46870_29 : decode cJ2_getChars_46870 29 = .ok (.dup, 1) := by decide +kernel
theorem dJ2_getChars_46870_30 : decode cJ2_getChars_46870 30 = .ok (.invokespecial 66, 3) := by decide +kernel
theorem dJ2_getChars_46870_33 : decode cJ2_getChars_46870 33 = .ok (.athrow, 1) := by decide +kernel
theorem dJ2_getChars_46870_34 : decode cJ2_getChars_46870 34 = .ok (.iload 4, 2) := by decide +kernel
theorem dJ2_getChars_46870_36 : decode cJ2_getChars_46870 36 = .ok (.ireturn, 1) := by decide +kernel
theorem dJ2_putCharsAt_cd4e5_0 : decode cJ2_putCharsAt_cd4e5 0 = .ok (.iload_n 1, 1) := by decide +kernel
theorem dJ2_putCharsAt_cd4e5_1 : decode cJ2_putCharsAt_cd4e5 1 = .ok (.iconst 4, 1) := by decide +kernel
theorem dJ2_putCharsAt_cd4e5_2 : decode cJ2_putCharsAt_cd4e5 2 = .ok (.iadd, 1) := by decide +kernel
theorem dJ2_putCharsAt_cd4e5_3 : decode cJ2_putCharsAt_cd4e5 3 = .ok (.istore 6, 2) := by decide +kernel
theorem dJ2_putCharsAt_cd4e5_5 : decode cJ2_putCharsAt_cd4e5 5 = .ok (.iload_n 1, 1) := by decide +kernel
theorem dJ2_putCharsAt_cd4e5_6 : decode cJ2_putCharsAt_cd4e5 6 = .ok (.iload 6, 2) := by decide +kernel
theorem dJ2_putCharsAt_cd4e5_8 : decode cJ2_putCharsAt_cd4e5 8 = .ok (.aload_n 0, 1) := by decide +kernel
theorem dJ2_putCharsAt_cd4e5_9 : decode cJ2_putCharsAt_cd4e5 9 = .ok (.invokestatic 96, 3) := by decide +kernel
theorem dJ2_putCharsAt_cd4e5_12 : decode cJ2_putCharsAt_cd4e5 12 = .ok (.aload_n 0, 1) := by decide +kernel
theorem dJ2_putCharsAt_cd4e5_13 : decode cJ2_putCharsAt_cd4e5 13 = .ok (.iload_n 1, 1) := by decide +kernel
theorem dJ2_putCharsAt_cd4e5_14 : decode cJ2_putCharsAt_cd4e5 14 = .ok (.iinc 1 1, 3) := by decide +kernel
theorem dJ2_putCharsAt_cd4e5_17 : decode cJ2_putCharsAt_cd4e5 17 = .ok (.iload_n 2, 1) := by decide +kernel
theorem dJ2_putCharsAt_cd4e5_18 : decode cJ2_putCharsAt_cd4e5 18 = .ok (.invokestatic 111, 3) := by decide +kernel
theorem dJ2_putCharsAt_cd4e5_21 : decode cJ2_putCharsAt_cd4e5 21 = .ok (.aload_n 0, 1) := by decide +kernel
theorem dJ2_putCharsAt_cd4e5_22 : decode cJ2_putCharsAt_cd4e5 22 = .ok (.iload_n 1, 1) := by decide +kernel
theorem dJ2_putCharsAt_cd4e5_23 : decode cJ2_putCharsAt_cd4e5 23 = .ok (.iinc 1 1, 3) := by decide +kernel
theorem dJ2_putCharsAt_cd4e5_26 : decode cJ2_putCharsAt_cd4e5 26 = .ok (.iload_n 3, 1) := by decide +kernel
theorem dJ2_putCharsAt_cd4e5_27 : decode cJ2_putCharsAt_cd4e5 27 = .ok (.invokestatic 111, 3) := by decide +kernel
theorem dJ2_putCharsAt_cd4e5_30 : decode cJ2_putCharsAt_cd4e5 30 = .ok (.aload_n 0, 1) := by decide +kernel
theorem dJ2_putCharsAt_cd4e5_31 : decode cJ2_putCharsAt_cd4e5 31 = .ok (.iload_n 1, 1) := by decide +kernel
theorem dJ2_putCharsAt_cd4e5_32 : decode cJ2_putCharsAt_cd4e5 32 = .ok (.iinc 1 1, 3) := by decide +kernel
theorem dJ2_putCharsAt_cd4e5_35 : decode cJ2_putCharsAt_cd4e5 35 = .ok (.iload 4, 2) := by decide +kernel
theorem dJ2_putCharsAt_cd4e5_37 : decode cJ2_putCharsAt_cd4e5 37 = .ok (.invokestatic 111, 3) := by decide +kernel
theorem dJ2_putCharsAt_cd4e5_40 : decode cJ2_putCharsAt_cd4e5 40 = .ok (.aload_n 0, 1) := by decide +kernel
theorem dJ2_putCharsAt_cd4e5_41 : decode cJ2_putCharsAt_cd4e5 41 = .ok (.iload_n 1, 1) := by decide +kernel
theorem dJ2_putCharsAt_cd4e5_42 : decode cJ2_putCharsAt_cd4e5 42 = .ok (.iinc 1 1, 3) := by decide +kernel
theorem dJ2_putCharsAt_cd4e5_45 : decode cJ2_putCharsAt_cd4e5 45 = .ok (.iload 5, 2) := by decide +kernel
theorem dJ2_putCharsAt_cd4e5_47 : decode cJ2_putCharsAt_cd4e5 47 = .ok (.invokestatic 111, 3) := by decide +kernel
theorem dJ2_putCharsAt_cd4e5_50 : decode cJ2_putCharsAt_cd4e5 50 = .ok (.getstatic 44, 3) := by decide +kernel
theorem dJ2_putCharsAt_cd4e5_53 : decode cJ2_putCharsAt_cd4e5 53 = .ok (.ifCond .ne 17, 3) := by decide +kernel
theorem dJ2_putCharsAt_cd4e5_56 : decode cJ2_putCharsAt_cd4e5 56 = .ok (.iload_n 1, 1) := by decide +kernel
theorem dJ2_putCharsAt_cd4e5_57 : decode cJ2_putCharsAt_cd4e5 57 = .ok (.iload 6, 2) := by decide +kernel
theorem dJ2_putCharsAt_cd4e5_59 : decode cJ2_putCharsAt_cd4e5 59 = .ok (.if_icmp .eq 11, 3) := by decide +kernel
theorem dJ2_putCharsAt_cd4e5_62 : decode cJ2_putCharsAt_cd4e5 62 = .ok (.new 52, 3) := by decide +kernel
theorem dJ2_putCharsAt_cd4e5_65 : decode cJ2_putCharsAt_cd4e5 65 = .ok (.dup, 1) := by decide +kernel
theorem dJ2_putCharsAt_cd4e5_66 : decode cJ2_putCharsAt_cd4e5 66 = .ok (.invokespecial 66, 3) := by decide +kernel
theorem dJ2_putCharsAt_cd4e5_69 : decode cJ2_putCharsAt_cd4e5 69 = .ok (.athrow, 1) := by decide +kernel
theorem dJ2_putCharsAt_cd4e5_70 : decode cJ2_putCharsAt_cd4e5 70 = .ok (.iload 6, 2) := by decide +kernel
theorem dJ2_putCharsAt_cd4e5_72 : decode cJ2_putCharsAt_cd4e5 72 = .ok (.ireturn, 1) := by decide +kernel
theorem dJ2_charAt_3b067_0 : decode cJ2_charAt_3b067 0 = .ok (.iload_n 1, 1) := by decide +kernel
theorem dJ2_charAt_3b067_1 : decode cJ2_charAt_3b067 1 = .ok (.aload_n 0, 1) := by decide +kernel
theorem dJ2_charAt_3b067_2 : decode cJ2_charAt_3b067 2 = .ok (.invokestatic 67, 3) := by decide +kernel
theorem dJ2_charAt_3b067_5 : decode cJ2_charAt_3b067 5 = .ok (.aload_n 0, 1) := by decide +kernel
theorem dJ2_charAt_3b067_6 : decode cJ2_charAt_3b067 6 = .ok (.iload_n 1, 1) := by decide +kernel
theorem dJ2_charAt_3b067_7 : decode cJ2_charAt_3b067 7 = .ok (.invokestatic 71, 3) := by decide +kernel
theorem dJ2_charAt_3b067_10 : decode cJ2_charAt_3b067 10 = .ok (.ireturn, 1) := by decide +kernel
theorem dJ2_inflate_0e8fd_0 : decode cJ2_inflate_0e8fd 0 = .ok (.iload_n 3, 1) := by decide +kernel
theorem dJ2_inflate_0e8fd_1 : decode cJ2_inflate_0e8fd 1 = .ok (.iload 4, 2) := by decide +kernel
theorem dJ2_inflate_0e8fd_3 : decode cJ2_inflate_0e8fd 3 = .ok (.aload_n 2, 1) := by decide +kernel
theorem dJ2_inflate_0e8fd_4 : decode cJ2_inflate_0e8fd 4 = .ok (.invokestatic 173, 3) := by decide +kernel
theorem dJ2_inflate_0e8fd_7 : decode cJ2_inflate_0e8fd 7 = .ok (.iconst 0, 1) := by decide +kernel
theorem dJ2_inflate_0e8fd_8 : decode cJ2_inflate_0e8fd 8 = .ok (.istore 5, 2) := by decide +kernel
theorem dJ2_inflate_0e8fd_10 : decode cJ2_inflate_0e8fd 10 = .ok (.iload 5, 2) := by decide +kernel
theorem dJ2_inflate_0e8fd_12 : decode cJ2_inflate_0e8fd 12 = .ok (.iload 4, 2) := by decide +kernel
theorem dJ2_inflate_0e8fd_14 : decode cJ2_inflate_0e8fd 14 = .ok (.if_icmp .ge 27, 3) := by decide +kernel
theorem dJ2_inflate_0e8fd_17 : decode cJ2_inflate_0e8fd 17 = .ok (.aload_n 2, 1) := by decide +kernel
theorem dJ2_inflate_0e8fd_18 : decode cJ2_inflate_0e8fd 18 = .ok (.iload_n 3, 1) := by decide +kernel
theorem dJ2_inflate_0e8fd_19 : decode cJ2_inflate_0e8fd 19 = .ok (.iinc 3 1, 3) := by decide +kernel
theorem dJ2_inflate_0e8fd_22 : decode cJ2_inflate_0e8fd 22 = .ok (.aload_n 0, 1) := by decide +kernel
theorem dJ2_inflate_0e8fd_23 : decode cJ2_inflate_0e8fd 23 = .ok (.iload_n 1, 1) := by decide +kernel
theorem dJ2_inflate_0e8fd_24 : decode cJ2_inflate_0e8fd 24 = .ok (.iinc 1 1, 3) := by decide +kernel
theorem dJ2_inflate_0e8fd_27 : decode cJ2_inflate_0e8fd 27 = .ok (.baload, 1) := by decide +kernel
theorem dJ2_inflate_0e8fd_28 : decode cJ2_inflate_0e8fd 28 = .ok (.sipush 255, 3) := by decide +kernel
theorem dJ2_inflate_0e8fd_31 : decode cJ2_inflate_0e8fd 31 = .ok (.iand, 1) := by decide +kernel
theorem dJ2_inflate_0e8fd_32 : decode cJ2_inflate_0e8fd 32 = .ok (.invokestatic 111, 3) := by decide +kernel
theorem dJ2_inflate_0e8fd_35 : decode cJ2_inflate_0e8fd 35 = .ok (.iinc 5 1, 3) := by decide +kernel
theorem dJ2_inflate_0e8fd_38 : decode cJ2_inflate_0e8fd 38 = .ok (.goto (-28), 3) := by decide +kernel
theorem dJ2_inflate_0e8fd_41 : decode cJ2_inflate_0e8fd 41 = .ok (.return_, 1) := by decide +kernel
theorem dJ2_getChars_ba4f3_0 : decode cJ2_getChars_ba4f3 0 = .ok (.iload_n 1, 1) := by decide +kernel
theorem dJ2_getChars_ba4f3_1 : decode cJ2_getChars_ba4f3 1 = .ok (.istore 5, 2) := by decide +kernel
theorem dJ2_getChars_ba4f3_3 : decode cJ2_getChars_ba4f3 3 = .ok (.iload_n 0, 1) := by decide +kernel
theorem dJ2_getChars_ba4f3_4 : decode cJ2_getChars_ba4f3 4 = .ok (.ifCond .ge 7, 3) := by decide +kernel
theorem dJ2_getChars_ba4f3_7 : decode cJ2_getChars_ba4f3 7 = .ok (.iconst 1, 1) := by decide +kernel
theorem dJ2_getChars_ba4f3_8 : decode cJ2_getChars_ba4f3 8 = .ok (.goto 4, 3) := by decide +kernel
theorem dJ2_getChars_ba4f3_11 : decode cJ2_getChars_ba4f3 11 = .ok (.iconst 0, 1) := by decide +kernel
theorem dJ2_getChars_ba4f3_12 : decode cJ2_getChars_ba4f3 12 = .ok (.istore 6, 2) := by decide +kernel
theorem dJ2_getChars_ba4f3_14 : decode cJ2_getChars_ba4f3 14 = .ok (.iload 6, 2) := by decide +kernel
theorem dJ2_getChars_ba4f3_16 : decode cJ2_getChars_ba4f3 16 = .ok (.ifCond .ne 6, 3) := by decide +kernel
theorem dJ2_getChars_ba4f3_19 : decode cJ2_getChars_ba4f3 19 = .ok (.iload_n 0, 1) := by decide +kernel
theorem dJ2_getChars_ba4f3_20 : decode cJ2_getChars_ba4f3 20 = .ok (.ineg, 1) := by decide +kernel
theorem dJ2_getChars_ba4f3_21 : decode cJ2_getChars_ba4f3 21 = .ok (.istore_n 0, 1) := by decide +kernel
theorem dJ2_getChars_ba4f3_22 : decode cJ2_getChars_ba4f3 22 = .ok (.iload_n 0, 1) := by decide +kernel
theorem dJ2_getChars_ba4f3_23 : decode cJ2_getChars_ba4f3 23 = .ok (.bipush (-100), 2) := by decide +kernel
theorem dJ2_getChars_ba4f3_25 : decode cJ2_getChars_ba4f3 25 = .ok (.if_icmp .gt 51, 3) := by decide +kernel
theorem dJ2_getChars_ba4f3_28 : decode cJ2_getChars_ba4f3 28 = .ok (.iload_n 0, 1) := by decide +kernel
theorem dJ2_getChars_ba4f3_29 : decode cJ2_getChars_ba4f3 29 = .ok (.bipush 100, 2) := by decide +kernel
theorem dJ2_getChars_ba4f3_31 : decode cJ2_getChars_ba4f3 31 = .ok (.idiv, 1) := by decide +kernel
theorem dJ2_getChars_ba4f3_32 : decode cJ2_getChars_ba4f3 32 = .ok (.istore_n 3, 1) := by decide +kernel
theorem dJ2_getChars_ba4f3_33 : decode cJ2_getChars_ba4f3 33 = .ok (.iload_n 3, 1) := by decide +kernel
theorem dJ2_getChars_ba4f3_34 : decode cJ2_getChars_ba4f3 34 = .ok (.bipush 100, 2) := by decide +kernel
theorem dJ2_getChars_ba4f3_36 : decode cJ2_getChars_ba4f3 36 = .ok (.imul, 1) := by decide +kernel
theorem dJ2_getChars_ba4f3_37 : decode cJ2_getChars_ba4f3 37 = .ok (.iload_n 0, 1) := by decide +kernel
theorem dJ2_getChars_ba4f3_38 : decode cJ2_getChars_ba4f3 38 = .ok (.isub, 1) := by decide +kernel
theorem dJ2_getChars_ba4f3_39 : decode cJ2_getChars_ba4f3 39 = .ok (.istore 4, 2) := by decide +kernel
theorem dJ2_getChars_ba4f3_41 : decode cJ2_getChars_ba4f3 41 = .ok (.iload_n 3, 1) := by decide +kernel
theorem dJ2_getChars_ba4f3_42 : decode cJ2_getChars_ba4f3 42 = .ok (.istore_n 0, 1) := by decide +kernel
theorem dJ2_getChars_ba4f3_43 : decode cJ2_getChars_ba4f3 43 = .ok (.aload_n 2, 1) := by decide +kernel
theorem dJ2_getChars_ba4f3_44 : decode cJ2_getChars_ba4f3 44 = .ok (.iinc 5 (-1), 3) := by decide +kernel
theorem dJ2_getChars_ba4f3_47 : decode cJ2_getChars_ba4f3 47 = .ok (.iload 5, 2) := by decide +kernel
theorem dJ2_getChars_ba4f3_49 : decode cJ2_getChars_ba4f3 49 = .ok (.getstatic 403, 3) := by decide +kernel
theorem dJ2_getChars_ba4f3_52 : decode cJ2_getChars_ba4f3 52 = .ok (.iload 4, 2) := by decide +kernel
theorem dJ2_getChars_ba4f3_54 : decode cJ2_getChars_ba4f3 54 = .ok (.baload, 1) := by decide +kernel
theorem dJ2_getChars_ba4f3_55 : decode cJ2_getChars_ba4f3 55 = .ok (.invokestatic 111, 3) := by decide +kernel
theorem dJ2_getChars_ba4f3_58 : decode cJ2_getChars_ba4f3 58 = .ok (.aload_n 2, 1) := by decide +kernel
theorem dJ2_getChars_ba4f3_59 : decode cJ2_getChars_ba4f3 59 = .ok (.iinc 5 (-1), 3) := by decide +kernel
theorem dJ2_getChars_ba4f3_62 : decode cJ2_getChars_ba4f3 62 = .ok (.iload 5, 2) := by decide +kernel
theorem dJ2_getChars_ba4f3_64 : decode cJ2_getChars_ba4f3 64 = .ok (.getstatic 407, 3) := by decide +kernel
theorem dJ2_getChars_ba4f3_67 : decode cJ2_getChars_ba4f3 67 = .ok (.iload 4, 2) := by decide +kernel
theorem dJ2_getChars_ba4f3_69 : decode cJ2_getChars_ba4f3 69 = .ok (.baload, 1) := by decide +kernel
theorem dJ2_getChars_ba4f3_70 : decode cJ2_getChars_ba4f3 70 = .ok (.invokestatic 111, 3) := by decide +kernel
theorem dJ2_getChars_ba4f3_73 : decode cJ2_getChars_ba4f3 73 = .ok (.goto (-51), 3) := by decide +kernel
theorem dJ2_getChars_ba4f3_76 : decode cJ2_getChars_ba4f3 76 = .ok (.aload_n 2, 1) := by decide +kernel
theorem dJ2_getChars_ba4f3_77 : decode cJ2_getChars_ba4f3 77 = .ok (.iinc 5 (-1), 3) := by decide +kernel
theorem dJ2_getChars_ba4f3_80 : decode cJ2_getChars_ba4f3 80 = .ok (.iload 5, 2) := by decide +kernel
theorem dJ2_getChars_ba4f3_82 : decode cJ2_getChars_ba4f3 82 = .ok (.getstatic 403, 3) := by decide +kernel
theorem dJ2_getChars_ba4f3_85 : decode cJ2_getChars_ba4f3 85 = .ok (.iload_n 0, 1) := by decide +kernel
theorem dJ2_getChars_ba4f3_86 : decode cJ2_getChars_ba4f3 86 = .ok (.ineg, 1) := by decide +kernel
theorem dJ2_getChars_ba4f3_87 : decode cJ2_getChars_ba4f3 87 = .ok (.baload, 1) := by decide +kernel
theorem dJ2_getChars_ba4f3_88 : decode cJ2_getChars_ba4f3 88 = .ok (.invokestatic 111, 3) := by decide +kernel
theorem dJ2_getChars_ba4f3_91 : decode cJ2_getChars_ba4f3 91 = .ok (.iload_n 0, 1) := by decide +kernel
theorem dJ2_getChars_ba4f3_92 : decode cJ2_getChars_ba4f3 92 = .ok (.bipush (-9), 2) := by decide +kernel
theorem dJ2_getChars_ba4f3_94 : decode cJ2_getChars_ba4f3 94 = .ok (.if_icmp .ge 18, 3) := by decide +kernel
theorem dJ2_getChars_ba4f3_97 : decode cJ2_getChars_ba4f3 97 = .ok (.aload_n 2, 1) := by decide +kernel
theorem dJ2_getChars_ba4f3_98 : decode cJ2_getChars_ba4f3 98 = .ok (.iinc 5 (-1), 3) := by decide +kernel
theorem dJ2_getChars_ba4f3_101 : decode cJ2_getChars_ba4f3 101 = .ok (.iload 5, 2) := by decide +kernel
theorem dJ2_getChars_ba4f3_103 : decode cJ2_getChars_ba4f3 103 = .ok (.getstatic 407, 3) := by decide +kernel
theorem dJ2_getChars_ba4f3_106 : decode cJ2_getChars_ba4f3 106 = .ok (.iload_n 0, 1) := by decide +kernel
theorem dJ2_getChars_ba4f3_107 : decode cJ2_getChars_ba4f3 107 = .ok (.ineg, 1) := by decide +kernel
theorem dJ2_getChars_ba4f3_108 : decode cJ2_getChars_ba4f3 108 = .ok (.baload, 1) := by decide +kernel
theorem dJ2_getChars_ba4f3_109 : decode cJ2_getChars_ba4f3 109 = .ok (.invokestatic 111, 3) := by decide +kernel
theorem dJ2_getChars_ba4f3_112 : decode cJ2_getChars_ba4f3 112 = .ok (.iload 6, 2) := by decide +kernel
theorem dJ2_getChars_ba4f3_114 : decode cJ2_getChars_ba4f3 114 = .ok (.ifCond .eq 14, 3) := by decide +kernel
theorem dJ2_getChars_ba4f3_117 : decode cJ2_getChars_ba4f3 117 = .ok (.aload_n 2, 1) := by decide +kernel
theorem dJ2_getChars_ba4f3_118 : decode cJ2_getChars_ba4f3 118 = .ok (.iinc 5 (-1), 3) := by decide +kernel
theorem dJ2_getChars_ba4f3_121 : decode cJ2_getChars_ba4f3 121 = .ok (.iload 5, 2) := by decide +kernel
theorem dJ2_getChars_ba4f3_123 : decode cJ2_getChars_ba4f3 123 = .ok (.bipush 45, 2) := by decide +kernel
theorem dJ2_getChars_ba4f3_125 : decode cJ2_getChars_ba4f3 125 = .ok (.invokestatic 111, 3) := by decide +kernel
theorem dJ2_getChars_ba4f3_128 : decode cJ2_getChars_ba4f3 128 = .ok (.iload 5, 2) := by decide +kernel
theorem dJ2_getChars_ba4f3_130 : decode cJ2_getChars_ba4f3 130 = .ok (.ireturn, 1) := by decide +kernel
theorem dJ2_checkIndex_2214a_0 : decode cJ2_checkIndex_2214a 0 = .ok (.iload_n 0, 1) := by decide +kernel
theorem dJ2_checkIndex_2214a_1 : decode cJ2_checkIndex_2214a 1 = .ok (.aload_n 1, 1) := by decide +kernel
theorem dJ2_checkIndex_2214a_2 : decode cJ2_checkIndex_2214a 2 = .ok (.invokestatic 48, 3) := by decide +kernel
theorem dJ2_checkIndex_2214a_5 : decode cJ2_checkIndex_2214a 5 = .ok (.invokestatic 414, 3) := by decide +kernel
theorem dJ2_checkIndex_2214a_8 : decode cJ2_checkIndex_2214a 8 = .ok (.return_, 1) := by decide +kernel
theorem dJ2_checkBoundsBeginEnd_d044e_0 : decode cJ2_checkBoundsBeginEnd_d044e 0 = .ok (.iload_n 0, 1) := by decide +kernel
theorem dJ2_checkBoundsBeginEnd_d044e_1 : decode cJ2_checkBoundsBeginEnd_d044e 1 = .ok (.iload_n 1, 1) := by decide +kernel
theorem dJ2_checkBoundsBeginEnd_d044e_2 : decode cJ2_checkBoundsBeginEnd_d044e 2 = .ok (.aload_n 2, 1) := by decide +kernel
theorem dJ2_checkBoundsBeginEnd_d044e_3 : decode cJ2_checkBoundsBeginEnd_d044e 3 = .ok (.invokestatic 48, 3) := by decide +kernel
theorem dJ2_checkBoundsBeginEnd_d044e_6 : decode cJ2_checkBoundsBeginEnd_d044e 6 = .ok (.invokestatic 241, 3) := by decide +kernel
theorem dJ2_checkBoundsBeginEnd_d044e_9 : decode cJ2_checkBoundsBeginEnd_d044e 9 = .ok (.return_, 1) := by decide +kernel
theorem dJ2_checkBoundsOffCount_d044e_0 : decode cJ2_checkBoundsOffCount_d044e 0 = .ok (.iload_n 0, 1) := by decide +kernel
theorem dJ2_checkBoundsOffCount_d044e_1 : decode cJ2_checkBoundsOffCount_d044e 1 = .ok (.iload_n 1, 1) := by decide +kernel
theorem dJ2_checkBoundsOffCount_d044e_2 : decode cJ2_checkBoundsOffCount_d044e 2 = .ok (.aload_n 2, 1) := by decide +kernel
theorem dJ2_checkBoundsOffCount_d044e_3 : decode cJ2_checkBoundsOffCount_d044e 3 = .ok (.invokestatic 48, 3) := by decide +kernel
theorem dJ2_checkBoundsOffCount_d044e_6 : decode cJ2_checkBoundsOffCount_d044e 6 = .ok (.invokestatic 419, 3) := by decide +kernel
theorem dJ2_checkBoundsOffCount_d044e_9 : decode cJ2_checkBoundsOffCount_d044e 9 = .ok (.pop, 1) := by decide +kernel
theorem dJ2_checkBoundsOffCount_d044e_10 : decode cJ2_checkBoundsOffCount_d044e 10 = .ok (.return_, 1) := by decide +kernel
theorem dJ7_rangeCheck_23922_0 : decode cJ7_rangeCheck_23922 0 = .ok (.iload_n 1, 1) := by decide +kernel
theorem dJ7_rangeCheck_23922_1 : decode cJ7_rangeCheck_23922 1 = .ok (.iload_n 2, 1) := by decide +kernel
theorem dJ7_rangeCheck_23922_2 : decode cJ7_rangeCheck_23922 2 = .ok (.if_icmp .le 44, 3) := by decide +kernel
theorem dJ7_rangeCheck_23922_5 : decode cJ7_rangeCheck_23922 5 = .ok (.new 43, 3) := by decide +kernel
theorem dJ7_rangeCheck_23922_8 : decode cJ7_rangeCheck_23922 8 = .ok (.dup, 1) := by decide +kernel
theorem dJ7_rangeCheck_23922_9 : decode cJ7_rangeCheck_23922 9 = .ok (.new 45, 3) := by decide +kernel
theorem dJ7_rangeCheck_23922_12 : decode cJ7_rangeCheck_23922 12 = .ok (.dup, 1) := by decide +kernel
theorem dJ7_rangeCheck_23922_13 : decode cJ7_rangeCheck_23922 13 = .ok (.invokespecial 47, 3) := by decide +kernel
theorem dJ7_rangeCheck_23922_16 : decode cJ7_rangeCheck_23922 16 = .ok (.ldc 48, 2) := by decide +kernel
theorem dJ7_rangeCheck_23922_18 : decode cJ7_rangeCheck_23922 18 = .ok (.invokevirtual 50, 3) := by decide +kernel
theorem dJ7_rangeCheck_23922_21 : decode cJ7_rangeCheck_23922 21 = .ok (.iload_n 1, 1) := by decide +kernel
theorem dJ7_rangeCheck_23922_22 : decode cJ7_rangeCheck_23922 22 = .ok (.invokevirtual 54, 3) := by decide +kernel
theorem dJ7_rangeCheck_23922_25 : decode cJ7_rangeCheck_23922 25 = .ok (.ldc 57, 2) := by decide +kernel
theorem dJ7_rangeCheck_23922_27 : decode cJ7_rangeCheck_23922 27 = .ok (.invokevirtual 50, 3) := by decide +kernel
theorem dJ7_rangeCheck_23922_30 : decode cJ7_rangeCheck_23922 30 = .ok (.iload_n 2, 1) := by decide +kernel
theorem dJ7_rangeCheck_23922_31 : decode cJ7_rangeCheck_23922 31 = .ok (.invokevirtual 54, 3) := by decide +kernel
theorem dJ7_rangeCheck_23922_34 : decode cJ7_rangeCheck_23922 34 = .ok (.ldc 59, 2) := by decide +kernel
theorem dJ7_rangeCheck_23922_36 : decode cJ7_rangeCheck_23922 36 = .ok (.invokevirtual 50, 3) := by decide +kernel
theorem dJ7_rangeCheck_23922_39 : decode cJ7_rangeCheck_23922 39 = .ok (.invokevirtual 61, 3) := by decide +kernel
theorem dJ7_rangeCheck_23922_42 : decode cJ7_rangeCheck_23922 42 = .ok (.invokespecial 65, 3) := by decide +kernel
theorem dJ7_rangeCheck_23922_45 : decode cJ7_rangeCheck_23922 45 = .ok (.athrow, 1) := by decide +kernel
theorem dJ7_rangeCheck_23922_46 : decode cJ7_rangeCheck_23922 46 = .ok (.iload_n 1, 1) := by decide +kernel
theorem dJ7_rangeCheck_23922_47 : decode cJ7_rangeCheck_23922 47 = .ok (.ifCond .ge 12, 3) := by decide +kernel
theorem dJ7_rangeCheck_23922_50 : decode cJ7_rangeCheck_23922 50 = .ok (.new 68, 3) := by decide +kernel
theorem dJ7_rangeCheck_23922_53 : decode cJ7_rangeCheck_23922 53 = .ok (.dup, 1) := by decide +kernel
theorem dJ7_rangeCheck_23922_54 : decode cJ7_rangeCheck_23922 54 = .ok (.iload_n 1, 1) := by decide +kernel
theorem dJ7_rangeCheck_23922_55 : decode cJ7_rangeCheck_23922 55 = .ok (.invokespecial 70, 3) := by decide +kernel
theorem dJ7_rangeCheck_23922_58 : decode cJ7_rangeCheck_23922 58 = .ok (.athrow, 1) := by decide +kernel
theorem dJ7_rangeCheck_23922_59 : decode cJ7_rangeCheck_23922 59 = .ok (.iload_n 2, 1) := by decide +kernel
theorem dJ7_rangeCheck_23922_60 : decode cJ7_rangeCheck_23922 60 = .ok (.iload_n 0, 1) := by decide +kernel
theorem dJ7_rangeCheck_23922_61 : decode cJ7_rangeCheck_23922 61 = .ok (.if_icmp .le 12, 3) := by decide +kernel
theorem dJ7_rangeCheck_23922_64 : decode cJ7_rangeCheck_23922 64 = .ok (.new 68, 3) := by decide +kernel
theorem dJ7_rangeCheck_23922_67 : decode cJ7_rangeCheck_23922 67 = .ok (.dup, 1) := by decide +kernel
theorem dJ7_rangeCheck_23922_68 : decode cJ7_rangeCheck_23922 68 = .ok (.iload_n 2, 1) := by decide +kernel
theorem dJ7_rangeCheck_23922_69 : decode cJ7_rangeCheck_23922 69 = .ok (.invokespecial 70, 3) := by decide +kernel
theorem dJ7_rangeCheck_23922_72 : decode cJ7_rangeCheck_23922 72 = .ok (.athrow, 1) := by decide +kernel
theorem dJ7_rangeCheck_23922_73 : decode cJ7_rangeCheck_23922 73 = .ok (.return_, 1) := by decide +kernel
theorem dJ7_fill_53178_0 : decode cJ7_fill_53178 0 = .ok (.iconst 0, 1) := by decide +kernel
theorem dJ7_fill_53178_1 : decode cJ7_fill_53178 1 = .ok (.istore_n 2, 1) := by decide +kernel
theorem dJ7_fill_53178_2 : decode cJ7_fill_53178 2 = .ok (.aload_n 0, 1) := by decide +kernel
theorem dJ7_fill_53178_3 : decode cJ7_fill_53178 3 = .ok (.arraylength, 1) := by decide +kernel
theorem dJ7_fill_53178_4 : decode cJ7_fill_53178 4 = .ok (.istore_n 3, 1) := by decide +kernel
theorem dJ7_fill_53178_5 : decode cJ7_fill_53178 5 = .ok (.iload_n 2, 1) := by decide +kernel
theorem dJ7_fill_53178_6 : decode cJ7_fill_53178 6 = .ok (.iload_n 3, 1) := by decide +kernel
theorem dJ7_fill_53178_7 : decode cJ7_fill_53178 7 = .ok (.if_icmp .ge 13, 3) := by decide +kernel
theorem dJ7_fill_53178_10 : decode cJ7_fill_53178 10 = .ok (.aload_n 0, 1) := by decide +kernel
theorem dJ7_fill_53178_11 : decode cJ7_fill_53178 11 = .ok (.iload_n 2, 1) := by decide +kernel
theorem dJ7_fill_53178_12 : decode cJ7_fill_53178 12 = .ok (.iload_n 1, 1) := by decide +kernel
theorem dJ7_fill_53178_13 : decode cJ7_fill_53178 13 = .ok (.iastore, 1) := by decide +kernel
theorem dJ7_fill_53178_14 : decode cJ7_fill_53178 14 = .ok (.iinc 2 1, 3) := by decide +kernel
theorem dJ7_fill_53178_17 : decode cJ7_fill_53178 17 = .ok (.goto (-12), 3) := by decide +kernel
theorem dJ7_fill_53178_20 : decode cJ7_fill_53178 20 = .ok (.return_, 1) := by decide +kernel
theorem dJ7_fill_eb02e_0 : decode cJ7_fill_eb02e 0 = .ok (.aload_n 0, 1) := by decide +kernel
theorem dJ7_fill_eb02e_1 : decode cJ7_fill_eb02e 1 = .ok (.arraylength, 1) := by decide +kernel
theorem dJ7_fill_eb02e_2 : decode cJ7_fill_eb02e 2 = .ok (.iload_n 1, 1) := by decide +kernel
theorem dJ7_fill_eb02e_3 : decode cJ7_fill_eb02e 3 = .ok (.iload_n 2, 1) := by decide +kernel
theorem dJ7_fill_eb02e_4 : decode cJ7_fill_eb02e 4 = .ok (.invokestatic 13, 3) := by decide +kernel
theorem dJ7_fill_eb02e_7 : decode cJ7_fill_eb02e 7 = .ok (.iload_n 1, 1) := by decide +kernel
theorem dJ7_fill_eb02e_8 : decode cJ7_fill_eb02e 8 = .ok (.istore 4, 2) := by decide +kernel
theorem dJ7_fill_eb02e_10 : decode cJ7_fill_eb02e 10 = .ok (.iload 4, 2) := by decide +kernel
theorem dJ7_fill_eb02e_12 : decode cJ7_fill_eb02e 12 = .ok (.iload_n 2, 1) := by decide +kernel
theorem dJ7_fill_eb02e_13 : decode cJ7_fill_eb02e 13 = .ok (.if_icmp .ge 14, 3) := by decide +kernel
theorem dJ7_fill_eb02e_16 : decode cJ7_fill_eb02e 16 = .ok (.aload_n 0, 1) := by decide +kernel
theorem dJ7_fill_eb02e_17 : decode cJ7_fill_eb02e 17 = .ok (.iload 4, 2) := by decide +kernel
theorem dJ7_fill_eb02e_19 : decode cJ7_fill_eb02e 19 = .ok (.iload_n 3, 1) := by decide +kernel
theorem dJ7_fill_eb02e_20 : decode cJ7_fill_eb02e 20 = .ok (.bastore, 1) := by decide +kernel
theorem dJ7_fill_eb02e_21 : decode cJ7_fill_eb02e 21 = .ok (.iinc 4 1, 3) := by decide +kernel
theorem dJ7_fill_eb02e_24 : decode cJ7_fill_eb02e 24 = .ok (.goto (-14), 3) := by decide +kernel
theorem dJ7_fill_eb02e_27 : decode cJ7_fill_eb02e 27 = .ok (.return_, 1) := by decide +kernel
theorem dJ7_copyOf_9075b_0 : decode cJ7_copyOf_9075b 0 = .ok (.iload_n 1, 1) := by decide +kernel
theorem dJ7_copyOf_9075b_1 : decode cJ7_copyOf_9075b 1 = .ok (.aload_n 0, 1) := by decide +kernel
theorem dJ7_copyOf_9075b_2 : decode cJ7_copyOf_9075b 2 = .ok (.arraylength, 1) := by decide +kernel
theorem dJ7_copyOf_9075b_3 : decode cJ7_copyOf_9075b 3 = .ok (.if_icmp .ne 11, 3) := by decide +kernel
theorem dJ7_copyOf_9075b_6 : decode cJ7_copyOf_9075b 6 = .ok (.aload_n 0, 1) := by decide +kernel
theorem dJ7_copyOf_9075b_7 : decode cJ7_copyOf_9075b 7 = .ok (.invokevirtual 310, 3) := by decide +kernel
theorem dJ7_copyOf_9075b_10 : decode cJ7_copyOf_9075b 10 = .ok (.checkcast 311, 3) := by decide +kernel
theorem dJ7_copyOf_9075b_13 : decode cJ7_copyOf_9075b 13 = .ok (.areturn, 1) := by decide +kernel
theorem dJ7_copyOf_9075b_14 : decode cJ7_copyOf_9075b 14 = .ok (.iload_n 1, 1) := by decide +kernel
theorem dJ7_copyOf_9075b_15 : decode cJ7_copyOf_9075b 15 = .ok (.newarray .byte, 2) := by decide +kernel
theorem dJ7_copyOf_9075b_17 : decode cJ7_copyOf_9075b 17 = .ok (.astore_n 2, 1) := by decide +kernel
theorem dJ7_copyOf_9075b_18 : decode cJ7_copyOf_9075b 18 = .ok (.aload_n 0, 1) := by decide +kernel
theorem dJ7_copyOf_9075b_19 : decode cJ7_copyOf_9075b 19 = .ok (.iconst 0, 1) := by decide +kernel
theorem dJ7_copyOf_9075b_20 : decode cJ7_copyOf_9075b 20 = .ok (.aload_n 2, 1) := by decide +kernel
theorem dJ7_copyOf_9075b_21 : decode cJ7_copyOf_9075b 21 = .ok (.iconst 0, 1) := by decide +kernel
theorem dJ7_copyOf_9075b_22 : decode cJ7_copyOf_9075b 22 = .ok (.aload_n 0, 1) := by decide +kernel
theorem dJ7_copyOf_9075b_23 : decode cJ7_copyOf_9075b 23 = .ok (.arraylength, 1) := by decide +kernel
theorem dJ7_copyOf_9075b_24 : decode cJ7_copyOf_9075b 24 = .ok (.iload_n 1, 1) := by decide +kernel
theorem dJ7_copyOf_9075b_25 : decode cJ7_copyOf_9075b 25 = .ok (.invokestatic 304, 3) := by decide +kernel
theorem dJ7_copyOf_9075b_28 : decode cJ7_copyOf_9075b 28 = .ok (.invokestatic 150, 3) := by decide +kernel
theorem dJ7_copyOf_9075b_31 : decode cJ7_copyOf_9075b 31 = .ok (.aload_n 2, 1) := by decide +kernel
theorem dJ7_copyOf_9075b_32 : decode cJ7_copyOf_9075b 32 = .ok (.areturn, 1) := by decide +kernel
theorem dJ7_checkLength_df160_0 : decode cJ7_checkLength_df160 0 = .ok (.iload_n 1, 1) := by decide +kernel
theorem dJ7_checkLength_df160_1 : decode cJ7_checkLength_df160 1 = .ok (.iload_n 0, 1) := by decide +kernel
theorem dJ7_checkLength_df160_2 : decode cJ7_checkLength_df160 2 = .ok (.if_icmp .ge 35, 3) := by decide +kernel
theorem dJ7_checkLength_df160_5 : decode cJ7_checkLength_df160 5 = .ok (.new 43, 3) := by decide +kernel
theorem dJ7_checkLength_df160_8 : decode cJ7_checkLength_df160 8 = .ok (.dup, 1) := by decide +kernel
theorem dJ7_checkLength_df160_9 : decode cJ7_checkLength_df160 9 = .ok (.new 45, 3) := by decide +kernel
theorem dJ7_checkLength_df160_12 : decode cJ7_checkLength_df160 12 = .ok (.dup, 1) := by decide +kernel
theorem dJ7_checkLength_df160_13 : decode cJ7_checkLength_df160 13 = .ok (.invokespecial 47, 3) := by decide +kernel
theorem dJ7_checkLength_df160_16 : decode cJ7_checkLength_df160 16 = .ok (.iload_n 0, 1) := by decide +kernel
theorem dJ7_checkLength_df160_17 : decode cJ7_checkLength_df160 17 = .ok (.invokevirtual 54, 3) := by decide +kernel
theorem dJ7_checkLength_df160_20 : decode cJ7_checkLength_df160 20 = .ok (.ldc_w 337, 3) := by decide +kernel
theorem dJ7_checkLength_df160_23 : decode cJ7_checkLength_df160 23 = .ok (.invokevirtual 50, 3) := by decide +kernel
theorem dJ7_checkLength_df160_26 : decode cJ7_checkLength_df160 26 = .ok (.iload_n 1, 1) := by decide +kernel
theorem dJ7_checkLength_df160_27 : decode cJ7_checkLength_df160 27 = .ok (.invokevirtual 54, 3) := by decide +kernel
theorem dJ7_checkLength_df160_30 : decode cJ7_checkLength_df160 30 = .ok (.invokevirtual 61, 3) := by decide +kernel
theorem dJ7_checkLength_df160_33 : decode cJ7_checkLength_df160 33 = .ok (.invokespecial 65, 3) := by decide +kernel
theorem dJ7_checkLength_df160_36 : decode cJ7_checkLength_df160 36 = .ok (.athrow, 1) := by decide +kernel
theorem dJ7_checkLength_df160_37 : decode cJ7_checkLength_df160 37 = .ok (.return_, 1) := by decide +kernel
theorem dJ7_copyOfRange_39247_0 : decode cJ7_copyOfRange_39247 0 = .ok (.iload_n 1, 1) := by decide +kernel
theorem dJ7_copyOfRange_39247_1 : decode cJ7_copyOfRange_39247 1 = .ok (.ifCond .ne 9, 3) := by decide +kernel
theorem dJ7_copyOfRange_39247_4 : decode cJ7_copyOfRange_39247 4 = .ok (.iload_n 2, 1) := by decide +kernel
theorem dJ7_copyOfRange_39247_5 : decode cJ7_copyOfRange_39247 5 = .ok (.aload_n 0, 1) := by decide +kernel
theorem dJ7_copyOfRange_39247_6 : decode cJ7_copyOfRange_39247 6 = .ok (.arraylength, 1) := by decide +kernel
theorem dJ7_copyOfRange_39247_7 : decode cJ7_copyOfRange_39247 7 = .ok (.if_icmp .eq 10, 3) := by decide +kernel
theorem dJ7_copyOfRange_39247_10 : decode cJ7_copyOfRange_39247 10 = .ok (.aload_n 0, 1) := by decide +kernel
theorem dJ7_copyOfRange_39247_11 : decode cJ7_copyOfRange_39247 11 = .ok (.iload_n 1, 1) := by decide +kernel
theorem dJ7_copyOfRange_39247_12 : decode cJ7_copyOfRange_39247 12 = .ok (.iload_n 2, 1) := by decide +kernel
theorem dJ7_copyOfRange_39247_13 : decode cJ7_copyOfRange_39247 13 = .ok (.invokestatic 339, 3) := by decide +kernel
theorem dJ7_copyOfRange_39247_16 : decode cJ7_copyOfRange_39247 16 = .ok (.areturn, 1) := by decide +kernel
theorem dJ7_copyOfRange_39247_17 : decode cJ7_copyOfRange_39247 17 = .ok (.aload_n 0, 1) := by decide +kernel
theorem dJ7_copyOfRange_39247_18 : decode cJ7_copyOfRange_39247 18 = .ok (.invokevirtual 310, 3) := by decide +kernel
theorem dJ7_copyOfRange_39247_21 : decode cJ7_copyOfRange_39247 21 = .ok (.checkcast 311, 3) := by decide +kernel
theorem dJ7_copyOfRange_39247_24 : decode cJ7_copyOfRange_39247 24 = .ok (.areturn, 1) := by decide +kernel
theorem dJ7_copyOfRangeByte_39247_0 : decode cJ7_copyOfRangeByte_39247 0 = .ok (.iload_n 1, 1) := by decide +kernel
theorem dJ7_copyOfRangeByte_39247_1 : decode cJ7_copyOfRangeByte_39247 1 = .ok (.iload_n 2, 1) := by decide +kernel
theorem dJ7_copyOfRangeByte_39247_2 : decode cJ7_copyOfRangeByte_39247 2 = .ok (.invokestatic 343, 3) := by decide +kernel
theorem dJ7_copyOfRangeByte_39247_5 : decode cJ7_copyOfRangeByte_39247 5 = .ok (.iload_n 2, 1) := by decide +kernel
theorem dJ7_copyOfRangeByte_39247_6 : decode cJ7_copyOfRangeByte_39247 6 = .ok (.iload_n 1, 1) := by decide +kernel
theorem dJ7_copyOfRangeByte_39247_7 : decode cJ7_copyOfRangeByte_39247 7 = .ok (.isub, 1) := by decide +kernel
theorem dJ7_copyOfRangeByte_39247_8 : decode cJ7_copyOfRangeByte_39247 8 = .ok (.istore_n 3, 1) := by decide +kernel
theorem dJ7_copyOfRangeByte_39247_9 : decode cJ7_copyOfRangeByte_39247 9 = .ok (.iload_n 3, 1) := by decide +kernel
theorem dJ7_copyOfRangeByte_39247_10 : decode cJ7_copyOfRangeByte_39247 10 = .ok (.newarray .byte, 2) := by decide +kernel
theorem dJ7_copyOfRangeByte_39247_12 : decode cJ7_copyOfRangeByte_39247 12 = .ok (.astore 4, 2) := by decide +kernel
theorem dJ7_copyOfRangeByte_39247_14 : decode cJ7_copyOfRangeByte_39247 14 = .ok (.aload_n 0, 1) := by decide +kernel
theorem dJ7_copyOfRangeByte_39247_15 : decode cJ7_copyOfRangeByte_39247 15 = .ok (.iload_n 1, 1) := by decide +kernel
theorem dJ7_copyOfRangeByte_39247_16 : decode cJ7_copyOfRangeByte_39247 16 = .ok (.aload 4, 2) := by decide +kernel
theorem dJ7_copyOfRangeByte_39247_18 : decode cJ7_copyOfRangeByte_39247 18 = .ok (.iconst 0, 1) := by decide +kernel
theorem dJ7_copyOfRangeByte_39247_19 : decode cJ7_copyOfRangeByte_39247 19 = .ok (.aload_n 0, 1) := by decide +kernel
theorem dJ7_copyOfRangeByte_39247_20 : decode cJ7_copyOfRangeByte_39247 20 = .ok (.arraylength, 1) := by decide +kernel
theorem dJ7_copyOfRangeByte_39247_21 : decode cJ7_copyOfRangeByte_39247 21 = .ok (.iload_n 1, 1) := by decide +kernel
theorem dJ7_copyOfRangeByte_39247_22 : decode cJ7_copyOfRangeByte_39247 22 = .ok (.isub, 1) := by decide +kernel
theorem dJ7_copyOfRangeByte_39247_23 : decode cJ7_copyOfRangeByte_39247 23 = .ok (.iload_n 3, 1) := by decide +kernel
theorem dJ7_copyOfRangeByte_39247_24 : decode cJ7_copyOfRangeByte_39247 24 = .ok (.invokestatic 304, 3) := by decide +kernel
theorem dJ7_copyOfRangeByte_39247_27 : decode cJ7_copyOfRangeByte_39247 27 = .ok (.invokestatic 150, 3) := by decide +kernel
theorem dJ7_copyOfRangeByte_39247_30 : decode cJ7_copyOfRangeByte_39247 30 = .ok (.aload 4, 2) := by decide +kernel
theorem dJ7_copyOfRangeByte_39247_32 : decode cJ7_copyOfRangeByte_39247 32 = .ok (.areturn, 1) := by decide +kernel
theorem dJ8_newLength_cabcc_0 : decode cJ8_newLength_cabcc 0 = .ok (.iload_n 0, 1) := by decide +kernel
theorem dJ8_newLength_cabcc_1 : decode cJ8_newLength_cabcc 1 = .ok (.iload_n 1, 1) := by decide +kernel
theorem dJ8_newLength_cabcc_2 : decode cJ8_newLength_cabcc 2 = .ok (.iload_n 2, 1) := by decide +kernel
theorem dJ8_newLength_cabcc_3 : decode cJ8_newLength_cabcc 3 = .ok (.invokestatic 194, 3) := by decide +kernel
theorem dJ8_newLength_cabcc_6 : decode cJ8_newLength_cabcc 6 = .ok (.iadd, 1) := by decide +kernel
theorem dJ8_newLength_cabcc_7 : decode cJ8_newLength_cabcc 7 = .ok (.istore_n 3, 1) := by decide +kernel
theorem dJ8_newLength_cabcc_8 : decode cJ8_newLength_cabcc 8 = .ok (.iconst 0, 1) := by decide +kernel
theorem dJ8_newLength_cabcc_9 : decode cJ8_newLength_cabcc 9 = .ok (.iload_n 3, 1) := by decide +kernel
theorem dJ8_newLength_cabcc_10 : decode cJ8_newLength_cabcc 10 = .ok (.if_icmp .ge 11, 3) := by decide +kernel
theorem dJ8_newLength_cabcc_13 : decode cJ8_newLength_cabcc 13 = .ok (.iload_n 3, 1) := by decide +kernel
theorem dJ8_newLength_cabcc_14 : decode cJ8_newLength_cabcc 14 = .ok (.ldc 200, 2) := by decide +kernel
theorem dJ8_newLength_cabcc_16 : decode cJ8_newLength_cabcc 16 = .ok (.if_icmp .gt 5, 3) := by decide +kernel
theorem dJ8_newLength_cabcc_19 : decode cJ8_newLength_cabcc 19 = .ok (.iload_n 3, 1) := by decide +kernel
theorem dJ8_newLength_cabcc_20 : decode cJ8_newLength_cabcc 20 = .ok (.ireturn, 1) := by decide +kernel
theorem dJ8_newLength_cabcc_21 : decode cJ8_newLength_cabcc 21 = .ok (.iload_n 0, 1) := by decide +kernel
theorem dJ8_newLength_cabcc_22 : decode cJ8_newLength_cabcc 22 = .ok (.iload_n 1, 1) := by decide +kernel
theorem dJ8_newLength_cabcc_23 : decode cJ8_newLength_cabcc 23 = .ok (.invokestatic 201, 3) := by decide +kernel
theorem dJ8_newLength_cabcc_26 : decode cJ8_newLength_cabcc 26 = .ok (.ireturn, 1) := by decide +kernel
theorem dJ8_hugeLength_7cf53_0 : decode cJ8_hugeLength_7cf53 0 = .ok (.iload_n 0, 1) := by decide +kernel
theorem dJ8_hugeLength_7cf53_1 : decode cJ8_hugeLength_7cf53 1 = .ok (.iload_n 1, 1) := by decide +kernel
theorem dJ8_hugeLength_7cf53_2 : decode cJ8_hugeLength_7cf53 2 = .ok (.iadd, 1) := by decide +kernel
theorem dJ8_hugeLength_7cf53_3 : decode cJ8_hugeLength_7cf53 3 = .ok (.istore_n 2, 1) := by decide +kernel
theorem dJ8_hugeLength_7cf53_4 : decode cJ8_hugeLength_7cf53 4 = .ok (.iload_n 2, 1) := by decide +kernel
theorem dJ8_hugeLength_7cf53_5 : decode cJ8_hugeLength_7cf53 5 = .ok (.ifCond .ge 44, 3) := by decide +kernel
theorem dJ8_hugeLength_7cf53_8 : decode cJ8_hugeLength_7cf53 8 = .ok (.new 204, 3) := by decide +kernel
theorem dJ8_hugeLength_7cf53_11 : decode cJ8_hugeLength_7cf53 11 = .ok (.dup, 1) := by decide +kernel
theorem dJ8_hugeLength_7cf53_12 : decode cJ8_hugeLength_7cf53 12 = .ok (.new 89, 3) := by decide +kernel
theorem dJ8_hugeLength_7cf53_15 : decode cJ8_hugeLength_7cf53 15 = .ok (.dup, 1) := by decide +kernel
theorem dJ8_hugeLength_7cf53_16 : decode cJ8_hugeLength_7cf53 16 = .ok (.invokespecial 91, 3) := by decide +kernel
theorem dJ8_hugeLength_7cf53_19 : decode cJ8_hugeLength_7cf53 19 = .ok (.ldc 206, 2) := by decide +kernel
theorem dJ8_hugeLength_7cf53_21 : decode cJ8_hugeLength_7cf53 21 = .ok (.invokevirtual 94, 3) := by decide +kernel
theorem dJ8_hugeLength_7cf53_24 : decode cJ8_hugeLength_7cf53 24 = .ok (.iload_n 0, 1) := by decide +kernel
theorem dJ8_hugeLength_7cf53_25 : decode cJ8_hugeLength_7cf53 25 = .ok (.invokevirtual 98, 3) := by decide +kernel
theorem dJ8_hugeLength_7cf53_28 : decode cJ8_hugeLength_7cf53 28 = .ok (.ldc 208, 2) := by decide +kernel
theorem dJ8_hugeLength_7cf53_30 : decode cJ8_hugeLength_7cf53 30 = .ok (.invokevirtual 94, 3) := by decide +kernel
theorem dJ8_hugeLength_7cf53_33 : decode cJ8_hugeLength_7cf53 33 = .ok (.iload_n 1, 1) := by decide +kernel
theorem dJ8_hugeLength_7cf53_34 : decode cJ8_hugeLength_7cf53 34 = .ok (.invokevirtual 98, 3) := by decide +kernel
theorem dJ8_hugeLength_7cf53_37 : decode cJ8_hugeLength_7cf53 37 = .ok (.ldc 210, 2) := by decide +kernel
theorem dJ8_hugeLength_7cf53_39 : decode cJ8_hugeLength_7cf53 39 = .ok (.invokevirtual 94, 3) := by decide +kernel
theorem dJ8_hugeLength_7cf53_42 : decode cJ8_hugeLength_7cf53 42 = .ok (.invokevirtual 101, 3) := by decide +kernel
theorem dJ8_hugeLength_7cf53_45 : decode cJ8_hugeLength_7cf53 45 = .ok (.invokespecial 212, 3) := by decide +kernel
theorem dJ8_hugeLength_7cf53_48 : decode cJ8_hugeLength_7cf53 48 = .ok (.athrow, 1) := by decide +kernel
theorem dJ8_hugeLength_7cf53_49 : decode cJ8_hugeLength_7cf53 49 = .ok (.iload_n 2, 1) := by decide +kernel
theorem dJ8_hugeLength_7cf53_50 : decode cJ8_hugeLength_7cf53 50 = .ok (.ldc 200, 2) := by decide +kernel
theorem dJ8_hugeLength_7cf53_52 : decode cJ8_hugeLength_7cf53 52 = .ok (.if_icmp .gt 6, 3) := by decide +kernel
theorem dJ8_hugeLength_7cf53_55 : decode cJ8_hugeLength_7cf53 55 = .ok (.ldc 200, 2) := by decide +kernel
theorem dJ8_hugeLength_7cf53_57 : decode cJ8_hugeLength_7cf53 57 = .ok (.ireturn, 1) := by decide +kernel
theorem dJ8_hugeLength_7cf53_58 : decode cJ8_hugeLength_7cf53 58 = .ok (.iload_n 2, 1) := by decide +kernel
theorem dJ8_hugeLength_7cf53_59 : decode cJ8_hugeLength_7cf53 59 = .ok (.ireturn, 1) := by decide +kernel
theorem dJ3_checkIndex_8e157_0 : decode cJ3_checkIndex_8e157 0 = .ok (.iload_n 0, 1) := by decide +kernel
theorem dJ3_checkIndex_8e157_1 : decode cJ3_checkIndex_8e157 1 = .ok (.ifCond .lt 8, 3) := by decide +kernel
theorem dJ3_checkIndex_8e157_4 : decode cJ3_checkIndex_8e157 4 = .ok (.iload_n 0, 1) := by decide +kernel
theorem dJ3_checkIndex_8e157_5 : decode cJ3_checkIndex_8e157 5 = .ok (.iload_n 1, 1) := by decide +kernel
theorem dJ3_checkIndex_8e157_6 : decode cJ3_checkIndex_8e157 6 = .ok (.if_icmp .lt 10, 3) := by decide +kernel
theorem dJ3_checkIndex_8e157_9 : decode cJ3_checkIndex_8e157 9 = .ok (.aload_n 2, 1) := by decide +kernel
theorem dJ3_checkIndex_8e157_10 : decode cJ3_checkIndex_8e157 10 = .ok (.iload_n 0, 1) := by decide +kernel
theorem dJ3_checkIndex_8e157_11 : decode cJ3_checkIndex_8e157 11 = .ok (.iload_n 1, 1) := by decide +kernel
theorem dJ3_checkIndex_8e157_12 : decode cJ3_checkIndex_8e157 12 = .ok (.invokestatic 95, 3) := by decide +kernel
theorem dJ3_checkIndex_8e157_15 : decode cJ3_checkIndex_8e157 15 = .ok (.athrow, 1) := by decide +kernel
theorem dJ3_checkIndex_8e157_16 : decode cJ3_checkIndex_8e157 16 = .ok (.iload_n 0, 1) := by decide +kernel
theorem dJ3_checkIndex_8e157_17 : decode cJ3_checkIndex_8e157 17 = .ok (.ireturn, 1) := by decide +kernel
theorem dJ3_checkFromToIndex_8c36e_0 : decode cJ3_checkFromToIndex_8c36e 0 = .ok (.iload_n 0, 1) := by decide +kernel
theorem dJ3_checkFromToIndex_8c36e_1 : decode cJ3_checkFromToIndex_8c36e 1 = .ok (.ifCond .lt 13, 3) := by decide +kernel
theorem dJ3_checkFromToIndex_8c36e_4 : decode cJ3_checkFromToIndex_8c36e 4 = .ok (.iload_n 0, 1) := by decide +kernel
theorem dJ3_checkFromToIndex_8c36e_5 : decode cJ3_checkFromToIndex_8c36e 5 = .ok (.iload_n 1, 1) := by decide +kernel
theorem dJ3_checkFromToIndex_8c36e_6 : decode cJ3_checkFromToIndex_8c36e 6 = .ok (.if_icmp .gt 8, 3) := by decide +kernel
theorem dJ3_checkFromToIndex_8c36e_9 : decode cJ3_checkFromToIndex_8c36e 9 = .ok (.iload_n 1, 1) := by decide +kernel
theorem dJ3_checkFromToIndex_8c36e_10 : decode cJ3_checkFromToIndex_8c36e 10 = .ok (.iload_n 2, 1) := by decide +kernel
theorem dJ3_checkFromToIndex_8c36e_11 : decode cJ3_checkFromToIndex_8c36e 11 = .ok (.if_icmp .le 11, 3) := by decide +kernel
theorem dJ3_checkFromToIndex_8c36e_14 : decode cJ3_checkFromToIndex_8c36e 14 = .ok (.aload_n 3, 1) := by decide +kernel
theorem dJ3_checkFromToIndex_8c36e_15 : decode cJ3_checkFromToIndex_8c36e 15 = .ok (.iload_n 0, 1) := by decide +kernel
theorem dJ3_checkFromToIndex_8c36e_16 : decode cJ3_checkFromToIndex_8c36e 16 = .ok (.iload_n 1, 1) := by decide +kernel
theorem dJ3_checkFromToIndex_8c36e_17 : decode cJ3_checkFromToIndex_8c36e 17 = .ok (.iload_n 2, 1) := by decide +kernel
theorem dJ3_checkFromToIndex_8c36e_18 : decode cJ3_checkFromToIndex_8c36e 18 = .ok (.invokestatic 99, 3) := by decide +kernel
theorem dJ3_checkFromToIndex_8c36e_21 : decode cJ3_checkFromToIndex_8c36e 21 = .ok (.athrow, 1) := by decide +kernel
theorem dJ3_checkFromToIndex_8c36e_22 : decode cJ3_checkFromToIndex_8c36e 22 = .ok (.iload_n 0, 1) := by decide +kernel
theorem dJ3_checkFromToIndex_8c36e_23 : decode cJ3_checkFromToIndex_8c36e 23 = .ok (.ireturn, 1) := by decide +kernel
theorem dJ3_checkFromIndexSize_8c36e_0 : decode cJ3_checkFromIndexSize_8c36e 0 = .ok (.iload_n 2, 1) := by decide +kernel
theorem dJ3_checkFromIndexSize_8c36e_1 : decode cJ3_checkFromIndexSize_8c36e 1 = .ok (.iload_n 0, 1) := by decide +kernel
theorem dJ3_checkFromIndexSize_8c36e_2 : decode cJ3_checkFromIndexSize_8c36e 2 = .ok (.ior, 1) := by decide +kernel
theorem dJ3_checkFromIndexSize_8c36e_3 : decode cJ3_checkFromIndexSize_8c36e 3 = .ok (.iload_n 1, 1) := by decide +kernel
theorem dJ3_checkFromIndexSize_8c36e_4 : decode cJ3_checkFromIndexSize_8c36e 4 = .ok (.ior, 1) := by decide +kernel
theorem dJ3_checkFromIndexSize_8c36e_5 : decode cJ3_checkFromIndexSize_8c36e 5 = .ok (.ifCond .lt 10, 3) := by decide +kernel
theorem dJ3_checkFromIndexSize_8c36e_8 : decode cJ3_checkFromIndexSize_8c36e 8 = .ok (.iload_n 1, 1) := by decide +kernel
theorem dJ3_checkFromIndexSize_8c36e_9 : decode cJ3_checkFromIndexSize_8c36e 9 = .ok (.iload_n 2, 1) := by decide +kernel
theorem dJ3_checkFromIndexSize_8c36e_10 : decode cJ3_checkFromIndexSize_8c36e 10 = .ok (.iload_n 0, 1) := by decide +kernel
theorem dJ3_checkFromIndexSize_8c36e_11 : decode cJ3_checkFromIndexSize_8c36e 11 = .ok (.isub, 1) := by decide +kernel
theorem dJ3_checkFromIndexSize_8c36e_12 : decode cJ3_checkFromIndexSize_8c36e 12 = .ok (.if_icmp .le 11, 3) := by decide +kernel
theorem dJ3_checkFromIndexSize_8c36e_15 : decode cJ3_checkFromIndexSize_8c36e 15 = .ok (.aload_n 3, 1) := by decide +kernel
theorem dJ3_checkFromIndexSize_8c36e_16 : decode cJ3_checkFromIndexSize_8c36e 16 = .ok (.iload_n 0, 1) := by decide +kernel
theorem dJ3_checkFromIndexSize_8c36e_17 : decode cJ3_checkFromIndexSize_8c36e 17 = .ok (.iload_n 1, 1) := by decide +kernel
theorem dJ3_checkFromIndexSize_8c36e_18 : decode cJ3_checkFromIndexSize_8c36e 18 = .ok (.iload_n 2, 1) := by decide +kernel
theorem dJ3_checkFromIndexSize_8c36e_19 : decode cJ3_checkFromIndexSize_8c36e 19 = .ok (.invokestatic 103, 3) := by decide +kernel
theorem dJ3_checkFromIndexSize_8c36e_22 : decode cJ3_checkFromIndexSize_8c36e 22 = .ok (.athrow, 1) := by decide +kernel
theorem dJ3_checkFromIndexSize_8c36e_23 : decode cJ3_checkFromIndexSize_8c36e 23 = .ok (.iload_n 0, 1) := by decide +kernel
theorem dJ3_checkFromIndexSize_8c36e_24 : decode cJ3_checkFromIndexSize_8c36e 24 = .ok (.ireturn, 1) := by decide +kernel
end
section
set_option maxRecDepth 100000 in
def kg_U : List Cond := lw_tbl.filter goodWord
set_option maxRecDepth 100000 in
theorem tw_m {i : Nat} {w : Cond} (h : lw_tbl[i]? = some w) (g : goodWord w = true) : w ∈ kg_U := List.mem_filter.mpr ⟨List.mem_of_getElem? h, g⟩
set_option maxRecDepth 100000 in
theorem tw_t {w : Cond} (h : w ∈ kg_U) : w ∈ lw_tbl := (List.mem_filter.mp h).1
set_option maxRecDepth 100000 in
theorem tw_g {w : Cond} (h : w ∈ kg_U) : goodWord w = true := (List.mem_filter.mp h).2
set_option maxRecDepth 100000 in
theorem tw_G {a b : Cond} (hb : b ∈ kg_U) : GoodIn (a :: kg_U) (b :: kg_U) := fun w hw => (List.mem_cons.mp hw).elim (fun h => ⟨List.mem_cons_of_mem _ (h ▸ hb), good_of_word (tw_g (h ▸ hb))⟩) (fun h => ⟨List.mem_cons_of_mem _ h, good_of_word (tw_g h)⟩)
set_option maxRecDepth 100000 in
theorem tw_H {b : Cond} (hb : b ∈ kg_U) : GoodIn kg_U (b :: kg_U) := fun w hw => (List.mem_cons.mp hw).elim (fun h => ⟨h ▸ hb, good_of_word (tw_g (h ▸ hb))⟩) (fun h => ⟨h, good_of_word (tw_g h)⟩)
set_option maxRecDepth 100000 in
theorem tw_0 : Cond.selects RX4 yX4_isKettle yX4_isKettle ∈ kg_U := tw_m (i := 0) (by decide +kernel) (by decide +kernel)
set_option maxRecDepth 100000 in
theorem tw_1 : Cond.selects RX4 yX4_countAheadOfMember yX4_countAheadOfMember ∈ kg_U := tw_m (i := 1) (by decide +kernel) (by decide +kernel)
set_option maxRecDepth 100000 in
theorem tw_2 : Cond.selects RX4 yX4_isMemberAhead yX4_isMemberAhead ∈ kg_U := tw_m (i := 2) (by decide +kernel) (by decide +kernel)
set_option maxRecDepth 100000 in
theorem tw_3 : Cond.selects RX4 yX4_countAheadOfKettle yX4_countAheadOfKettle ∈ kg_U := tw_m (i := 3) (by decide +kernel) (by decide +kernel)
set_option maxRecDepth 100000 in
theorem tw_4 : Cond.selects RX4 yX4_isKettleAhead yX4_isKettleAhead ∈ kg_U := tw_m (i := 4) (by decide +kernel) (by decide +kernel)
set_option maxRecDepth 100000 in
theorem tw_5 : Cond.selects RX4 yX4_tellSigns yX4_tellSigns ∈ kg_U := tw_m (i := 5) (by decide +kernel) (by decide +kernel)
set_option maxRecDepth 100000 in
theorem tw_6 : Cond.selects RX4 yX4_isBoilingSame yX4_isBoilingSame ∈ kg_U := tw_m (i := 6) (by decide +kernel) (by decide +kernel)
set_option maxRecDepth 100000 in
theorem tw_7 : Cond.selects RX4 yX4_takePitch yX4_takePitch ∈ kg_U := tw_m (i := 7) (by decide +kernel) (by decide +kernel)
set_option maxRecDepth 100000 in
theorem tw_8 : Cond.selects RX4 yX4_refuse yX4_refuse ∈ kg_U := tw_m (i := 8) (by decide +kernel) (by decide +kernel)
set_option maxRecDepth 100000 in
theorem tw_9 : Cond.selects RX4 yX4_settle yX4_settle ∈ kg_U := tw_m (i := 9) (by decide +kernel) (by decide +kernel)
set_option maxRecDepth 100000 in
theorem tw_10 : Cond.selects RX4 yX4_bringKettle yX4_bringKettle ∈ kg_U := tw_m (i := 10) (by decide +kernel) (by decide +kernel)
set_option maxRecDepth 100000 in
theorem tw_11 : Cond.selects RX4 yX4_turnStove yX4_turnStove ∈ kg_U := tw_m (i := 11) (by decide +kernel) (by decide +kernel)
set_option maxRecDepth 100000 in
theorem tw_12 : Cond.selects RX4 yX4_putOnStove yX4_putOnStove ∈ kg_U := tw_m (i := 12) (by decide +kernel) (by decide +kernel)
set_option maxRecDepth 100000 in
theorem tw_13 : Cond.selects RX4 yX4_refuseStove yX4_refuseStove ∈ kg_U := tw_m (i := 13) (by decide +kernel) (by decide +kernel)
set_option maxRecDepth 100000 in
theorem tw_14 : Cond.selects RX4 yX4_takeOffStove yX4_takeOffStove ∈ kg_U := tw_m (i := 14) (by decide +kernel) (by decide +kernel)
set_option maxRecDepth 100000 in
theorem tw_15 : Cond.selects RX4 yX4_pourWater yX4_pourWater ∈ kg_U := tw_m (i := 15) (by decide +kernel) (by decide +kernel)
set_option maxRecDepth 100000 in
theorem tw_16 : Cond.selects RX4 yX4_moveLid yX4_moveLid ∈ kg_U := tw_m (i := 16) (by decide +kernel) (by decide +kernel)
set_option maxRecDepth 100000 in
theorem tw_17 : Cond.selects RX4 yX4_makeAppeal yX4_makeAppeal ∈ kg_U := tw_m (i := 17) (by decide +kernel) (by decide +kernel)
set_option maxRecDepth 100000 in
theorem tw_18 : Cond.selects RX4 yX4_passMinutes yX4_passMinutes ∈ kg_U := tw_m (i := 18) (by decide +kernel) (by decide +kernel)
set_option maxRecDepth 100000 in
theorem tw_19 : Cond.selects RX3 yX3_passMinuteOver yX3_passMinuteOver ∈ kg_U := tw_m (i := 19) (by decide +kernel) (by decide +kernel)
set_option maxRecDepth 100000 in
theorem tw_20 : Cond.selects RX3 yX3_boilDry yX3_boilDry ∈ kg_U := tw_m (i := 20) (by decide +kernel) (by decide +kernel)
set_option maxRecDepth 100000 in
theorem tw_21 : Cond.selects RX3 yX3_changeTemperature yX3_changeTemperature ∈ kg_U := tw_m (i := 21) (by decide +kernel) (by decide +kernel)
set_option maxRecDepth 100000 in
theorem tw_22 : Cond.initialized RL ∈ kg_U := tw_m (i := 22) (by decide +kernel) (by decide +kernel)
set_option maxRecDepth 100000 in
theorem tw_23 : Cond.initialized RX4 ∈ kg_U := tw_m (i := 23) (by decide +kernel) (by decide +kernel)
set_option maxRecDepth 100000 in
theorem tw_24 : Cond.initialized RX3 ∈ kg_U := tw_m (i := 24) (by decide +kernel) (by decide +kernel)
set_option maxRecDepth 100000 in
theorem tw_25 : Cond.initialized RJ7 ∈ kg_U := tw_m (i := 25) (by decide +kernel) (by decide +kernel)
set_option maxRecDepth 100000 in
theorem tw_26 : Cond.initialized RX0 ∈ kg_U := tw_m (i := 26) (by decide +kernel) (by decide +kernel)
set_option maxRecDepth 100000 in
theorem tw_27 : Cond.initialized RX2 ∈ kg_U := tw_m (i := 27) (by decide +kernel) (by decide +kernel)
set_option maxRecDepth 100000 in
theorem tw_28 : Cond.initialized RX1 ∈ kg_U := tw_m (i := 28) (by decide +kernel) (by decide +kernel)
set_option maxRecDepth 100000 in
theorem tw_29 : Cond.initialized RJ5 ∈ kg_U := tw_m (i := 29) (by decide +kernel) (by decide +kernel)
set_option maxRecDepth 100000 in
theorem tw_30 : Cond.initialized RJ4 ∈ kg_U := tw_m (i := 30) (by decide +kernel) (by decide +kernel)
set_option maxRecDepth 100000 in
theorem tw_31 : Cond.initialized RJ0 ∈ kg_U := tw_m (i := 31) (by decide +kernel) (by decide +kernel)
set_option maxRecDepth 100000 in
theorem tw_32 : Cond.initialized RJ2 ∈ kg_U := tw_m (i := 32) (by decide +kernel) (by decide +kernel)
set_option maxRecDepth 100000 in
theorem tw_33 : Cond.initialized RJ9 ∈ kg_U := tw_m (i := 33) (by decide +kernel) (by decide +kernel)
set_option maxRecDepth 100000 in
theorem tw_34 : Cond.initialized RJ10 ∈ kg_U := tw_m (i := 34) (by decide +kernel) (by decide +kernel)
set_option maxRecDepth 100000 in
theorem tw_35 : Cond.initialized "java/lang/Number" ∈ kg_U := tw_m (i := 35) (by decide +kernel) (by decide +kernel)
set_option maxRecDepth 100000 in
theorem tw_36 : Cond.initialized RJ6 ∈ kg_U := tw_m (i := 36) (by decide +kernel) (by decide +kernel)
set_option maxRecDepth 100000 in
theorem tw_37 : Cond.initialized RJ8 ∈ kg_U := tw_m (i := 37) (by decide +kernel) (by decide +kernel)
set_option maxRecDepth 100000 in
theorem tw_38 : Cond.initialized RJ1 ∈ kg_U := tw_m (i := 38) (by decide +kernel) (by decide +kernel)
set_option maxRecDepth 100000 in
theorem tw_39 : Cond.initialized RJ3 ∈ kg_U := tw_m (i := 39) (by decide +kernel) (by decide +kernel)
set_option maxRecDepth 100000 in
theorem tw_40 : Cond.classLink RL 18 RX4 ∈ kg_U := tw_m (i := 40) (by decide +kernel) (by decide +kernel)
set_option maxRecDepth 100000 in
theorem tw_41 : Cond.instantiable RX4 7 ∈ kg_U := tw_m (i := 41) (by decide +kernel) (by decide +kernel)
set_option maxRecDepth 100000 in
theorem tw_42 : Cond.methodLink RL 88 yX4_init ∈ kg_U := tw_m (i := 42) (by decide +kernel) (by decide +kernel)
set_option maxRecDepth 100000 in
theorem tw_43 : Cond.instanceMethod yX4_init ∈ kg_U := tw_m (i := 43) (by decide +kernel) (by decide +kernel)
set_option maxRecDepth 100000 in
theorem tw_44 : Cond.code yX4_init cX4_init 1 none ∈ kg_U := tw_m (i := 44) (by decide +kernel) (by decide +kernel)
set_option maxRecDepth 100000 in
theorem tw_45 : Cond.methodLink RX4 1 (⟨"java/lang/Object", "<init>", "()V"⟩ : MethodName) ∈ kg_U := tw_m (i := 45) (by decide +kernel) (by decide +kernel)
set_option maxRecDepth 100000 in
theorem tw_46 : Cond.instanceMethod (⟨"java/lang/Object", "<init>", "()V"⟩ : MethodName) ∈ kg_U := tw_m (i := 46) (by decide +kernel) (by decide +kernel)
set_option maxRecDepth 100000 in
theorem tw_47 : Cond.code (⟨"java/lang/Object", "<init>", "()V"⟩ : MethodName) object_method_1_code 1 none ∈ kg_U := tw_m (i := 47) (by decide +kernel) (by decide +kernel)
set_option maxRecDepth 100000 in
theorem tw_48 : Cond.classLink RX4 7 RX3 ∈ kg_U := tw_m (i := 48) (by decide +kernel) (by decide +kernel)
set_option maxRecDepth 100000 in
theorem tw_49 : Cond.instantiable RX3 18 ∈ kg_U := tw_m (i := 49) (by decide +kernel) (by decide +kernel)
set_option maxRecDepth 100000 in
theorem tw_50 : Cond.methodLink RX4 9 yX3_init ∈ kg_U := tw_m (i := 50) (by decide +kernel) (by decide +kernel)
set_option maxRecDepth 100000 in
theorem tw_51 : Cond.instanceMethod yX3_init ∈ kg_U := tw_m (i := 51) (by decide +kernel) (by decide +kernel)
set_option maxRecDepth 100000 in
theorem tw_52 : Cond.code yX3_init cX3_init 1 none ∈ kg_U := tw_m (i := 52) (by decide +kernel) (by decide +kernel)
set_option maxRecDepth 100000 in
theorem tw_53 : Cond.methodLink RX3 3 (⟨"java/lang/Object", "<init>", "()V"⟩ : MethodName) ∈ kg_U := tw_m (i := 53) (by decide +kernel) (by decide +kernel)
set_option maxRecDepth 100000 in
theorem tw_54 : Cond.methodLink RX3 54 yJ7_fill_53178 ∈ kg_U := tw_m (i := 54) (by decide +kernel) (by decide +kernel)
set_option maxRecDepth 100000 in
theorem tw_55 : Cond.static yJ7_fill_53178 ∈ kg_U := tw_m (i := 55) (by decide +kernel) (by decide +kernel)
set_option maxRecDepth 100000 in
theorem tw_56 : Cond.code yJ7_fill_53178 cJ7_fill_53178 4 none ∈ kg_U := tw_m (i := 56) (by decide +kernel) (by decide +kernel)
set_option maxRecDepth 100000 in
theorem tw_57 : Cond.fieldLink RX3 9 "KettleGuild$State" "owners" "[I" ∈ kg_U := tw_m (i := 57) (by decide +kernel) (by decide +kernel)
set_option maxRecDepth 100000 in
theorem tw_58 : Cond.fieldLink RX4 63 "KettleGuild$State" "owners" "[I" ∈ kg_U := tw_m (i := 58) (by decide +kernel) (by decide +kernel)
set_option maxRecDepth 100000 in
theorem tw_59 : Cond.fieldLink RX3 15 "KettleGuild$State" "points" "[I" ∈ kg_U := tw_m (i := 59) (by decide +kernel) (by decide +kernel)
set_option maxRecDepth 100000 in
theorem tw_60 : Cond.fieldLink RX4 183 "KettleGuild$State" "points" "[I" ∈ kg_U := tw_m (i := 60) (by decide +kernel) (by decide +kernel)
set_option maxRecDepth 100000 in
theorem tw_61 : Cond.fieldLink RX3 18 "KettleGuild$State" "boiledDry" "[I" ∈ kg_U := tw_m (i := 61) (by decide +kernel) (by decide +kernel)
set_option maxRecDepth 100000 in
theorem tw_62 : Cond.fieldLink RX4 195 "KettleGuild$State" "boiledDry" "[I" ∈ kg_U := tw_m (i := 62) (by decide +kernel) (by decide +kernel)
set_option maxRecDepth 100000 in
theorem tw_63 : Cond.fieldLink RX3 21 "KettleGuild$State" "appealsMade" "[I" ∈ kg_U := tw_m (i := 63) (by decide +kernel) (by decide +kernel)
set_option maxRecDepth 100000 in
theorem tw_64 : Cond.fieldLink RX4 198 "KettleGuild$State" "appealsMade" "[I" ∈ kg_U := tw_m (i := 64) (by decide +kernel) (by decide +kernel)
set_option maxRecDepth 100000 in
theorem tw_65 : Cond.fieldLink RX3 24 "KettleGuild$State" "heats" "[I" ∈ kg_U := tw_m (i := 65) (by decide +kernel) (by decide +kernel)
set_option maxRecDepth 100000 in
theorem tw_66 : Cond.fieldLink RX4 133 "KettleGuild$State" "heats" "[I" ∈ kg_U := tw_m (i := 66) (by decide +kernel) (by decide +kernel)
set_option maxRecDepth 100000 in
theorem tw_67 : Cond.fieldLink RX3 27 "KettleGuild$State" "members" "[I" ∈ kg_U := tw_m (i := 67) (by decide +kernel) (by decide +kernel)
set_option maxRecDepth 100000 in
theorem tw_68 : Cond.fieldLink RX4 80 "KettleGuild$State" "members" "[I" ∈ kg_U := tw_m (i := 68) (by decide +kernel) (by decide +kernel)
set_option maxRecDepth 100000 in
theorem tw_69 : Cond.fieldLink RX3 30 "KettleGuild$State" "pitches" "[I" ∈ kg_U := tw_m (i := 69) (by decide +kernel) (by decide +kernel)
set_option maxRecDepth 100000 in
theorem tw_70 : Cond.fieldLink RX4 83 "KettleGuild$State" "pitches" "[I" ∈ kg_U := tw_m (i := 70) (by decide +kernel) (by decide +kernel)
set_option maxRecDepth 100000 in
theorem tw_71 : Cond.fieldLink RX3 33 "KettleGuild$State" "waters" "[I" ∈ kg_U := tw_m (i := 71) (by decide +kernel) (by decide +kernel)
set_option maxRecDepth 100000 in
theorem tw_72 : Cond.fieldLink RX4 86 "KettleGuild$State" "waters" "[I" ∈ kg_U := tw_m (i := 72) (by decide +kernel) (by decide +kernel)
set_option maxRecDepth 100000 in
theorem tw_73 : Cond.fieldLink RX3 36 "KettleGuild$State" "temperatures" "[I" ∈ kg_U := tw_m (i := 73) (by decide +kernel) (by decide +kernel)
set_option maxRecDepth 100000 in
theorem tw_74 : Cond.fieldLink RX4 89 "KettleGuild$State" "temperatures" "[I" ∈ kg_U := tw_m (i := 74) (by decide +kernel) (by decide +kernel)
set_option maxRecDepth 100000 in
theorem tw_75 : Cond.fieldLink RX3 39 "KettleGuild$State" "stoves" "[I" ∈ kg_U := tw_m (i := 75) (by decide +kernel) (by decide +kernel)
set_option maxRecDepth 100000 in
theorem tw_76 : Cond.fieldLink RX4 95 "KettleGuild$State" "stoves" "[I" ∈ kg_U := tw_m (i := 76) (by decide +kernel) (by decide +kernel)
set_option maxRecDepth 100000 in
theorem tw_77 : Cond.fieldLink RX3 42 "KettleGuild$State" "bans" "[I" ∈ kg_U := tw_m (i := 77) (by decide +kernel) (by decide +kernel)
set_option maxRecDepth 100000 in
theorem tw_78 : Cond.fieldLink RX4 104 "KettleGuild$State" "bans" "[I" ∈ kg_U := tw_m (i := 78) (by decide +kernel) (by decide +kernel)
set_option maxRecDepth 100000 in
theorem tw_79 : Cond.fieldLink RX3 45 "KettleGuild$State" "lids" "[I" ∈ kg_U := tw_m (i := 79) (by decide +kernel) (by decide +kernel)
set_option maxRecDepth 100000 in
theorem tw_80 : Cond.fieldLink RX4 92 "KettleGuild$State" "lids" "[I" ∈ kg_U := tw_m (i := 80) (by decide +kernel) (by decide +kernel)
set_option maxRecDepth 100000 in
theorem tw_81 : Cond.fieldLink RX3 48 "KettleGuild$State" "bars" "[I" ∈ kg_U := tw_m (i := 81) (by decide +kernel) (by decide +kernel)
set_option maxRecDepth 100000 in
theorem tw_82 : Cond.fieldLink RX4 341 "KettleGuild$State" "bars" "[I" ∈ kg_U := tw_m (i := 82) (by decide +kernel) (by decide +kernel)
set_option maxRecDepth 100000 in
theorem tw_83 : Cond.fieldLink RX3 51 "KettleGuild$State" "appealers" "[I" ∈ kg_U := tw_m (i := 83) (by decide +kernel) (by decide +kernel)
set_option maxRecDepth 100000 in
theorem tw_84 : Cond.fieldLink RX4 107 "KettleGuild$State" "appealers" "[I" ∈ kg_U := tw_m (i := 84) (by decide +kernel) (by decide +kernel)
set_option maxRecDepth 100000 in
theorem tw_85 : Cond.fieldLink RX3 64 "KettleGuild$State" "kettles" "I" ∈ kg_U := tw_m (i := 85) (by decide +kernel) (by decide +kernel)
set_option maxRecDepth 100000 in
theorem tw_86 : Cond.fieldLink RX4 146 "KettleGuild$State" "kettles" "I" ∈ kg_U := tw_m (i := 86) (by decide +kernel) (by decide +kernel)
set_option maxRecDepth 100000 in
theorem tw_87 : Cond.fieldLink RX3 68 "KettleGuild$State" "minutes" "I" ∈ kg_U := tw_m (i := 87) (by decide +kernel) (by decide +kernel)
set_option maxRecDepth 100000 in
theorem tw_88 : Cond.fieldLink RX4 271 "KettleGuild$State" "minutes" "I" ∈ kg_U := tw_m (i := 88) (by decide +kernel) (by decide +kernel)
set_option maxRecDepth 100000 in
theorem tw_89 : Cond.fieldLink RX3 71 "KettleGuild$State" "waterCome" "I" ∈ kg_U := tw_m (i := 89) (by decide +kernel) (by decide +kernel)
set_option maxRecDepth 100000 in
theorem tw_90 : Cond.fieldLink RX4 277 "KettleGuild$State" "waterCome" "I" ∈ kg_U := tw_m (i := 90) (by decide +kernel) (by decide +kernel)
set_option maxRecDepth 100000 in
theorem tw_91 : Cond.fieldLink RX3 74 "KettleGuild$State" "waterGone" "I" ∈ kg_U := tw_m (i := 91) (by decide +kernel) (by decide +kernel)
set_option maxRecDepth 100000 in
theorem tw_92 : Cond.fieldLink RX4 280 "KettleGuild$State" "waterGone" "I" ∈ kg_U := tw_m (i := 92) (by decide +kernel) (by decide +kernel)
set_option maxRecDepth 100000 in
theorem tw_129 : Cond.superclass RX3 "java/lang/Object" ∈ kg_U := tw_m (i := 129) (by decide +kernel) (by decide +kernel)
set_option maxRecDepth 100000 in
theorem tw_130 : Cond.arrayClass .int ∈ kg_U := tw_m (i := 130) (by decide +kernel) (by decide +kernel)
set_option maxRecDepth 100000 in
theorem tw_131 : Cond.classLink RX4 19 RX0 ∈ kg_U := tw_m (i := 131) (by decide +kernel) (by decide +kernel)
set_option maxRecDepth 100000 in
theorem tw_132 : Cond.instantiable RX0 3 ∈ kg_U := tw_m (i := 132) (by decide +kernel) (by decide +kernel)
set_option maxRecDepth 100000 in
theorem tw_133 : Cond.methodLink RX4 21 yX0_init ∈ kg_U := tw_m (i := 133) (by decide +kernel) (by decide +kernel)
set_option maxRecDepth 100000 in
theorem tw_134 : Cond.instanceMethod yX0_init ∈ kg_U := tw_m (i := 134) (by decide +kernel) (by decide +kernel)
set_option maxRecDepth 100000 in
theorem tw_135 : Cond.code yX0_init cX0_init 2 none ∈ kg_U := tw_m (i := 135) (by decide +kernel) (by decide +kernel)
set_option maxRecDepth 100000 in
theorem tw_136 : Cond.methodLink RX0 3 (⟨"java/lang/Object", "<init>", "()V"⟩ : MethodName) ∈ kg_U := tw_m (i := 136) (by decide +kernel) (by decide +kernel)
set_option maxRecDepth 100000 in
theorem tw_137 : Cond.classLink RX0 9 RX3 ∈ kg_U := tw_m (i := 137) (by decide +kernel) (by decide +kernel)
set_option maxRecDepth 100000 in
theorem tw_139 : Cond.methodLink RX0 17 yX3_init ∈ kg_U := tw_m (i := 139) (by decide +kernel) (by decide +kernel)
set_option maxRecDepth 100000 in
theorem tw_140 : Cond.fieldLink RX0 11 "KettleGuild$History" "states" "[LKettleGuild$State;" ∈ kg_U := tw_m (i := 140) (by decide +kernel) (by decide +kernel)
set_option maxRecDepth 100000 in
theorem tw_141 : Cond.fieldLink RX0 18 "KettleGuild$History" "begun" "I" ∈ kg_U := tw_m (i := 141) (by decide +kernel) (by decide +kernel)
set_option maxRecDepth 100000 in
theorem tw_142 : Cond.fieldLink RX0 26 "KettleGuild$History" "count" "I" ∈ kg_U := tw_m (i := 142) (by decide +kernel) (by decide +kernel)
set_option maxRecDepth 100000 in
theorem tw_143 : Cond.fieldLink RX4 287 "KettleGuild$History" "count" "I" ∈ kg_U := tw_m (i := 143) (by decide +kernel) (by decide +kernel)
set_option maxRecDepth 100000 in
theorem tw_150 : Cond.superclass RX0 "java/lang/Object" ∈ kg_U := tw_m (i := 150) (by decide +kernel) (by decide +kernel)
set_option maxRecDepth 100000 in
theorem tw_151 : Cond.classLink RX4 26 RX2 ∈ kg_U := tw_m (i := 151) (by decide +kernel) (by decide +kernel)
set_option maxRecDepth 100000 in
theorem tw_152 : Cond.instantiable RX2 3 ∈ kg_U := tw_m (i := 152) (by decide +kernel) (by decide +kernel)
set_option maxRecDepth 100000 in
theorem tw_154 : Cond.instanceMethod yX2_init ∈ kg_U := tw_m (i := 154) (by decide +kernel) (by decide +kernel)
set_option maxRecDepth 100000 in
theorem tw_155 : Cond.code yX2_init cX2_init 1 none ∈ kg_U := tw_m (i := 155) (by decide +kernel) (by decide +kernel)
set_option maxRecDepth 100000 in
theorem tw_156 : Cond.methodLink RX2 3 (⟨"java/lang/Object", "<init>", "()V"⟩ : MethodName) ∈ kg_U := tw_m (i := 156) (by decide +kernel) (by decide +kernel)
set_option maxRecDepth 100000 in
theorem tw_157 : Cond.fieldLink RX2 9 "KettleGuild$Reasons" "numbers" "[I" ∈ kg_U := tw_m (i := 157) (by decide +kernel) (by decide +kernel)
set_option maxRecDepth 100000 in
theorem tw_158 : Cond.fieldLink RX2 15 "KettleGuild$Reasons" "details" "[I" ∈ kg_U := tw_m (i := 158) (by decide +kernel) (by decide +kernel)
set_option maxRecDepth 100000 in
theorem tw_159 : Cond.fieldLink RX2 18 "KettleGuild$Reasons" "count" "I" ∈ kg_U := tw_m (i := 159) (by decide +kernel) (by decide +kernel)
set_option maxRecDepth 100000 in
theorem tw_160 : Cond.fieldLink RX4 252 "KettleGuild$Reasons" "count" "I" ∈ kg_U := tw_m (i := 160) (by decide +kernel) (by decide +kernel)
set_option maxRecDepth 100000 in
theorem tw_167 : Cond.superclass RX2 "java/lang/Object" ∈ kg_U := tw_m (i := 167) (by decide +kernel) (by decide +kernel)
set_option maxRecDepth 100000 in
theorem tw_168 : Cond.classLink RX4 33 RX1 ∈ kg_U := tw_m (i := 168) (by decide +kernel) (by decide +kernel)
set_option maxRecDepth 100000 in
theorem tw_169 : Cond.instantiable RX1 6 ∈ kg_U := tw_m (i := 169) (by decide +kernel) (by decide +kernel)
set_option maxRecDepth 100000 in
theorem tw_171 : Cond.instanceMethod yX1_init ∈ kg_U := tw_m (i := 171) (by decide +kernel) (by decide +kernel)
set_option maxRecDepth 100000 in
theorem tw_172 : Cond.code yX1_init cX1_init 1 none ∈ kg_U := tw_m (i := 172) (by decide +kernel) (by decide +kernel)
set_option maxRecDepth 100000 in
theorem tw_173 : Cond.methodLink RX1 3 (⟨"java/lang/Object", "<init>", "()V"⟩ : MethodName) ∈ kg_U := tw_m (i := 173) (by decide +kernel) (by decide +kernel)
set_option maxRecDepth 100000 in
theorem tw_174 : Cond.fieldLink RX1 9 "KettleGuild$Orders" "text" "[C" ∈ kg_U := tw_m (i := 174) (by decide +kernel) (by decide +kernel)
set_option maxRecDepth 100000 in
theorem tw_175 : Cond.fieldLink RX1 15 "KettleGuild$Orders" "kinds" "[I" ∈ kg_U := tw_m (i := 175) (by decide +kernel) (by decide +kernel)
set_option maxRecDepth 100000 in
theorem tw_176 : Cond.fieldLink RX1 19 "KettleGuild$Orders" "numbers" "[I" ∈ kg_U := tw_m (i := 176) (by decide +kernel) (by decide +kernel)
set_option maxRecDepth 100000 in
theorem tw_177 : Cond.fieldLink RX4 211 "KettleGuild$Orders" "length" "I" ∈ kg_U := tw_m (i := 177) (by decide +kernel) (by decide +kernel)
set_option maxRecDepth 100000 in
theorem tw_190 : Cond.superclass RX1 "java/lang/Object" ∈ kg_U := tw_m (i := 190) (by decide +kernel) (by decide +kernel)
set_option maxRecDepth 100000 in
theorem tw_191 : Cond.arrayClass .char ∈ kg_U := tw_m (i := 191) (by decide +kernel) (by decide +kernel)
set_option maxRecDepth 100000 in
theorem tw_192 : Cond.classLink RX4 40 RJ4 ∈ kg_U := tw_m (i := 192) (by decide +kernel) (by decide +kernel)
set_option maxRecDepth 100000 in
theorem tw_193 : Cond.instantiable RJ4 4 ∈ kg_U := tw_m (i := 193) (by decide +kernel) (by decide +kernel)
set_option maxRecDepth 100000 in
theorem tw_194 : Cond.methodLink RX4 42 yJ4_init_da8c8 ∈ kg_U := tw_m (i := 194) (by decide +kernel) (by decide +kernel)
set_option maxRecDepth 100000 in
theorem tw_195 : Cond.instanceMethod yJ4_init_da8c8 ∈ kg_U := tw_m (i := 195) (by decide +kernel) (by decide +kernel)
set_option maxRecDepth 100000 in
theorem tw_196 : Cond.code yJ4_init_da8c8 cJ4_init_da8c8 1 none ∈ kg_U := tw_m (i := 196) (by decide +kernel) (by decide +kernel)
set_option maxRecDepth 100000 in
theorem tw_197 : Cond.methodLink RJ4 1 yJ5_init_d00df ∈ kg_U := tw_m (i := 197) (by decide +kernel) (by decide +kernel)
set_option maxRecDepth 100000 in
theorem tw_198 : Cond.instanceMethod yJ5_init_d00df ∈ kg_U := tw_m (i := 198) (by decide +kernel) (by decide +kernel)
set_option maxRecDepth 100000 in
theorem tw_199 : Cond.code yJ5_init_d00df cJ5_init_d00df 2 none ∈ kg_U := tw_m (i := 199) (by decide +kernel) (by decide +kernel)
set_option maxRecDepth 100000 in
theorem tw_200 : Cond.methodLink RJ5 3 (⟨"java/lang/Object", "<init>", "()V"⟩ : MethodName) ∈ kg_U := tw_m (i := 200) (by decide +kernel) (by decide +kernel)
set_option maxRecDepth 100000 in
theorem tw_201 : Cond.fieldLink RJ5 18 "java/lang/String" "COMPACT_STRINGS" "Z" ∈ kg_U := tw_m (i := 201) (by decide +kernel) (by decide +kernel)
set_option maxRecDepth 100000 in
theorem tw_203 : Cond.methodLink RJ5 26 yJ2_newBytesFor_77867 ∈ kg_U := tw_m (i := 203) (by decide +kernel) (by decide +kernel)
set_option maxRecDepth 100000 in
theorem tw_204 : Cond.static yJ2_newBytesFor_77867 ∈ kg_U := tw_m (i := 204) (by decide +kernel) (by decide +kernel)
set_option maxRecDepth 100000 in
theorem tw_205 : Cond.code yJ2_newBytesFor_77867 cJ2_newBytesFor_77867 1 (some (.array .byte)) ∈ kg_U := tw_m (i := 205) (by decide +kernel) (by decide +kernel)
set_option maxRecDepth 100000 in
theorem tw_206 : Cond.methodLink RJ2 11 yJ2_newBytesLength_0f7a4 ∈ kg_U := tw_m (i := 206) (by decide +kernel) (by decide +kernel)
set_option maxRecDepth 100000 in
theorem tw_207 : Cond.static yJ2_newBytesLength_0f7a4 ∈ kg_U := tw_m (i := 207) (by decide +kernel) (by decide +kernel)
set_option maxRecDepth 100000 in
theorem tw_208 : Cond.code yJ2_newBytesLength_0f7a4 cJ2_newBytesLength_0f7a4 1 (some .int) ∈ kg_U := tw_m (i := 208) (by decide +kernel) (by decide +kernel)
set_option maxRecDepth 100000 in
theorem tw_209 : Cond.constant RJ2 20 (1073741823 : Int32) ∈ kg_U := tw_m (i := 209) (by decide +kernel) (by decide +kernel)
set_option maxRecDepth 100000 in
theorem tw_210 : Cond.fieldLink RJ5 15 "java/lang/AbstractStringBuilder" "value" "[B" ∈ kg_U := tw_m (i := 210) (by decide +kernel) (by decide +kernel)
set_option maxRecDepth 100000 in
theorem tw_211 : Cond.fieldLink RJ5 22 "java/lang/AbstractStringBuilder" "coder" "B" ∈ kg_U := tw_m (i := 211) (by decide +kernel) (by decide +kernel)
set_option maxRecDepth 100000 in
theorem tw_212 : Cond.fieldLink RJ5 73 "java/lang/AbstractStringBuilder" "maybeLatin1" "Z" ∈ kg_U := tw_m (i := 212) (by decide +kernel) (by decide +kernel)
set_option maxRecDepth 100000 in
theorem tw_213 : Cond.fieldLink RJ0 1048 "java/lang/AbstractStringBuilder" "maybeLatin1" "Z" ∈ kg_U := tw_m (i := 213) (by decide +kernel) (by decide +kernel)
set_option maxRecDepth 100000 in
theorem tw_214 : Cond.fieldLink RJ5 79 "java/lang/AbstractStringBuilder" "count" "I" ∈ kg_U := tw_m (i := 214) (by decide +kernel) (by decide +kernel)
set_option maxRecDepth 100000 in
theorem tw_223 : Cond.superclass RJ4 RJ5 ∈ kg_U := tw_m (i := 223) (by decide +kernel) (by decide +kernel)
set_option maxRecDepth 100000 in
theorem tw_224 : Cond.arrayClass .byte ∈ kg_U := tw_m (i := 224) (by decide +kernel) (by decide +kernel)
set_option maxRecDepth 100000 in
theorem tw_225 : Cond.fieldLink RX4 10 "KettleGuild" "now" "LKettleGuild$State;" ∈ kg_U := tw_m (i := 225) (by decide +kernel) (by decide +kernel)
set_option maxRecDepth 100000 in
theorem tw_226 : Cond.fieldLink RX4 16 "KettleGuild" "snapshot" "LKettleGuild$State;" ∈ kg_U := tw_m (i := 226) (by decide +kernel) (by decide +kernel)
set_option maxRecDepth 100000 in
theorem tw_227 : Cond.fieldLink RX4 22 "KettleGuild" "history" "LKettleGuild$History;" ∈ kg_U := tw_m (i := 227) (by decide +kernel) (by decide +kernel)
set_option maxRecDepth 100000 in
theorem tw_228 : Cond.fieldLink RX4 29 "KettleGuild" "reasons" "LKettleGuild$Reasons;" ∈ kg_U := tw_m (i := 228) (by decide +kernel) (by decide +kernel)
set_option maxRecDepth 100000 in
theorem tw_229 : Cond.fieldLink RX4 36 "KettleGuild" "orders" "LKettleGuild$Orders;" ∈ kg_U := tw_m (i := 229) (by decide +kernel) (by decide +kernel)
set_option maxRecDepth 100000 in
theorem tw_230 : Cond.fieldLink RX4 43 "KettleGuild" "line" "Ljava/lang/StringBuilder;" ∈ kg_U := tw_m (i := 230) (by decide +kernel) (by decide +kernel)
set_option maxRecDepth 100000 in
theorem tw_245 : Cond.superclass RX4 "java/lang/Object" ∈ kg_U := tw_m (i := 245) (by decide +kernel) (by decide +kernel)
set_option maxRecDepth 100000 in
theorem tw_246 : Cond.methodLink RL 37 yX4_owner ∈ kg_U := tw_m (i := 246) (by decide +kernel) (by decide +kernel)
set_option maxRecDepth 100000 in
theorem tw_247 : Cond.instanceMethod yX4_owner ∈ kg_U := tw_m (i := 247) (by decide +kernel) (by decide +kernel)
set_option maxRecDepth 100000 in
theorem tw_248 : Cond.selects RX4 yX4_owner yX4_owner ∈ kg_U := tw_m (i := 248) (by decide +kernel) (by decide +kernel)
set_option maxRecDepth 100000 in
theorem tw_249 : Cond.code yX4_owner cX4_owner 2 (some .int) ∈ kg_U := tw_m (i := 249) (by decide +kernel) (by decide +kernel)
set_option maxRecDepth 100000 in
theorem tw_250 : Cond.methodLink RX4 59 yX4_isPitch ∈ kg_U := tw_m (i := 250) (by decide +kernel) (by decide +kernel)
set_option maxRecDepth 100000 in
theorem tw_251 : Cond.static yX4_isPitch ∈ kg_U := tw_m (i := 251) (by decide +kernel) (by decide +kernel)
set_option maxRecDepth 100000 in
theorem tw_252 : Cond.code yX4_isPitch cX4_isPitch 1 (some .boolean) ∈ kg_U := tw_m (i := 252) (by decide +kernel) (by decide +kernel)
set_option maxRecDepth 100000 in
theorem tw_253 : Cond.methodLink RX4 67 yX4_orNothing ∈ kg_U := tw_m (i := 253) (by decide +kernel) (by decide +kernel)
set_option maxRecDepth 100000 in
theorem tw_254 : Cond.static yX4_orNothing ∈ kg_U := tw_m (i := 254) (by decide +kernel) (by decide +kernel)
set_option maxRecDepth 100000 in
theorem tw_255 : Cond.code yX4_orNothing cX4_orNothing 1 (some .int) ∈ kg_U := tw_m (i := 255) (by decide +kernel) (by decide +kernel)
set_option maxRecDepth 100000 in
theorem tw_256 : Cond.methodLink RL 63 yX4_kettleOf ∈ kg_U := tw_m (i := 256) (by decide +kernel) (by decide +kernel)
set_option maxRecDepth 100000 in
theorem tw_257 : Cond.instanceMethod yX4_kettleOf ∈ kg_U := tw_m (i := 257) (by decide +kernel) (by decide +kernel)
set_option maxRecDepth 100000 in
theorem tw_258 : Cond.selects RX4 yX4_kettleOf yX4_kettleOf ∈ kg_U := tw_m (i := 258) (by decide +kernel) (by decide +kernel)
set_option maxRecDepth 100000 in
theorem tw_259 : Cond.code yX4_kettleOf cX4_kettleOf 3 (some .int) ∈ kg_U := tw_m (i := 259) (by decide +kernel) (by decide +kernel)
set_option maxRecDepth 100000 in
theorem tw_260 : Cond.methodLink RX4 77 yX4_isKettle ∈ kg_U := tw_m (i := 260) (by decide +kernel) (by decide +kernel)
set_option maxRecDepth 100000 in
theorem tw_262 : Cond.instanceMethod yX4_isKettle ∈ kg_U := tw_m (i := 262) (by decide +kernel) (by decide +kernel)
set_option maxRecDepth 100000 in
theorem tw_263 : Cond.code yX4_isKettle cX4_isKettle 2 (some .boolean) ∈ kg_U := tw_m (i := 263) (by decide +kernel) (by decide +kernel)
set_option maxRecDepth 100000 in
theorem tw_264 : Cond.methodLink RX4 98 yX3_boils ∈ kg_U := tw_m (i := 264) (by decide +kernel) (by decide +kernel)
set_option maxRecDepth 100000 in
theorem tw_265 : Cond.instanceMethod yX3_boils ∈ kg_U := tw_m (i := 265) (by decide +kernel) (by decide +kernel)
set_option maxRecDepth 100000 in
theorem tw_266 : Cond.selects RX3 yX3_boils yX3_boils ∈ kg_U := tw_m (i := 266) (by decide +kernel) (by decide +kernel)
set_option maxRecDepth 100000 in
theorem tw_267 : Cond.code yX3_boils cX3_boils 2 (some .boolean) ∈ kg_U := tw_m (i := 267) (by decide +kernel) (by decide +kernel)
set_option maxRecDepth 100000 in
theorem tw_268 : Cond.methodLink RX3 106 yX3_heatUnder ∈ kg_U := tw_m (i := 268) (by decide +kernel) (by decide +kernel)
set_option maxRecDepth 100000 in
theorem tw_269 : Cond.instanceMethod yX3_heatUnder ∈ kg_U := tw_m (i := 269) (by decide +kernel) (by decide +kernel)
set_option maxRecDepth 100000 in
theorem tw_270 : Cond.selects RX3 yX3_heatUnder yX3_heatUnder ∈ kg_U := tw_m (i := 270) (by decide +kernel) (by decide +kernel)
set_option maxRecDepth 100000 in
theorem tw_271 : Cond.code yX3_heatUnder cX3_heatUnder 3 (some .int) ∈ kg_U := tw_m (i := 271) (by decide +kernel) (by decide +kernel)
set_option maxRecDepth 100000 in
theorem tw_272 : Cond.methodLink RX4 101 yX3_whistles ∈ kg_U := tw_m (i := 272) (by decide +kernel) (by decide +kernel)
set_option maxRecDepth 100000 in
theorem tw_273 : Cond.instanceMethod yX3_whistles ∈ kg_U := tw_m (i := 273) (by decide +kernel) (by decide +kernel)
set_option maxRecDepth 100000 in
theorem tw_274 : Cond.selects RX3 yX3_whistles yX3_whistles ∈ kg_U := tw_m (i := 274) (by decide +kernel) (by decide +kernel)
set_option maxRecDepth 100000 in
theorem tw_275 : Cond.code yX3_whistles cX3_whistles 2 (some .boolean) ∈ kg_U := tw_m (i := 275) (by decide +kernel) (by decide +kernel)
set_option maxRecDepth 100000 in
theorem tw_276 : Cond.methodLink RX3 110 yX3_whistlers ∈ kg_U := tw_m (i := 276) (by decide +kernel) (by decide +kernel)
set_option maxRecDepth 100000 in
theorem tw_277 : Cond.instanceMethod yX3_whistlers ∈ kg_U := tw_m (i := 277) (by decide +kernel) (by decide +kernel)
set_option maxRecDepth 100000 in
theorem tw_278 : Cond.selects RX3 yX3_whistlers yX3_whistlers ∈ kg_U := tw_m (i := 278) (by decide +kernel) (by decide +kernel)
set_option maxRecDepth 100000 in
theorem tw_279 : Cond.code yX3_whistlers cX3_whistlers 3 (some .int) ∈ kg_U := tw_m (i := 279) (by decide +kernel) (by decide +kernel)
set_option maxRecDepth 100000 in
theorem tw_280 : Cond.methodLink RX3 93 yX3_boils ∈ kg_U := tw_m (i := 280) (by decide +kernel) (by decide +kernel)
set_option maxRecDepth 100000 in
theorem tw_282 : Cond.static yX4_isIn ∈ kg_U := tw_m (i := 282) (by decide +kernel) (by decide +kernel)
set_option maxRecDepth 100000 in
theorem tw_283 : Cond.code yX4_isIn cX4_isIn 2 (some .boolean) ∈ kg_U := tw_m (i := 283) (by decide +kernel) (by decide +kernel)
set_option maxRecDepth 100000 in
theorem tw_284 : Cond.methodLink RX4 110 yJ6_bitCount_0f7a4 ∈ kg_U := tw_m (i := 284) (by decide +kernel) (by decide +kernel)
set_option maxRecDepth 100000 in
theorem tw_285 : Cond.static yJ6_bitCount_0f7a4 ∈ kg_U := tw_m (i := 285) (by decide +kernel) (by decide +kernel)
set_option maxRecDepth 100000 in
theorem tw_286 : Cond.code yJ6_bitCount_0f7a4 cJ6_bitCount_0f7a4 1 (some .int) ∈ kg_U := tw_m (i := 286) (by decide +kernel) (by decide +kernel)
set_option maxRecDepth 100000 in
theorem tw_287 : Cond.constant RJ6 265 (1431655765 : Int32) ∈ kg_U := tw_m (i := 287) (by decide +kernel) (by decide +kernel)
set_option maxRecDepth 100000 in
theorem tw_288 : Cond.constant RJ6 266 (858993459 : Int32) ∈ kg_U := tw_m (i := 288) (by decide +kernel) (by decide +kernel)
set_option maxRecDepth 100000 in
theorem tw_289 : Cond.constant RJ6 267 (252645135 : Int32) ∈ kg_U := tw_m (i := 289) (by decide +kernel) (by decide +kernel)
set_option maxRecDepth 100000 in
theorem tw_290 : Cond.methodLink RL 66 yX4_stoveOf ∈ kg_U := tw_m (i := 290) (by decide +kernel) (by decide +kernel)
set_option maxRecDepth 100000 in
theorem tw_291 : Cond.instanceMethod yX4_stoveOf ∈ kg_U := tw_m (i := 291) (by decide +kernel) (by decide +kernel)
set_option maxRecDepth 100000 in
theorem tw_292 : Cond.selects RX4 yX4_stoveOf yX4_stoveOf ∈ kg_U := tw_m (i := 292) (by decide +kernel) (by decide +kernel)
set_option maxRecDepth 100000 in
theorem tw_293 : Cond.code yX4_stoveOf cX4_stoveOf 3 (some .int) ∈ kg_U := tw_m (i := 293) (by decide +kernel) (by decide +kernel)
set_option maxRecDepth 100000 in
theorem tw_294 : Cond.methodLink RX4 130 yX4_isStove ∈ kg_U := tw_m (i := 294) (by decide +kernel) (by decide +kernel)
set_option maxRecDepth 100000 in
theorem tw_295 : Cond.static yX4_isStove ∈ kg_U := tw_m (i := 295) (by decide +kernel) (by decide +kernel)
set_option maxRecDepth 100000 in
theorem tw_296 : Cond.code yX4_isStove cX4_isStove 1 (some .boolean) ∈ kg_U := tw_m (i := 296) (by decide +kernel) (by decide +kernel)
set_option maxRecDepth 100000 in
theorem tw_297 : Cond.methodLink RX4 136 yX3_kettleOn ∈ kg_U := tw_m (i := 297) (by decide +kernel) (by decide +kernel)
set_option maxRecDepth 100000 in
theorem tw_298 : Cond.instanceMethod yX3_kettleOn ∈ kg_U := tw_m (i := 298) (by decide +kernel) (by decide +kernel)
set_option maxRecDepth 100000 in
theorem tw_299 : Cond.selects RX3 yX3_kettleOn yX3_kettleOn ∈ kg_U := tw_m (i := 299) (by decide +kernel) (by decide +kernel)
set_option maxRecDepth 100000 in
theorem tw_300 : Cond.code yX3_kettleOn cX3_kettleOn 3 (some .int) ∈ kg_U := tw_m (i := 300) (by decide +kernel) (by decide +kernel)
set_option maxRecDepth 100000 in
theorem tw_301 : Cond.methodLink RL 167 yX4_whistling ∈ kg_U := tw_m (i := 301) (by decide +kernel) (by decide +kernel)
set_option maxRecDepth 100000 in
theorem tw_302 : Cond.instanceMethod yX4_whistling ∈ kg_U := tw_m (i := 302) (by decide +kernel) (by decide +kernel)
set_option maxRecDepth 100000 in
theorem tw_303 : Cond.selects RX4 yX4_whistling yX4_whistling ∈ kg_U := tw_m (i := 303) (by decide +kernel) (by decide +kernel)
set_option maxRecDepth 100000 in
theorem tw_304 : Cond.code yX4_whistling cX4_whistling 1 (some .int) ∈ kg_U := tw_m (i := 304) (by decide +kernel) (by decide +kernel)
set_option maxRecDepth 100000 in
theorem tw_305 : Cond.methodLink RX4 142 yX3_whistlers ∈ kg_U := tw_m (i := 305) (by decide +kernel) (by decide +kernel)
set_option maxRecDepth 100000 in
theorem tw_306 : Cond.methodLink RL 170 yX4_harmony ∈ kg_U := tw_m (i := 306) (by decide +kernel) (by decide +kernel)
set_option maxRecDepth 100000 in
theorem tw_307 : Cond.instanceMethod yX4_harmony ∈ kg_U := tw_m (i := 307) (by decide +kernel) (by decide +kernel)
set_option maxRecDepth 100000 in
theorem tw_308 : Cond.selects RX4 yX4_harmony yX4_harmony ∈ kg_U := tw_m (i := 308) (by decide +kernel) (by decide +kernel)
set_option maxRecDepth 100000 in
theorem tw_309 : Cond.code yX4_harmony cX4_harmony 5 (some .int) ∈ kg_U := tw_m (i := 309) (by decide +kernel) (by decide +kernel)
set_option maxRecDepth 100000 in
theorem tw_310 : Cond.methodLink RX4 150 yX4_isIn ∈ kg_U := tw_m (i := 310) (by decide +kernel) (by decide +kernel)
set_option maxRecDepth 100000 in
theorem tw_311 : Cond.methodLink RX4 154 yX4_soundOf ∈ kg_U := tw_m (i := 311) (by decide +kernel) (by decide +kernel)
set_option maxRecDepth 100000 in
theorem tw_312 : Cond.static yX4_soundOf ∈ kg_U := tw_m (i := 312) (by decide +kernel) (by decide +kernel)
set_option maxRecDepth 100000 in
theorem tw_313 : Cond.code yX4_soundOf cX4_soundOf 3 (some .int) ∈ kg_U := tw_m (i := 313) (by decide +kernel) (by decide +kernel)
set_option maxRecDepth 100000 in
theorem tw_314 : Cond.methodLink RX4 311 yJ9_abs_0f7a4 ∈ kg_U := tw_m (i := 314) (by decide +kernel) (by decide +kernel)
set_option maxRecDepth 100000 in
theorem tw_315 : Cond.static yJ9_abs_0f7a4 ∈ kg_U := tw_m (i := 315) (by decide +kernel) (by decide +kernel)
set_option maxRecDepth 100000 in
theorem tw_316 : Cond.code yJ9_abs_0f7a4 cJ9_abs_0f7a4 1 (some .int) ∈ kg_U := tw_m (i := 316) (by decide +kernel) (by decide +kernel)
set_option maxRecDepth 100000 in
theorem tw_317 : Cond.fieldLink RX4 160 "KettleGuild" "SOUNDS" "[I" ∈ kg_U := tw_m (i := 317) (by decide +kernel) (by decide +kernel)
set_option maxRecDepth 100000 in
theorem tw_319 : Cond.methodLink RL 173 yX4_harmonyAgain ∈ kg_U := tw_m (i := 319) (by decide +kernel) (by decide +kernel)
set_option maxRecDepth 100000 in
theorem tw_320 : Cond.instanceMethod yX4_harmonyAgain ∈ kg_U := tw_m (i := 320) (by decide +kernel) (by decide +kernel)
set_option maxRecDepth 100000 in
theorem tw_321 : Cond.selects RX4 yX4_harmonyAgain yX4_harmonyAgain ∈ kg_U := tw_m (i := 321) (by decide +kernel) (by decide +kernel)
set_option maxRecDepth 100000 in
theorem tw_322 : Cond.code yX4_harmonyAgain cX4_harmonyAgain 5 (some .int) ∈ kg_U := tw_m (i := 322) (by decide +kernel) (by decide +kernel)
set_option maxRecDepth 100000 in
theorem tw_323 : Cond.methodLink RX4 157 yX3_whistledPitches ∈ kg_U := tw_m (i := 323) (by decide +kernel) (by decide +kernel)
set_option maxRecDepth 100000 in
theorem tw_324 : Cond.instanceMethod yX3_whistledPitches ∈ kg_U := tw_m (i := 324) (by decide +kernel) (by decide +kernel)
set_option maxRecDepth 100000 in
theorem tw_325 : Cond.selects RX3 yX3_whistledPitches yX3_whistledPitches ∈ kg_U := tw_m (i := 325) (by decide +kernel) (by decide +kernel)
set_option maxRecDepth 100000 in
theorem tw_326 : Cond.code yX3_whistledPitches cX3_whistledPitches 4 (some .int) ∈ kg_U := tw_m (i := 326) (by decide +kernel) (by decide +kernel)
set_option maxRecDepth 100000 in
theorem tw_327 : Cond.methodLink RL 142 yX4_boilsIn ∈ kg_U := tw_m (i := 327) (by decide +kernel) (by decide +kernel)
set_option maxRecDepth 100000 in
theorem tw_328 : Cond.instanceMethod yX4_boilsIn ∈ kg_U := tw_m (i := 328) (by decide +kernel) (by decide +kernel)
set_option maxRecDepth 100000 in
theorem tw_329 : Cond.selects RX4 yX4_boilsIn yX4_boilsIn ∈ kg_U := tw_m (i := 329) (by decide +kernel) (by decide +kernel)
set_option maxRecDepth 100000 in
theorem tw_330 : Cond.code yX4_boilsIn cX4_boilsIn 5 (some .int) ∈ kg_U := tw_m (i := 330) (by decide +kernel) (by decide +kernel)
set_option maxRecDepth 100000 in
theorem tw_331 : Cond.methodLink RX4 163 yX3_heatUnder ∈ kg_U := tw_m (i := 331) (by decide +kernel) (by decide +kernel)
set_option maxRecDepth 100000 in
theorem tw_332 : Cond.methodLink RX4 166 yJ9_min_7cf53 ∈ kg_U := tw_m (i := 332) (by decide +kernel) (by decide +kernel)
set_option maxRecDepth 100000 in
theorem tw_333 : Cond.static yJ9_min_7cf53 ∈ kg_U := tw_m (i := 333) (by decide +kernel) (by decide +kernel)
set_option maxRecDepth 100000 in
theorem tw_334 : Cond.code yJ9_min_7cf53 cJ9_min_7cf53 2 (some .int) ∈ kg_U := tw_m (i := 334) (by decide +kernel) (by decide +kernel)
set_option maxRecDepth 100000 in
theorem tw_335 : Cond.methodLink RL 145 yX4_boilsInAgain ∈ kg_U := tw_m (i := 335) (by decide +kernel) (by decide +kernel)
set_option maxRecDepth 100000 in
theorem tw_336 : Cond.instanceMethod yX4_boilsInAgain ∈ kg_U := tw_m (i := 336) (by decide +kernel) (by decide +kernel)
set_option maxRecDepth 100000 in
theorem tw_337 : Cond.selects RX4 yX4_boilsInAgain yX4_boilsInAgain ∈ kg_U := tw_m (i := 337) (by decide +kernel) (by decide +kernel)
set_option maxRecDepth 100000 in
theorem tw_338 : Cond.code yX4_boilsInAgain cX4_boilsInAgain 4 (some .int) ∈ kg_U := tw_m (i := 338) (by decide +kernel) (by decide +kernel)
set_option maxRecDepth 100000 in
theorem tw_339 : Cond.methodLink RL 148 yX4_dryIn ∈ kg_U := tw_m (i := 339) (by decide +kernel) (by decide +kernel)
set_option maxRecDepth 100000 in
theorem tw_340 : Cond.instanceMethod yX4_dryIn ∈ kg_U := tw_m (i := 340) (by decide +kernel) (by decide +kernel)
set_option maxRecDepth 100000 in
theorem tw_341 : Cond.selects RX4 yX4_dryIn yX4_dryIn ∈ kg_U := tw_m (i := 341) (by decide +kernel) (by decide +kernel)
set_option maxRecDepth 100000 in
theorem tw_342 : Cond.code yX4_dryIn cX4_dryIn 3 (some .int) ∈ kg_U := tw_m (i := 342) (by decide +kernel) (by decide +kernel)
set_option maxRecDepth 100000 in
theorem tw_343 : Cond.methodLink RX4 171 yX4_boilsIn ∈ kg_U := tw_m (i := 343) (by decide +kernel) (by decide +kernel)
set_option maxRecDepth 100000 in
theorem tw_344 : Cond.methodLink RX4 174 yJ9_max_7cf53 ∈ kg_U := tw_m (i := 344) (by decide +kernel) (by decide +kernel)
set_option maxRecDepth 100000 in
theorem tw_345 : Cond.static yJ9_max_7cf53 ∈ kg_U := tw_m (i := 345) (by decide +kernel) (by decide +kernel)
set_option maxRecDepth 100000 in
theorem tw_346 : Cond.code yJ9_max_7cf53 cJ9_max_7cf53 2 (some .int) ∈ kg_U := tw_m (i := 346) (by decide +kernel) (by decide +kernel)
set_option maxRecDepth 100000 in
theorem tw_347 : Cond.methodLink RL 176 yX4_bestPitch ∈ kg_U := tw_m (i := 347) (by decide +kernel) (by decide +kernel)
set_option maxRecDepth 100000 in
theorem tw_348 : Cond.instanceMethod yX4_bestPitch ∈ kg_U := tw_m (i := 348) (by decide +kernel) (by decide +kernel)
set_option maxRecDepth 100000 in
theorem tw_349 : Cond.selects RX4 yX4_bestPitch yX4_bestPitch ∈ kg_U := tw_m (i := 349) (by decide +kernel) (by decide +kernel)
set_option maxRecDepth 100000 in
theorem tw_350 : Cond.code yX4_bestPitch cX4_bestPitch 6 (some .int) ∈ kg_U := tw_m (i := 350) (by decide +kernel) (by decide +kernel)
set_option maxRecDepth 100000 in
theorem tw_351 : Cond.methodLink RX4 177 yX4_fitOf ∈ kg_U := tw_m (i := 351) (by decide +kernel) (by decide +kernel)
set_option maxRecDepth 100000 in
theorem tw_352 : Cond.static yX4_fitOf ∈ kg_U := tw_m (i := 352) (by decide +kernel) (by decide +kernel)
set_option maxRecDepth 100000 in
theorem tw_353 : Cond.code yX4_fitOf cX4_fitOf 4 (some .int) ∈ kg_U := tw_m (i := 353) (by decide +kernel) (by decide +kernel)
set_option maxRecDepth 100000 in
theorem tw_354 : Cond.methodLink RL 161 yX4_memberOf ∈ kg_U := tw_m (i := 354) (by decide +kernel) (by decide +kernel)
set_option maxRecDepth 100000 in
theorem tw_355 : Cond.instanceMethod yX4_memberOf ∈ kg_U := tw_m (i := 355) (by decide +kernel) (by decide +kernel)
set_option maxRecDepth 100000 in
theorem tw_356 : Cond.selects RX4 yX4_memberOf yX4_memberOf ∈ kg_U := tw_m (i := 356) (by decide +kernel) (by decide +kernel)
set_option maxRecDepth 100000 in
theorem tw_357 : Cond.code yX4_memberOf cX4_memberOf 3 (some .int) ∈ kg_U := tw_m (i := 357) (by decide +kernel) (by decide +kernel)
set_option maxRecDepth 100000 in
theorem tw_358 : Cond.methodLink RX4 180 yX4_isMember ∈ kg_U := tw_m (i := 358) (by decide +kernel) (by decide +kernel)
set_option maxRecDepth 100000 in
theorem tw_359 : Cond.static yX4_isMember ∈ kg_U := tw_m (i := 359) (by decide +kernel) (by decide +kernel)
set_option maxRecDepth 100000 in
theorem tw_360 : Cond.code yX4_isMember cX4_isMember 1 (some .boolean) ∈ kg_U := tw_m (i := 360) (by decide +kernel) (by decide +kernel)
set_option maxRecDepth 100000 in
theorem tw_361 : Cond.methodLink RX4 186 yX3_countPitchesOf ∈ kg_U := tw_m (i := 361) (by decide +kernel) (by decide +kernel)
set_option maxRecDepth 100000 in
theorem tw_362 : Cond.instanceMethod yX3_countPitchesOf ∈ kg_U := tw_m (i := 362) (by decide +kernel) (by decide +kernel)
set_option maxRecDepth 100000 in
theorem tw_363 : Cond.selects RX3 yX3_countPitchesOf yX3_countPitchesOf ∈ kg_U := tw_m (i := 363) (by decide +kernel) (by decide +kernel)
set_option maxRecDepth 100000 in
theorem tw_364 : Cond.code yX3_countPitchesOf cX3_countPitchesOf 4 (some .int) ∈ kg_U := tw_m (i := 364) (by decide +kernel) (by decide +kernel)
set_option maxRecDepth 100000 in
theorem tw_365 : Cond.methodLink RX4 189 yX3_countKettlesOf ∈ kg_U := tw_m (i := 365) (by decide +kernel) (by decide +kernel)
set_option maxRecDepth 100000 in
theorem tw_366 : Cond.instanceMethod yX3_countKettlesOf ∈ kg_U := tw_m (i := 366) (by decide +kernel) (by decide +kernel)
set_option maxRecDepth 100000 in
theorem tw_367 : Cond.selects RX3 yX3_countKettlesOf yX3_countKettlesOf ∈ kg_U := tw_m (i := 367) (by decide +kernel) (by decide +kernel)
set_option maxRecDepth 100000 in
theorem tw_368 : Cond.code yX3_countKettlesOf cX3_countKettlesOf 4 (some .int) ∈ kg_U := tw_m (i := 368) (by decide +kernel) (by decide +kernel)
set_option maxRecDepth 100000 in
theorem tw_369 : Cond.methodLink RX4 192 yX3_countWhistlersOf ∈ kg_U := tw_m (i := 369) (by decide +kernel) (by decide +kernel)
set_option maxRecDepth 100000 in
theorem tw_370 : Cond.instanceMethod yX3_countWhistlersOf ∈ kg_U := tw_m (i := 370) (by decide +kernel) (by decide +kernel)
set_option maxRecDepth 100000 in
theorem tw_371 : Cond.selects RX3 yX3_countWhistlersOf yX3_countWhistlersOf ∈ kg_U := tw_m (i := 371) (by decide +kernel) (by decide +kernel)
set_option maxRecDepth 100000 in
theorem tw_372 : Cond.code yX3_countWhistlersOf cX3_countWhistlersOf 5 (some .int) ∈ kg_U := tw_m (i := 372) (by decide +kernel) (by decide +kernel)
set_option maxRecDepth 100000 in
theorem tw_373 : Cond.methodLink RL 182 yX4_ranked ∈ kg_U := tw_m (i := 373) (by decide +kernel) (by decide +kernel)
set_option maxRecDepth 100000 in
theorem tw_374 : Cond.instanceMethod yX4_ranked ∈ kg_U := tw_m (i := 374) (by decide +kernel) (by decide +kernel)
set_option maxRecDepth 100000 in
theorem tw_375 : Cond.selects RX4 yX4_ranked yX4_ranked ∈ kg_U := tw_m (i := 375) (by decide +kernel) (by decide +kernel)
set_option maxRecDepth 100000 in
theorem tw_376 : Cond.code yX4_ranked cX4_ranked 3 (some .int) ∈ kg_U := tw_m (i := 376) (by decide +kernel) (by decide +kernel)
set_option maxRecDepth 100000 in
theorem tw_377 : Cond.methodLink RX4 201 yX4_countAheadOfMember ∈ kg_U := tw_m (i := 377) (by decide +kernel) (by decide +kernel)
set_option maxRecDepth 100000 in
theorem tw_379 : Cond.instanceMethod yX4_countAheadOfMember ∈ kg_U := tw_m (i := 379) (by decide +kernel) (by decide +kernel)
set_option maxRecDepth 100000 in
theorem tw_380 : Cond.code yX4_countAheadOfMember cX4_countAheadOfMember 4 (some .int) ∈ kg_U := tw_m (i := 380) (by decide +kernel) (by decide +kernel)
set_option maxRecDepth 100000 in
theorem tw_381 : Cond.methodLink RX4 317 yX4_isMemberAhead ∈ kg_U := tw_m (i := 381) (by decide +kernel) (by decide +kernel)
set_option maxRecDepth 100000 in
theorem tw_383 : Cond.instanceMethod yX4_isMemberAhead ∈ kg_U := tw_m (i := 383) (by decide +kernel) (by decide +kernel)
set_option maxRecDepth 100000 in
theorem tw_384 : Cond.code yX4_isMemberAhead cX4_isMemberAhead 5 (some .boolean) ∈ kg_U := tw_m (i := 384) (by decide +kernel) (by decide +kernel)
set_option maxRecDepth 100000 in
theorem tw_385 : Cond.methodLink RX4 320 yJ6_compare_7cf53 ∈ kg_U := tw_m (i := 385) (by decide +kernel) (by decide +kernel)
set_option maxRecDepth 100000 in
theorem tw_386 : Cond.static yJ6_compare_7cf53 ∈ kg_U := tw_m (i := 386) (by decide +kernel) (by decide +kernel)
set_option maxRecDepth 100000 in
theorem tw_387 : Cond.code yJ6_compare_7cf53 cJ6_compare_7cf53 2 (some .int) ∈ kg_U := tw_m (i := 387) (by decide +kernel) (by decide +kernel)
set_option maxRecDepth 100000 in
theorem tw_388 : Cond.methodLink RL 185 yX4_hottest ∈ kg_U := tw_m (i := 388) (by decide +kernel) (by decide +kernel)
set_option maxRecDepth 100000 in
theorem tw_389 : Cond.instanceMethod yX4_hottest ∈ kg_U := tw_m (i := 389) (by decide +kernel) (by decide +kernel)
set_option maxRecDepth 100000 in
theorem tw_390 : Cond.selects RX4 yX4_hottest yX4_hottest ∈ kg_U := tw_m (i := 390) (by decide +kernel) (by decide +kernel)
set_option maxRecDepth 100000 in
theorem tw_391 : Cond.code yX4_hottest cX4_hottest 3 (some .int) ∈ kg_U := tw_m (i := 391) (by decide +kernel) (by decide +kernel)
set_option maxRecDepth 100000 in
theorem tw_392 : Cond.methodLink RX4 204 yX4_countAheadOfKettle ∈ kg_U := tw_m (i := 392) (by decide +kernel) (by decide +kernel)
set_option maxRecDepth 100000 in
theorem tw_394 : Cond.instanceMethod yX4_countAheadOfKettle ∈ kg_U := tw_m (i := 394) (by decide +kernel) (by decide +kernel)
set_option maxRecDepth 100000 in
theorem tw_395 : Cond.code yX4_countAheadOfKettle cX4_countAheadOfKettle 4 (some .int) ∈ kg_U := tw_m (i := 395) (by decide +kernel) (by decide +kernel)
set_option maxRecDepth 100000 in
theorem tw_396 : Cond.methodLink RX4 323 yX4_isKettleAhead ∈ kg_U := tw_m (i := 396) (by decide +kernel) (by decide +kernel)
set_option maxRecDepth 100000 in
theorem tw_398 : Cond.instanceMethod yX4_isKettleAhead ∈ kg_U := tw_m (i := 398) (by decide +kernel) (by decide +kernel)
set_option maxRecDepth 100000 in
theorem tw_399 : Cond.code yX4_isKettleAhead cX4_isKettleAhead 5 (some .boolean) ∈ kg_U := tw_m (i := 399) (by decide +kernel) (by decide +kernel)
set_option maxRecDepth 100000 in
theorem tw_400 : Cond.methodLink RL 97 yX4_tell ∈ kg_U := tw_m (i := 400) (by decide +kernel) (by decide +kernel)
set_option maxRecDepth 100000 in
theorem tw_401 : Cond.instanceMethod yX4_tell ∈ kg_U := tw_m (i := 401) (by decide +kernel) (by decide +kernel)
set_option maxRecDepth 100000 in
theorem tw_402 : Cond.selects RX4 yX4_tell yX4_tell ∈ kg_U := tw_m (i := 402) (by decide +kernel) (by decide +kernel)
set_option maxRecDepth 100000 in
theorem tw_403 : Cond.code yX4_tell cX4_tell 2 (some .int) ∈ kg_U := tw_m (i := 403) (by decide +kernel) (by decide +kernel)
set_option maxRecDepth 100000 in
theorem tw_404 : Cond.methodLink RX4 232 yJ4_setLength_d00df ∈ kg_U := tw_m (i := 404) (by decide +kernel) (by decide +kernel)
set_option maxRecDepth 100000 in
theorem tw_405 : Cond.instanceMethod yJ4_setLength_d00df ∈ kg_U := tw_m (i := 405) (by decide +kernel) (by decide +kernel)
set_option maxRecDepth 100000 in
theorem tw_406 : Cond.selects RJ4 yJ4_setLength_d00df yJ4_setLength_d00df ∈ kg_U := tw_m (i := 406) (by decide +kernel) (by decide +kernel)
set_option maxRecDepth 100000 in
theorem tw_407 : Cond.code yJ4_setLength_d00df cJ4_setLength_d00df 2 none ∈ kg_U := tw_m (i := 407) (by decide +kernel) (by decide +kernel)
set_option maxRecDepth 100000 in
theorem tw_408 : Cond.methodLink RJ4 333 yJ5_setLength_d00df ∈ kg_U := tw_m (i := 408) (by decide +kernel) (by decide +kernel)
set_option maxRecDepth 100000 in
theorem tw_409 : Cond.instanceMethod yJ5_setLength_d00df ∈ kg_U := tw_m (i := 409) (by decide +kernel) (by decide +kernel)
set_option maxRecDepth 100000 in
theorem tw_410 : Cond.code yJ5_setLength_d00df cJ5_setLength_d00df 2 none ∈ kg_U := tw_m (i := 410) (by decide +kernel) (by decide +kernel)
set_option maxRecDepth 100000 in
theorem tw_411 : Cond.methodLink RJ5 100 yJ5_ensureCapacityInternal_d00df ∈ kg_U := tw_m (i := 411) (by decide +kernel) (by decide +kernel)
set_option maxRecDepth 100000 in
theorem tw_413 : Cond.instanceMethod yJ5_ensureCapacityInternal_d00df ∈ kg_U := tw_m (i := 413) (by decide +kernel) (by decide +kernel)
set_option maxRecDepth 100000 in
theorem tw_414 : Cond.code yJ5_ensureCapacityInternal_d00df cJ5_ensureCapacityInternal_d00df 3 none ∈ kg_U := tw_m (i := 414) (by decide +kernel) (by decide +kernel)
set_option maxRecDepth 100000 in
theorem tw_415 : Cond.methodLink RJ5 104 yJ5_newCapacity_0f7a4 ∈ kg_U := tw_m (i := 415) (by decide +kernel) (by decide +kernel)
set_option maxRecDepth 100000 in
theorem tw_417 : Cond.instanceMethod yJ5_newCapacity_0f7a4 ∈ kg_U := tw_m (i := 417) (by decide +kernel) (by decide +kernel)
set_option maxRecDepth 100000 in
theorem tw_418 : Cond.code yJ5_newCapacity_0f7a4 cJ5_newCapacity_0f7a4 6 (some .int) ∈ kg_U := tw_m (i := 418) (by decide +kernel) (by decide +kernel)
set_option maxRecDepth 100000 in
theorem tw_419 : Cond.methodLink RJ5 114 yJ8_newLength_cabcc ∈ kg_U := tw_m (i := 419) (by decide +kernel) (by decide +kernel)
set_option maxRecDepth 100000 in
theorem tw_420 : Cond.static yJ8_newLength_cabcc ∈ kg_U := tw_m (i := 420) (by decide +kernel) (by decide +kernel)
set_option maxRecDepth 100000 in
theorem tw_421 : Cond.code yJ8_newLength_cabcc cJ8_newLength_cabcc 4 (some .int) ∈ kg_U := tw_m (i := 421) (by decide +kernel) (by decide +kernel)
set_option maxRecDepth 100000 in
theorem tw_422 : Cond.methodLink RJ8 194 yJ9_max_7cf53 ∈ kg_U := tw_m (i := 422) (by decide +kernel) (by decide +kernel)
set_option maxRecDepth 100000 in
theorem tw_423 : Cond.constant RJ8 200 (2147483639 : Int32) ∈ kg_U := tw_m (i := 423) (by decide +kernel) (by decide +kernel)
set_option maxRecDepth 100000 in
theorem tw_424 : Cond.methodLink RJ8 201 yJ8_hugeLength_7cf53 ∈ kg_U := tw_m (i := 424) (by decide +kernel) (by decide +kernel)
set_option maxRecDepth 100000 in
theorem tw_425 : Cond.static yJ8_hugeLength_7cf53 ∈ kg_U := tw_m (i := 425) (by decide +kernel) (by decide +kernel)
set_option maxRecDepth 100000 in
theorem tw_426 : Cond.code yJ8_hugeLength_7cf53 cJ8_hugeLength_7cf53 3 (some .int) ∈ kg_U := tw_m (i := 426) (by decide +kernel) (by decide +kernel)
set_option maxRecDepth 100000 in
theorem tw_427 : Cond.constant RJ5 39 (2147483647 : Int32) ∈ kg_U := tw_m (i := 427) (by decide +kernel) (by decide +kernel)
set_option maxRecDepth 100000 in
theorem tw_428 : Cond.methodLink RJ5 108 yJ7_copyOf_9075b ∈ kg_U := tw_m (i := 428) (by decide +kernel) (by decide +kernel)
set_option maxRecDepth 100000 in
theorem tw_429 : Cond.static yJ7_copyOf_9075b ∈ kg_U := tw_m (i := 429) (by decide +kernel) (by decide +kernel)
set_option maxRecDepth 100000 in
theorem tw_430 : Cond.code yJ7_copyOf_9075b cJ7_copyOf_9075b 3 (some (.array .byte)) ∈ kg_U := tw_m (i := 430) (by decide +kernel) (by decide +kernel)
set_option maxRecDepth 100000 in
theorem tw_431 : Cond.methodLink RJ7 310 (⟨"[B", "clone", "()Ljava/lang/Object;"⟩ : MethodName) ∈ kg_U := tw_m (i := 431) (by decide +kernel) (by decide +kernel)
set_option maxRecDepth 100000 in
theorem tw_432 : Cond.sameMethod "[B" "java/lang/Object" "clone" "()Ljava/lang/Object;" ∈ kg_U := tw_m (i := 432) (by decide +kernel) (by decide +kernel)
set_option maxRecDepth 100000 in
theorem tw_433 : Cond.native (⟨"java/lang/Object", "clone", "()Ljava/lang/Object;"⟩ : MethodName) ∈ kg_U := tw_m (i := 433) (by decide +kernel) (by decide +kernel)
set_option maxRecDepth 100000 in
theorem tw_434 : Cond.instanceMethod (⟨"java/lang/Object", "clone", "()Ljava/lang/Object;"⟩ : MethodName) ∈ kg_U := tw_m (i := 434) (by decide +kernel) (by decide +kernel)
set_option maxRecDepth 100000 in
theorem tw_435 : Cond.selects "[B" (⟨"[B", "clone", "()Ljava/lang/Object;"⟩ : MethodName) (⟨"java/lang/Object", "clone", "()Ljava/lang/Object;"⟩ : MethodName) ∈ kg_U := tw_m (i := 435) (by decide +kernel) (by decide +kernel)
set_option maxRecDepth 100000 in
theorem tw_437 : Cond.classLink RJ7 311 "[B" ∈ kg_U := tw_m (i := 437) (by decide +kernel) (by decide +kernel)
set_option maxRecDepth 100000 in
theorem tw_438 : Cond.methodLink RJ7 304 yJ9_min_7cf53 ∈ kg_U := tw_m (i := 438) (by decide +kernel) (by decide +kernel)
set_option maxRecDepth 100000 in
theorem tw_439 : Cond.methodLink RJ7 150 (⟨"java/lang/System", "arraycopy", "(Ljava/lang/Object;ILjava/lang/Object;II)V"⟩ : MethodName) ∈ kg_U := tw_m (i := 439) (by decide +kernel) (by decide +kernel)
set_option maxRecDepth 100000 in
theorem tw_440 : Cond.static (⟨"java/lang/System", "arraycopy", "(Ljava/lang/Object;ILjava/lang/Object;II)V"⟩ : MethodName) ∈ kg_U := tw_m (i := 440) (by decide +kernel) (by decide +kernel)
set_option maxRecDepth 100000 in
theorem tw_441 : Cond.native (⟨"java/lang/System", "arraycopy", "(Ljava/lang/Object;ILjava/lang/Object;II)V"⟩ : MethodName) ∈ kg_U := tw_m (i := 441) (by decide +kernel) (by decide +kernel)
set_option maxRecDepth 100000 in
theorem tw_442 : Cond.methodLink RJ5 83 yJ5_isLatin1_aae02 ∈ kg_U := tw_m (i := 442) (by decide +kernel) (by decide +kernel)
set_option maxRecDepth 100000 in
theorem tw_443 : Cond.instanceMethod yJ5_isLatin1_aae02 ∈ kg_U := tw_m (i := 443) (by decide +kernel) (by decide +kernel)
set_option maxRecDepth 100000 in
theorem tw_444 : Cond.sameMethod RJ5 RJ5 "isLatin1" "()Z" ∈ kg_U := tw_m (i := 444) (by decide +kernel) (by decide +kernel)
set_option maxRecDepth 100000 in
theorem tw_445 : Cond.selects RJ4 yJ5_isLatin1_aae02 yJ5_isLatin1_aae02 ∈ kg_U := tw_m (i := 445) (by decide +kernel) (by decide +kernel)
set_option maxRecDepth 100000 in
theorem tw_446 : Cond.code yJ5_isLatin1_aae02 cJ5_isLatin1_aae02 1 (some .boolean) ∈ kg_U := tw_m (i := 446) (by decide +kernel) (by decide +kernel)
set_option maxRecDepth 100000 in
theorem tw_447 : Cond.methodLink RJ5 133 yJ1_fillNull_b72d1 ∈ kg_U := tw_m (i := 447) (by decide +kernel) (by decide +kernel)
set_option maxRecDepth 100000 in
theorem tw_448 : Cond.static yJ1_fillNull_b72d1 ∈ kg_U := tw_m (i := 448) (by decide +kernel) (by decide +kernel)
set_option maxRecDepth 100000 in
theorem tw_449 : Cond.code yJ1_fillNull_b72d1 cJ1_fillNull_b72d1 3 none ∈ kg_U := tw_m (i := 449) (by decide +kernel) (by decide +kernel)
set_option maxRecDepth 100000 in
theorem tw_450 : Cond.methodLink RJ1 236 yJ7_fill_eb02e ∈ kg_U := tw_m (i := 450) (by decide +kernel) (by decide +kernel)
set_option maxRecDepth 100000 in
theorem tw_451 : Cond.static yJ7_fill_eb02e ∈ kg_U := tw_m (i := 451) (by decide +kernel) (by decide +kernel)
set_option maxRecDepth 100000 in
theorem tw_452 : Cond.code yJ7_fill_eb02e cJ7_fill_eb02e 5 none ∈ kg_U := tw_m (i := 452) (by decide +kernel) (by decide +kernel)
set_option maxRecDepth 100000 in
theorem tw_453 : Cond.methodLink RJ7 13 yJ7_rangeCheck_23922 ∈ kg_U := tw_m (i := 453) (by decide +kernel) (by decide +kernel)
set_option maxRecDepth 100000 in
theorem tw_454 : Cond.static yJ7_rangeCheck_23922 ∈ kg_U := tw_m (i := 454) (by decide +kernel) (by decide +kernel)
set_option maxRecDepth 100000 in
theorem tw_455 : Cond.code yJ7_rangeCheck_23922 cJ7_rangeCheck_23922 3 none ∈ kg_U := tw_m (i := 455) (by decide +kernel) (by decide +kernel)
set_option maxRecDepth 100000 in
theorem tw_456 : Cond.methodLink RJ5 137 yJ2_fillNull_b72d1 ∈ kg_U := tw_m (i := 456) (by decide +kernel) (by decide +kernel)
set_option maxRecDepth 100000 in
theorem tw_457 : Cond.static yJ2_fillNull_b72d1 ∈ kg_U := tw_m (i := 457) (by decide +kernel) (by decide +kernel)
set_option maxRecDepth 100000 in
theorem tw_458 : Cond.code yJ2_fillNull_b72d1 cJ2_fillNull_b72d1 3 none ∈ kg_U := tw_m (i := 458) (by decide +kernel) (by decide +kernel)
set_option maxRecDepth 100000 in
theorem tw_459 : Cond.methodLink RJ2 380 yJ7_fill_eb02e ∈ kg_U := tw_m (i := 459) (by decide +kernel) (by decide +kernel)
set_option maxRecDepth 100000 in
theorem tw_460 : Cond.methodLink RX4 236 yJ4_append_bf812 ∈ kg_U := tw_m (i := 460) (by decide +kernel) (by decide +kernel)
set_option maxRecDepth 100000 in
theorem tw_461 : Cond.instanceMethod yJ4_append_bf812 ∈ kg_U := tw_m (i := 461) (by decide +kernel) (by decide +kernel)
set_option maxRecDepth 100000 in
theorem tw_462 : Cond.selects RJ4 yJ4_append_bf812 yJ4_append_bf812 ∈ kg_U := tw_m (i := 462) (by decide +kernel) (by decide +kernel)
set_option maxRecDepth 100000 in
theorem tw_463 : Cond.code yJ4_append_bf812 cJ4_append_bf812 2 (some (.object "java/lang/StringBuilder")) ∈ kg_U := tw_m (i := 463) (by decide +kernel) (by decide +kernel)
set_option maxRecDepth 100000 in
theorem tw_464 : Cond.methodLink RJ4 53 yJ5_append_c97b9 ∈ kg_U := tw_m (i := 464) (by decide +kernel) (by decide +kernel)
set_option maxRecDepth 100000 in
theorem tw_465 : Cond.instanceMethod yJ5_append_c97b9 ∈ kg_U := tw_m (i := 465) (by decide +kernel) (by decide +kernel)
set_option maxRecDepth 100000 in
theorem tw_466 : Cond.code yJ5_append_c97b9 cJ5_append_c97b9 4 (some (.object "java/lang/AbstractStringBuilder")) ∈ kg_U := tw_m (i := 466) (by decide +kernel) (by decide +kernel)
set_option maxRecDepth 100000 in
theorem tw_467 : Cond.methodLink RJ5 245 yJ6_stringSize_0f7a4 ∈ kg_U := tw_m (i := 467) (by decide +kernel) (by decide +kernel)
set_option maxRecDepth 100000 in
theorem tw_468 : Cond.static yJ6_stringSize_0f7a4 ∈ kg_U := tw_m (i := 468) (by decide +kernel) (by decide +kernel)
set_option maxRecDepth 100000 in
theorem tw_469 : Cond.code yJ6_stringSize_0f7a4 cJ6_stringSize_0f7a4 4 (some .int) ∈ kg_U := tw_m (i := 469) (by decide +kernel) (by decide +kernel)
set_option maxRecDepth 100000 in
theorem tw_470 : Cond.methodLink RJ5 248 yJ6_getChars_ba4f3 ∈ kg_U := tw_m (i := 470) (by decide +kernel) (by decide +kernel)
set_option maxRecDepth 100000 in
theorem tw_471 : Cond.static yJ6_getChars_ba4f3 ∈ kg_U := tw_m (i := 471) (by decide +kernel) (by decide +kernel)
set_option maxRecDepth 100000 in
theorem tw_472 : Cond.code yJ6_getChars_ba4f3 cJ6_getChars_ba4f3 7 (some .int) ∈ kg_U := tw_m (i := 472) (by decide +kernel) (by decide +kernel)
set_option maxRecDepth 100000 in
theorem tw_473 : Cond.fieldLink RJ6 83 "java/lang/Integer" "DigitOnes" "[B" ∈ kg_U := tw_m (i := 473) (by decide +kernel) (by decide +kernel)
set_option maxRecDepth 100000 in
theorem tw_475 : Cond.fieldLink RJ6 87 "java/lang/Integer" "DigitTens" "[B" ∈ kg_U := tw_m (i := 475) (by decide +kernel) (by decide +kernel)
set_option maxRecDepth 100000 in
theorem tw_477 : Cond.methodLink RJ5 251 yJ2_getChars_46870 ∈ kg_U := tw_m (i := 477) (by decide +kernel) (by decide +kernel)
set_option maxRecDepth 100000 in
theorem tw_478 : Cond.static yJ2_getChars_46870 ∈ kg_U := tw_m (i := 478) (by decide +kernel) (by decide +kernel)
set_option maxRecDepth 100000 in
theorem tw_479 : Cond.code yJ2_getChars_46870 cJ2_getChars_46870 5 (some .int) ∈ kg_U := tw_m (i := 479) (by decide +kernel) (by decide +kernel)
set_option maxRecDepth 100000 in
theorem tw_480 : Cond.methodLink RJ2 96 yJ2_checkBoundsBeginEnd_d044e ∈ kg_U := tw_m (i := 480) (by decide +kernel) (by decide +kernel)
set_option maxRecDepth 100000 in
theorem tw_481 : Cond.static yJ2_checkBoundsBeginEnd_d044e ∈ kg_U := tw_m (i := 481) (by decide +kernel) (by decide +kernel)
set_option maxRecDepth 100000 in
theorem tw_482 : Cond.code yJ2_checkBoundsBeginEnd_d044e cJ2_checkBoundsBeginEnd_d044e 3 none ∈ kg_U := tw_m (i := 482) (by decide +kernel) (by decide +kernel)
set_option maxRecDepth 100000 in
theorem tw_483 : Cond.methodLink RJ2 48 yJ2_length_9d52b ∈ kg_U := tw_m (i := 483) (by decide +kernel) (by decide +kernel)
set_option maxRecDepth 100000 in
theorem tw_484 : Cond.static yJ2_length_9d52b ∈ kg_U := tw_m (i := 484) (by decide +kernel) (by decide +kernel)
set_option maxRecDepth 100000 in
theorem tw_485 : Cond.code yJ2_length_9d52b cJ2_length_9d52b 1 (some .int) ∈ kg_U := tw_m (i := 485) (by decide +kernel) (by decide +kernel)
set_option maxRecDepth 100000 in
theorem tw_486 : Cond.methodLink RJ2 241 yJ0_checkBoundsBeginEnd_23922 ∈ kg_U := tw_m (i := 486) (by decide +kernel) (by decide +kernel)
set_option maxRecDepth 100000 in
theorem tw_487 : Cond.static yJ0_checkBoundsBeginEnd_23922 ∈ kg_U := tw_m (i := 487) (by decide +kernel) (by decide +kernel)
set_option maxRecDepth 100000 in
theorem tw_488 : Cond.code yJ0_checkBoundsBeginEnd_23922 cJ0_checkBoundsBeginEnd_23922 3 none ∈ kg_U := tw_m (i := 488) (by decide +kernel) (by decide +kernel)
set_option maxRecDepth 100000 in
theorem tw_489 : Cond.fieldLink RJ0 1053 "jdk/internal/util/Preconditions" "SIOOBE_FORMATTER" "Ljava/util/function/BiFunction;" ∈ kg_U := tw_m (i := 489) (by decide +kernel) (by decide +kernel)
set_option maxRecDepth 100000 in
theorem tw_491 : Cond.methodLink RJ0 1062 yJ3_checkFromToIndex_8c36e ∈ kg_U := tw_m (i := 491) (by decide +kernel) (by decide +kernel)
set_option maxRecDepth 100000 in
theorem tw_492 : Cond.static yJ3_checkFromToIndex_8c36e ∈ kg_U := tw_m (i := 492) (by decide +kernel) (by decide +kernel)
set_option maxRecDepth 100000 in
theorem tw_493 : Cond.code yJ3_checkFromToIndex_8c36e cJ3_checkFromToIndex_8c36e 4 (some .int) ∈ kg_U := tw_m (i := 493) (by decide +kernel) (by decide +kernel)
set_option maxRecDepth 100000 in
theorem tw_494 : Cond.methodLink RJ2 393 yJ2_getChars_ba4f3 ∈ kg_U := tw_m (i := 494) (by decide +kernel) (by decide +kernel)
set_option maxRecDepth 100000 in
theorem tw_495 : Cond.static yJ2_getChars_ba4f3 ∈ kg_U := tw_m (i := 495) (by decide +kernel) (by decide +kernel)
set_option maxRecDepth 100000 in
theorem tw_496 : Cond.code yJ2_getChars_ba4f3 cJ2_getChars_ba4f3 7 (some .int) ∈ kg_U := tw_m (i := 496) (by decide +kernel) (by decide +kernel)
set_option maxRecDepth 100000 in
theorem tw_497 : Cond.fieldLink RJ2 403 "java/lang/Integer" "DigitOnes" "[B" ∈ kg_U := tw_m (i := 497) (by decide +kernel) (by decide +kernel)
set_option maxRecDepth 100000 in
theorem tw_498 : Cond.methodLink RJ2 111 yJ2_putChar_b72d1 ∈ kg_U := tw_m (i := 498) (by decide +kernel) (by decide +kernel)
set_option maxRecDepth 100000 in
theorem tw_499 : Cond.static yJ2_putChar_b72d1 ∈ kg_U := tw_m (i := 499) (by decide +kernel) (by decide +kernel)
set_option maxRecDepth 100000 in
theorem tw_500 : Cond.code yJ2_putChar_b72d1 cJ2_putChar_b72d1 3 none ∈ kg_U := tw_m (i := 500) (by decide +kernel) (by decide +kernel)
set_option maxRecDepth 100000 in
theorem tw_501 : Cond.fieldLink RJ2 44 "java/lang/StringUTF16" "$assertionsDisabled" "Z" ∈ kg_U := tw_m (i := 501) (by decide +kernel) (by decide +kernel)
set_option maxRecDepth 100000 in
theorem tw_503 : Cond.fieldLink RJ2 59 "java/lang/StringUTF16" "HI_BYTE_SHIFT" "I" ∈ kg_U := tw_m (i := 503) (by decide +kernel) (by decide +kernel)
set_option maxRecDepth 100000 in
theorem tw_505 : Cond.fieldLink RJ2 63 "java/lang/StringUTF16" "LO_BYTE_SHIFT" "I" ∈ kg_U := tw_m (i := 505) (by decide +kernel) (by decide +kernel)
set_option maxRecDepth 100000 in
theorem tw_507 : Cond.fieldLink RJ2 407 "java/lang/Integer" "DigitTens" "[B" ∈ kg_U := tw_m (i := 507) (by decide +kernel) (by decide +kernel)
set_option maxRecDepth 100000 in
theorem tw_508 : Cond.methodLink RX4 240 yJ4_append_cf468 ∈ kg_U := tw_m (i := 508) (by decide +kernel) (by decide +kernel)
set_option maxRecDepth 100000 in
theorem tw_509 : Cond.instanceMethod yJ4_append_cf468 ∈ kg_U := tw_m (i := 509) (by decide +kernel) (by decide +kernel)
set_option maxRecDepth 100000 in
theorem tw_510 : Cond.selects RJ4 yJ4_append_cf468 yJ4_append_cf468 ∈ kg_U := tw_m (i := 510) (by decide +kernel) (by decide +kernel)
set_option maxRecDepth 100000 in
theorem tw_511 : Cond.code yJ4_append_cf468 cJ4_append_cf468 2 (some (.object "java/lang/StringBuilder")) ∈ kg_U := tw_m (i := 511) (by decide +kernel) (by decide +kernel)
set_option maxRecDepth 100000 in
theorem tw_512 : Cond.methodLink RJ4 50 yJ5_append_3fe6f ∈ kg_U := tw_m (i := 512) (by decide +kernel) (by decide +kernel)
set_option maxRecDepth 100000 in
theorem tw_513 : Cond.instanceMethod yJ5_append_3fe6f ∈ kg_U := tw_m (i := 513) (by decide +kernel) (by decide +kernel)
set_option maxRecDepth 100000 in
theorem tw_514 : Cond.code yJ5_append_3fe6f cJ5_append_3fe6f 2 (some (.object "java/lang/AbstractStringBuilder")) ∈ kg_U := tw_m (i := 514) (by decide +kernel) (by decide +kernel)
set_option maxRecDepth 100000 in
theorem tw_515 : Cond.methodLink RJ5 191 yJ1_canEncode_fc78d ∈ kg_U := tw_m (i := 515) (by decide +kernel) (by decide +kernel)
set_option maxRecDepth 100000 in
theorem tw_516 : Cond.static yJ1_canEncode_fc78d ∈ kg_U := tw_m (i := 516) (by decide +kernel) (by decide +kernel)
set_option maxRecDepth 100000 in
theorem tw_517 : Cond.code yJ1_canEncode_fc78d cJ1_canEncode_fc78d 1 (some .boolean) ∈ kg_U := tw_m (i := 517) (by decide +kernel) (by decide +kernel)
set_option maxRecDepth 100000 in
theorem tw_518 : Cond.methodLink RJ5 195 yJ5_inflate_da8c8 ∈ kg_U := tw_m (i := 518) (by decide +kernel) (by decide +kernel)
set_option maxRecDepth 100000 in
theorem tw_520 : Cond.instanceMethod yJ5_inflate_da8c8 ∈ kg_U := tw_m (i := 520) (by decide +kernel) (by decide +kernel)
set_option maxRecDepth 100000 in
theorem tw_521 : Cond.code yJ5_inflate_da8c8 cJ5_inflate_da8c8 2 none ∈ kg_U := tw_m (i := 521) (by decide +kernel) (by decide +kernel)
set_option maxRecDepth 100000 in
theorem tw_522 : Cond.methodLink RJ5 125 yJ1_inflate_0e8fd ∈ kg_U := tw_m (i := 522) (by decide +kernel) (by decide +kernel)
set_option maxRecDepth 100000 in
theorem tw_523 : Cond.static yJ1_inflate_0e8fd ∈ kg_U := tw_m (i := 523) (by decide +kernel) (by decide +kernel)
set_option maxRecDepth 100000 in
theorem tw_524 : Cond.code yJ1_inflate_0e8fd cJ1_inflate_0e8fd 5 none ∈ kg_U := tw_m (i := 524) (by decide +kernel) (by decide +kernel)
set_option maxRecDepth 100000 in
theorem tw_525 : Cond.methodLink RJ1 240 yJ2_inflate_0e8fd ∈ kg_U := tw_m (i := 525) (by decide +kernel) (by decide +kernel)
set_option maxRecDepth 100000 in
theorem tw_526 : Cond.static yJ2_inflate_0e8fd ∈ kg_U := tw_m (i := 526) (by decide +kernel) (by decide +kernel)
set_option maxRecDepth 100000 in
theorem tw_527 : Cond.code yJ2_inflate_0e8fd cJ2_inflate_0e8fd 6 none ∈ kg_U := tw_m (i := 527) (by decide +kernel) (by decide +kernel)
set_option maxRecDepth 100000 in
theorem tw_528 : Cond.methodLink RJ2 173 yJ2_checkBoundsOffCount_d044e ∈ kg_U := tw_m (i := 528) (by decide +kernel) (by decide +kernel)
set_option maxRecDepth 100000 in
theorem tw_529 : Cond.static yJ2_checkBoundsOffCount_d044e ∈ kg_U := tw_m (i := 529) (by decide +kernel) (by decide +kernel)
set_option maxRecDepth 100000 in
theorem tw_530 : Cond.code yJ2_checkBoundsOffCount_d044e cJ2_checkBoundsOffCount_d044e 3 none ∈ kg_U := tw_m (i := 530) (by decide +kernel) (by decide +kernel)
set_option maxRecDepth 100000 in
theorem tw_531 : Cond.methodLink RJ2 419 yJ0_checkBoundsOffCount_cabcc ∈ kg_U := tw_m (i := 531) (by decide +kernel) (by decide +kernel)
set_option maxRecDepth 100000 in
theorem tw_532 : Cond.static yJ0_checkBoundsOffCount_cabcc ∈ kg_U := tw_m (i := 532) (by decide +kernel) (by decide +kernel)
set_option maxRecDepth 100000 in
theorem tw_533 : Cond.code yJ0_checkBoundsOffCount_cabcc cJ0_checkBoundsOffCount_cabcc 3 (some .int) ∈ kg_U := tw_m (i := 533) (by decide +kernel) (by decide +kernel)
set_option maxRecDepth 100000 in
theorem tw_534 : Cond.methodLink RJ0 1065 yJ3_checkFromIndexSize_8c36e ∈ kg_U := tw_m (i := 534) (by decide +kernel) (by decide +kernel)
set_option maxRecDepth 100000 in
theorem tw_535 : Cond.static yJ3_checkFromIndexSize_8c36e ∈ kg_U := tw_m (i := 535) (by decide +kernel) (by decide +kernel)
set_option maxRecDepth 100000 in
theorem tw_536 : Cond.code yJ3_checkFromIndexSize_8c36e cJ3_checkFromIndexSize_8c36e 4 (some .int) ∈ kg_U := tw_m (i := 536) (by decide +kernel) (by decide +kernel)
set_option maxRecDepth 100000 in
theorem tw_537 : Cond.methodLink RJ5 197 yJ2_putCharSB_b72d1 ∈ kg_U := tw_m (i := 537) (by decide +kernel) (by decide +kernel)
set_option maxRecDepth 100000 in
theorem tw_538 : Cond.static yJ2_putCharSB_b72d1 ∈ kg_U := tw_m (i := 538) (by decide +kernel) (by decide +kernel)
set_option maxRecDepth 100000 in
theorem tw_539 : Cond.code yJ2_putCharSB_b72d1 cJ2_putCharSB_b72d1 3 none ∈ kg_U := tw_m (i := 539) (by decide +kernel) (by decide +kernel)
set_option maxRecDepth 100000 in
theorem tw_540 : Cond.methodLink RJ2 67 yJ2_checkIndex_2214a ∈ kg_U := tw_m (i := 540) (by decide +kernel) (by decide +kernel)
set_option maxRecDepth 100000 in
theorem tw_541 : Cond.static yJ2_checkIndex_2214a ∈ kg_U := tw_m (i := 541) (by decide +kernel) (by decide +kernel)
set_option maxRecDepth 100000 in
theorem tw_542 : Cond.code yJ2_checkIndex_2214a cJ2_checkIndex_2214a 2 none ∈ kg_U := tw_m (i := 542) (by decide +kernel) (by decide +kernel)
set_option maxRecDepth 100000 in
theorem tw_543 : Cond.methodLink RJ2 414 yJ0_checkIndex_df160 ∈ kg_U := tw_m (i := 543) (by decide +kernel) (by decide +kernel)
set_option maxRecDepth 100000 in
theorem tw_544 : Cond.static yJ0_checkIndex_df160 ∈ kg_U := tw_m (i := 544) (by decide +kernel) (by decide +kernel)
set_option maxRecDepth 100000 in
theorem tw_545 : Cond.code yJ0_checkIndex_df160 cJ0_checkIndex_df160 2 none ∈ kg_U := tw_m (i := 545) (by decide +kernel) (by decide +kernel)
set_option maxRecDepth 100000 in
theorem tw_546 : Cond.methodLink RJ0 1059 yJ3_checkIndex_8e157 ∈ kg_U := tw_m (i := 546) (by decide +kernel) (by decide +kernel)
set_option maxRecDepth 100000 in
theorem tw_547 : Cond.static yJ3_checkIndex_8e157 ∈ kg_U := tw_m (i := 547) (by decide +kernel) (by decide +kernel)
set_option maxRecDepth 100000 in
theorem tw_548 : Cond.code yJ3_checkIndex_8e157 cJ3_checkIndex_8e157 3 (some .int) ∈ kg_U := tw_m (i := 548) (by decide +kernel) (by decide +kernel)
set_option maxRecDepth 100000 in
theorem tw_549 : Cond.methodLink RX4 243 yX4_tellSigns ∈ kg_U := tw_m (i := 549) (by decide +kernel) (by decide +kernel)
set_option maxRecDepth 100000 in
theorem tw_551 : Cond.instanceMethod yX4_tellSigns ∈ kg_U := tw_m (i := 551) (by decide +kernel) (by decide +kernel)
set_option maxRecDepth 100000 in
theorem tw_552 : Cond.code yX4_tellSigns cX4_tellSigns 2 none ∈ kg_U := tw_m (i := 552) (by decide +kernel) (by decide +kernel)
set_option maxRecDepth 100000 in
theorem tw_553 : Cond.methodLink RX4 246 yJ4_length_8abf5 ∈ kg_U := tw_m (i := 553) (by decide +kernel) (by decide +kernel)
set_option maxRecDepth 100000 in
theorem tw_554 : Cond.instanceMethod yJ4_length_8abf5 ∈ kg_U := tw_m (i := 554) (by decide +kernel) (by decide +kernel)
set_option maxRecDepth 100000 in
theorem tw_555 : Cond.selects RJ4 yJ4_length_8abf5 yJ4_length_8abf5 ∈ kg_U := tw_m (i := 555) (by decide +kernel) (by decide +kernel)
set_option maxRecDepth 100000 in
theorem tw_556 : Cond.code yJ4_length_8abf5 cJ4_length_8abf5 1 (some .int) ∈ kg_U := tw_m (i := 556) (by decide +kernel) (by decide +kernel)
set_option maxRecDepth 100000 in
theorem tw_557 : Cond.methodLink RJ4 343 yJ5_length_8abf5 ∈ kg_U := tw_m (i := 557) (by decide +kernel) (by decide +kernel)
set_option maxRecDepth 100000 in
theorem tw_558 : Cond.instanceMethod yJ5_length_8abf5 ∈ kg_U := tw_m (i := 558) (by decide +kernel) (by decide +kernel)
set_option maxRecDepth 100000 in
theorem tw_559 : Cond.code yJ5_length_8abf5 cJ5_length_8abf5 1 (some .int) ∈ kg_U := tw_m (i := 559) (by decide +kernel) (by decide +kernel)
set_option maxRecDepth 100000 in
theorem tw_560 : Cond.methodLink RL 164 yX4_tellStoves ∈ kg_U := tw_m (i := 560) (by decide +kernel) (by decide +kernel)
set_option maxRecDepth 100000 in
theorem tw_561 : Cond.instanceMethod yX4_tellStoves ∈ kg_U := tw_m (i := 561) (by decide +kernel) (by decide +kernel)
set_option maxRecDepth 100000 in
theorem tw_562 : Cond.selects RX4 yX4_tellStoves yX4_tellStoves ∈ kg_U := tw_m (i := 562) (by decide +kernel) (by decide +kernel)
set_option maxRecDepth 100000 in
theorem tw_563 : Cond.code yX4_tellStoves cX4_tellStoves 3 (some .int) ∈ kg_U := tw_m (i := 563) (by decide +kernel) (by decide +kernel)
set_option maxRecDepth 100000 in
theorem tw_564 : Cond.methodLink RL 45 yX4_account ∈ kg_U := tw_m (i := 564) (by decide +kernel) (by decide +kernel)
set_option maxRecDepth 100000 in
theorem tw_565 : Cond.instanceMethod yX4_account ∈ kg_U := tw_m (i := 565) (by decide +kernel) (by decide +kernel)
set_option maxRecDepth 100000 in
theorem tw_566 : Cond.selects RX4 yX4_account yX4_account ∈ kg_U := tw_m (i := 566) (by decide +kernel) (by decide +kernel)
set_option maxRecDepth 100000 in
theorem tw_567 : Cond.code yX4_account cX4_account 2 (some .int) ∈ kg_U := tw_m (i := 567) (by decide +kernel) (by decide +kernel)
set_option maxRecDepth 100000 in
theorem tw_568 : Cond.methodLink RX4 259 yX3_countOnStoves ∈ kg_U := tw_m (i := 568) (by decide +kernel) (by decide +kernel)
set_option maxRecDepth 100000 in
theorem tw_569 : Cond.instanceMethod yX3_countOnStoves ∈ kg_U := tw_m (i := 569) (by decide +kernel) (by decide +kernel)
set_option maxRecDepth 100000 in
theorem tw_570 : Cond.selects RX3 yX3_countOnStoves yX3_countOnStoves ∈ kg_U := tw_m (i := 570) (by decide +kernel) (by decide +kernel)
set_option maxRecDepth 100000 in
theorem tw_571 : Cond.code yX3_countOnStoves cX3_countOnStoves 3 (some .int) ∈ kg_U := tw_m (i := 571) (by decide +kernel) (by decide +kernel)
set_option maxRecDepth 100000 in
theorem tw_572 : Cond.methodLink RX4 262 yX3_countBoiling ∈ kg_U := tw_m (i := 572) (by decide +kernel) (by decide +kernel)
set_option maxRecDepth 100000 in
theorem tw_573 : Cond.instanceMethod yX3_countBoiling ∈ kg_U := tw_m (i := 573) (by decide +kernel) (by decide +kernel)
set_option maxRecDepth 100000 in
theorem tw_574 : Cond.selects RX3 yX3_countBoiling yX3_countBoiling ∈ kg_U := tw_m (i := 574) (by decide +kernel) (by decide +kernel)
set_option maxRecDepth 100000 in
theorem tw_575 : Cond.code yX3_countBoiling cX3_countBoiling 3 (some .int) ∈ kg_U := tw_m (i := 575) (by decide +kernel) (by decide +kernel)
set_option maxRecDepth 100000 in
theorem tw_576 : Cond.methodLink RX4 265 yX3_countLidsOn ∈ kg_U := tw_m (i := 576) (by decide +kernel) (by decide +kernel)
set_option maxRecDepth 100000 in
theorem tw_577 : Cond.instanceMethod yX3_countLidsOn ∈ kg_U := tw_m (i := 577) (by decide +kernel) (by decide +kernel)
set_option maxRecDepth 100000 in
theorem tw_578 : Cond.selects RX3 yX3_countLidsOn yX3_countLidsOn ∈ kg_U := tw_m (i := 578) (by decide +kernel) (by decide +kernel)
set_option maxRecDepth 100000 in
theorem tw_579 : Cond.code yX3_countLidsOn cX3_countLidsOn 3 (some .int) ∈ kg_U := tw_m (i := 579) (by decide +kernel) (by decide +kernel)
set_option maxRecDepth 100000 in
theorem tw_580 : Cond.methodLink RX4 268 yX3_countLidsBarred ∈ kg_U := tw_m (i := 580) (by decide +kernel) (by decide +kernel)
set_option maxRecDepth 100000 in
theorem tw_581 : Cond.instanceMethod yX3_countLidsBarred ∈ kg_U := tw_m (i := 581) (by decide +kernel) (by decide +kernel)
set_option maxRecDepth 100000 in
theorem tw_582 : Cond.selects RX3 yX3_countLidsBarred yX3_countLidsBarred ∈ kg_U := tw_m (i := 582) (by decide +kernel) (by decide +kernel)
set_option maxRecDepth 100000 in
theorem tw_583 : Cond.code yX3_countLidsBarred cX3_countLidsBarred 3 (some .int) ∈ kg_U := tw_m (i := 583) (by decide +kernel) (by decide +kernel)
set_option maxRecDepth 100000 in
theorem tw_584 : Cond.methodLink RX4 274 yX3_sumWater ∈ kg_U := tw_m (i := 584) (by decide +kernel) (by decide +kernel)
set_option maxRecDepth 100000 in
theorem tw_585 : Cond.instanceMethod yX3_sumWater ∈ kg_U := tw_m (i := 585) (by decide +kernel) (by decide +kernel)
set_option maxRecDepth 100000 in
theorem tw_586 : Cond.selects RX3 yX3_sumWater yX3_sumWater ∈ kg_U := tw_m (i := 586) (by decide +kernel) (by decide +kernel)
set_option maxRecDepth 100000 in
theorem tw_587 : Cond.code yX3_sumWater cX3_sumWater 3 (some .int) ∈ kg_U := tw_m (i := 587) (by decide +kernel) (by decide +kernel)
set_option maxRecDepth 100000 in
theorem tw_588 : Cond.methodLink RX4 283 yX4_sumOf ∈ kg_U := tw_m (i := 588) (by decide +kernel) (by decide +kernel)
set_option maxRecDepth 100000 in
theorem tw_589 : Cond.static yX4_sumOf ∈ kg_U := tw_m (i := 589) (by decide +kernel) (by decide +kernel)
set_option maxRecDepth 100000 in
theorem tw_590 : Cond.code yX4_sumOf cX4_sumOf 6 (some .int) ∈ kg_U := tw_m (i := 590) (by decide +kernel) (by decide +kernel)
set_option maxRecDepth 100000 in
theorem tw_591 : Cond.methodLink RL 179 yX4_isBalanced ∈ kg_U := tw_m (i := 591) (by decide +kernel) (by decide +kernel)
set_option maxRecDepth 100000 in
theorem tw_592 : Cond.instanceMethod yX4_isBalanced ∈ kg_U := tw_m (i := 592) (by decide +kernel) (by decide +kernel)
set_option maxRecDepth 100000 in
theorem tw_593 : Cond.selects RX4 yX4_isBalanced yX4_isBalanced ∈ kg_U := tw_m (i := 593) (by decide +kernel) (by decide +kernel)
set_option maxRecDepth 100000 in
theorem tw_594 : Cond.code yX4_isBalanced cX4_isBalanced 3 (some .int) ∈ kg_U := tw_m (i := 594) (by decide +kernel) (by decide +kernel)
set_option maxRecDepth 100000 in
theorem tw_595 : Cond.methodLink RX4 288 yX4_harmony ∈ kg_U := tw_m (i := 595) (by decide +kernel) (by decide +kernel)
set_option maxRecDepth 100000 in
theorem tw_596 : Cond.methodLink RX4 291 yX4_harmonyAgain ∈ kg_U := tw_m (i := 596) (by decide +kernel) (by decide +kernel)
set_option maxRecDepth 100000 in
theorem tw_597 : Cond.methodLink RX4 294 yX4_isBoilingSame ∈ kg_U := tw_m (i := 597) (by decide +kernel) (by decide +kernel)
set_option maxRecDepth 100000 in
theorem tw_599 : Cond.instanceMethod yX4_isBoilingSame ∈ kg_U := tw_m (i := 599) (by decide +kernel) (by decide +kernel)
set_option maxRecDepth 100000 in
theorem tw_600 : Cond.code yX4_isBoilingSame cX4_isBoilingSame 2 (some .boolean) ∈ kg_U := tw_m (i := 600) (by decide +kernel) (by decide +kernel)
set_option maxRecDepth 100000 in
theorem tw_601 : Cond.methodLink RX4 314 yX4_boilsInAgain ∈ kg_U := tw_m (i := 601) (by decide +kernel) (by decide +kernel)
set_option maxRecDepth 100000 in
theorem tw_602 : Cond.methodLink RX4 298 yX3_hasPitchOnTwoStoves ∈ kg_U := tw_m (i := 602) (by decide +kernel) (by decide +kernel)
set_option maxRecDepth 100000 in
theorem tw_603 : Cond.instanceMethod yX3_hasPitchOnTwoStoves ∈ kg_U := tw_m (i := 603) (by decide +kernel) (by decide +kernel)
set_option maxRecDepth 100000 in
theorem tw_604 : Cond.selects RX3 yX3_hasPitchOnTwoStoves yX3_hasPitchOnTwoStoves ∈ kg_U := tw_m (i := 604) (by decide +kernel) (by decide +kernel)
set_option maxRecDepth 100000 in
theorem tw_605 : Cond.code yX3_hasPitchOnTwoStoves cX3_hasPitchOnTwoStoves 3 (some .boolean) ∈ kg_U := tw_m (i := 605) (by decide +kernel) (by decide +kernel)
set_option maxRecDepth 100000 in
theorem tw_606 : Cond.methodLink RL 188 yX4_meanWater ∈ kg_U := tw_m (i := 606) (by decide +kernel) (by decide +kernel)
set_option maxRecDepth 100000 in
theorem tw_607 : Cond.instanceMethod yX4_meanWater ∈ kg_U := tw_m (i := 607) (by decide +kernel) (by decide +kernel)
set_option maxRecDepth 100000 in
theorem tw_608 : Cond.selects RX4 yX4_meanWater yX4_meanWater ∈ kg_U := tw_m (i := 608) (by decide +kernel) (by decide +kernel)
set_option maxRecDepth 100000 in
theorem tw_609 : Cond.code yX4_meanWater cX4_meanWater 1 (some .double) ∈ kg_U := tw_m (i := 609) (by decide +kernel) (by decide +kernel)
set_option maxRecDepth 100000 in
theorem tw_610 : Cond.methodLink RL 192 yX4_whistleShare ∈ kg_U := tw_m (i := 610) (by decide +kernel) (by decide +kernel)
set_option maxRecDepth 100000 in
theorem tw_611 : Cond.instanceMethod yX4_whistleShare ∈ kg_U := tw_m (i := 611) (by decide +kernel) (by decide +kernel)
set_option maxRecDepth 100000 in
theorem tw_612 : Cond.selects RX4 yX4_whistleShare yX4_whistleShare ∈ kg_U := tw_m (i := 612) (by decide +kernel) (by decide +kernel)
set_option maxRecDepth 100000 in
theorem tw_613 : Cond.code yX4_whistleShare cX4_whistleShare 2 (some .float) ∈ kg_U := tw_m (i := 613) (by decide +kernel) (by decide +kernel)
set_option maxRecDepth 100000 in
theorem tw_614 : Cond.methodLink RL 89 yL_build ∈ kg_U := tw_m (i := 614) (by decide +kernel) (by decide +kernel)
set_option maxRecDepth 100000 in
theorem tw_615 : Cond.static yL_build ∈ kg_U := tw_m (i := 615) (by decide +kernel) (by decide +kernel)
set_option maxRecDepth 100000 in
theorem tw_616 : Cond.code yL_build cL_build 5 none ∈ kg_U := tw_m (i := 616) (by decide +kernel) (by decide +kernel)
set_option maxRecDepth 100000 in
theorem tw_617 : Cond.methodLink RL 13 yL_some ∈ kg_U := tw_m (i := 617) (by decide +kernel) (by decide +kernel)
set_option maxRecDepth 100000 in
theorem tw_618 : Cond.static yL_some ∈ kg_U := tw_m (i := 618) (by decide +kernel) (by decide +kernel)
set_option maxRecDepth 100000 in
theorem tw_619 : Cond.code yL_some cL_some 3 (some .int) ∈ kg_U := tw_m (i := 619) (by decide +kernel) (by decide +kernel)
set_option maxRecDepth 100000 in
theorem tw_620 : Cond.methodLink RL 7 yL_cell ∈ kg_U := tw_m (i := 620) (by decide +kernel) (by decide +kernel)
set_option maxRecDepth 100000 in
theorem tw_621 : Cond.static yL_cell ∈ kg_U := tw_m (i := 621) (by decide +kernel) (by decide +kernel)
set_option maxRecDepth 100000 in
theorem tw_622 : Cond.code yL_cell cL_cell 2 (some .int) ∈ kg_U := tw_m (i := 622) (by decide +kernel) (by decide +kernel)
set_option maxRecDepth 100000 in
theorem tw_623 : Cond.methodLink RL 17 yX4_own ∈ kg_U := tw_m (i := 623) (by decide +kernel) (by decide +kernel)
set_option maxRecDepth 100000 in
theorem tw_624 : Cond.instanceMethod yX4_own ∈ kg_U := tw_m (i := 624) (by decide +kernel) (by decide +kernel)
set_option maxRecDepth 100000 in
theorem tw_625 : Cond.selects RX4 yX4_own yX4_own ∈ kg_U := tw_m (i := 625) (by decide +kernel) (by decide +kernel)
set_option maxRecDepth 100000 in
theorem tw_626 : Cond.code yX4_own cX4_own 3 (some .int) ∈ kg_U := tw_m (i := 626) (by decide +kernel) (by decide +kernel)
set_option maxRecDepth 100000 in
theorem tw_627 : Cond.methodLink RX4 47 yX0_begin ∈ kg_U := tw_m (i := 627) (by decide +kernel) (by decide +kernel)
set_option maxRecDepth 100000 in
theorem tw_628 : Cond.instanceMethod yX0_begin ∈ kg_U := tw_m (i := 628) (by decide +kernel) (by decide +kernel)
set_option maxRecDepth 100000 in
theorem tw_629 : Cond.selects RX0 yX0_begin yX0_begin ∈ kg_U := tw_m (i := 629) (by decide +kernel) (by decide +kernel)
set_option maxRecDepth 100000 in
theorem tw_630 : Cond.code yX0_begin cX0_begin 2 none ∈ kg_U := tw_m (i := 630) (by decide +kernel) (by decide +kernel)
set_option maxRecDepth 100000 in
theorem tw_631 : Cond.methodLink RX0 22 yX3_copyFrom ∈ kg_U := tw_m (i := 631) (by decide +kernel) (by decide +kernel)
set_option maxRecDepth 100000 in
theorem tw_632 : Cond.instanceMethod yX3_copyFrom ∈ kg_U := tw_m (i := 632) (by decide +kernel) (by decide +kernel)
set_option maxRecDepth 100000 in
theorem tw_633 : Cond.selects RX3 yX3_copyFrom yX3_copyFrom ∈ kg_U := tw_m (i := 633) (by decide +kernel) (by decide +kernel)
set_option maxRecDepth 100000 in
theorem tw_634 : Cond.code yX3_copyFrom cX3_copyFrom 2 none ∈ kg_U := tw_m (i := 634) (by decide +kernel) (by decide +kernel)
set_option maxRecDepth 100000 in
theorem tw_635 : Cond.methodLink RX3 60 yX3_copyRow ∈ kg_U := tw_m (i := 635) (by decide +kernel) (by decide +kernel)
set_option maxRecDepth 100000 in
theorem tw_636 : Cond.static yX3_copyRow ∈ kg_U := tw_m (i := 636) (by decide +kernel) (by decide +kernel)
set_option maxRecDepth 100000 in
theorem tw_637 : Cond.code yX3_copyRow cX3_copyRow 2 none ∈ kg_U := tw_m (i := 637) (by decide +kernel) (by decide +kernel)
set_option maxRecDepth 100000 in
theorem tw_638 : Cond.methodLink RX3 77 yJ9_min_7cf53 ∈ kg_U := tw_m (i := 638) (by decide +kernel) (by decide +kernel)
set_option maxRecDepth 100000 in
theorem tw_639 : Cond.methodLink RX3 83 (⟨"java/lang/System", "arraycopy", "(Ljava/lang/Object;ILjava/lang/Object;II)V"⟩ : MethodName) ∈ kg_U := tw_m (i := 639) (by decide +kernel) (by decide +kernel)
set_option maxRecDepth 100000 in
theorem tw_640 : Cond.methodLink RX4 51 yX4_takePitch ∈ kg_U := tw_m (i := 640) (by decide +kernel) (by decide +kernel)
set_option maxRecDepth 100000 in
theorem tw_642 : Cond.instanceMethod yX4_takePitch ∈ kg_U := tw_m (i := 642) (by decide +kernel) (by decide +kernel)
set_option maxRecDepth 100000 in
theorem tw_643 : Cond.code yX4_takePitch cX4_takePitch 4 (some .int) ∈ kg_U := tw_m (i := 643) (by decide +kernel) (by decide +kernel)
set_option maxRecDepth 100000 in
theorem tw_644 : Cond.methodLink RX4 329 yX4_refuse ∈ kg_U := tw_m (i := 644) (by decide +kernel) (by decide +kernel)
set_option maxRecDepth 100000 in
theorem tw_646 : Cond.instanceMethod yX4_refuse ∈ kg_U := tw_m (i := 646) (by decide +kernel) (by decide +kernel)
set_option maxRecDepth 100000 in
theorem tw_647 : Cond.code yX4_refuse cX4_refuse 3 (some .int) ∈ kg_U := tw_m (i := 647) (by decide +kernel) (by decide +kernel)
set_option maxRecDepth 100000 in
theorem tw_648 : Cond.methodLink RX4 359 yX2_putAhead ∈ kg_U := tw_m (i := 648) (by decide +kernel) (by decide +kernel)
set_option maxRecDepth 100000 in
theorem tw_649 : Cond.instanceMethod yX2_putAhead ∈ kg_U := tw_m (i := 649) (by decide +kernel) (by decide +kernel)
set_option maxRecDepth 100000 in
theorem tw_650 : Cond.selects RX2 yX2_putAhead yX2_putAhead ∈ kg_U := tw_m (i := 650) (by decide +kernel) (by decide +kernel)
set_option maxRecDepth 100000 in
theorem tw_651 : Cond.code yX2_putAhead cX2_putAhead 4 none ∈ kg_U := tw_m (i := 651) (by decide +kernel) (by decide +kernel)
set_option maxRecDepth 100000 in
theorem tw_652 : Cond.methodLink RX2 22 yJ9_min_7cf53 ∈ kg_U := tw_m (i := 652) (by decide +kernel) (by decide +kernel)
set_option maxRecDepth 100000 in
theorem tw_653 : Cond.methodLink RX4 55 yX4_settle ∈ kg_U := tw_m (i := 653) (by decide +kernel) (by decide +kernel)
set_option maxRecDepth 100000 in
theorem tw_655 : Cond.instanceMethod yX4_settle ∈ kg_U := tw_m (i := 655) (by decide +kernel) (by decide +kernel)
set_option maxRecDepth 100000 in
theorem tw_656 : Cond.code yX4_settle cX4_settle 2 (some .int) ∈ kg_U := tw_m (i := 656) (by decide +kernel) (by decide +kernel)
set_option maxRecDepth 100000 in
theorem tw_657 : Cond.methodLink RX4 326 yX0_keepBegun ∈ kg_U := tw_m (i := 657) (by decide +kernel) (by decide +kernel)
set_option maxRecDepth 100000 in
theorem tw_658 : Cond.instanceMethod yX0_keepBegun ∈ kg_U := tw_m (i := 658) (by decide +kernel) (by decide +kernel)
set_option maxRecDepth 100000 in
theorem tw_659 : Cond.selects RX0 yX0_keepBegun yX0_keepBegun ∈ kg_U := tw_m (i := 659) (by decide +kernel) (by decide +kernel)
set_option maxRecDepth 100000 in
theorem tw_660 : Cond.code yX0_keepBegun cX0_keepBegun 1 none ∈ kg_U := tw_m (i := 660) (by decide +kernel) (by decide +kernel)
set_option maxRecDepth 100000 in
theorem tw_661 : Cond.methodLink RX0 29 yJ9_min_7cf53 ∈ kg_U := tw_m (i := 661) (by decide +kernel) (by decide +kernel)
set_option maxRecDepth 100000 in
theorem tw_662 : Cond.methodLink RL 23 yL_brings ∈ kg_U := tw_m (i := 662) (by decide +kernel) (by decide +kernel)
set_option maxRecDepth 100000 in
theorem tw_663 : Cond.static yL_brings ∈ kg_U := tw_m (i := 663) (by decide +kernel) (by decide +kernel)
set_option maxRecDepth 100000 in
theorem tw_664 : Cond.code yL_brings cL_brings 5 (some .int) ∈ kg_U := tw_m (i := 664) (by decide +kernel) (by decide +kernel)
set_option maxRecDepth 100000 in
theorem tw_665 : Cond.methodLink RL 41 yX4_kettle ∈ kg_U := tw_m (i := 665) (by decide +kernel) (by decide +kernel)
set_option maxRecDepth 100000 in
theorem tw_666 : Cond.instanceMethod yX4_kettle ∈ kg_U := tw_m (i := 666) (by decide +kernel) (by decide +kernel)
set_option maxRecDepth 100000 in
theorem tw_667 : Cond.selects RX4 yX4_kettle yX4_kettle ∈ kg_U := tw_m (i := 667) (by decide +kernel) (by decide +kernel)
set_option maxRecDepth 100000 in
theorem tw_668 : Cond.code yX4_kettle cX4_kettle 4 (some .int) ∈ kg_U := tw_m (i := 668) (by decide +kernel) (by decide +kernel)
set_option maxRecDepth 100000 in
theorem tw_669 : Cond.methodLink RX4 70 yX4_bringKettle ∈ kg_U := tw_m (i := 669) (by decide +kernel) (by decide +kernel)
set_option maxRecDepth 100000 in
theorem tw_671 : Cond.instanceMethod yX4_bringKettle ∈ kg_U := tw_m (i := 671) (by decide +kernel) (by decide +kernel)
set_option maxRecDepth 100000 in
theorem tw_672 : Cond.code yX4_bringKettle cX4_bringKettle 4 (some .int) ∈ kg_U := tw_m (i := 672) (by decide +kernel) (by decide +kernel)
set_option maxRecDepth 100000 in
theorem tw_673 : Cond.methodLink RX4 332 yX3_addKettle ∈ kg_U := tw_m (i := 673) (by decide +kernel) (by decide +kernel)
set_option maxRecDepth 100000 in
theorem tw_674 : Cond.instanceMethod yX3_addKettle ∈ kg_U := tw_m (i := 674) (by decide +kernel) (by decide +kernel)
set_option maxRecDepth 100000 in
theorem tw_675 : Cond.selects RX3 yX3_addKettle yX3_addKettle ∈ kg_U := tw_m (i := 675) (by decide +kernel) (by decide +kernel)
set_option maxRecDepth 100000 in
theorem tw_676 : Cond.code yX3_addKettle cX3_addKettle 5 (some .int) ∈ kg_U := tw_m (i := 676) (by decide +kernel) (by decide +kernel)
set_option maxRecDepth 100000 in
theorem tw_677 : Cond.methodLink RL 27 yX4_heat ∈ kg_U := tw_m (i := 677) (by decide +kernel) (by decide +kernel)
set_option maxRecDepth 100000 in
theorem tw_678 : Cond.instanceMethod yX4_heat ∈ kg_U := tw_m (i := 678) (by decide +kernel) (by decide +kernel)
set_option maxRecDepth 100000 in
theorem tw_679 : Cond.selects RX4 yX4_heat yX4_heat ∈ kg_U := tw_m (i := 679) (by decide +kernel) (by decide +kernel)
set_option maxRecDepth 100000 in
theorem tw_680 : Cond.code yX4_heat cX4_heat 3 (some .int) ∈ kg_U := tw_m (i := 680) (by decide +kernel) (by decide +kernel)
set_option maxRecDepth 100000 in
theorem tw_681 : Cond.methodLink RX4 121 yX4_turnStove ∈ kg_U := tw_m (i := 681) (by decide +kernel) (by decide +kernel)
set_option maxRecDepth 100000 in
theorem tw_683 : Cond.instanceMethod yX4_turnStove ∈ kg_U := tw_m (i := 683) (by decide +kernel) (by decide +kernel)
set_option maxRecDepth 100000 in
theorem tw_684 : Cond.code yX4_turnStove cX4_turnStove 4 (some .int) ∈ kg_U := tw_m (i := 684) (by decide +kernel) (by decide +kernel)
set_option maxRecDepth 100000 in
theorem tw_685 : Cond.methodLink RL 30 yX4_set ∈ kg_U := tw_m (i := 685) (by decide +kernel) (by decide +kernel)
set_option maxRecDepth 100000 in
theorem tw_686 : Cond.instanceMethod yX4_set ∈ kg_U := tw_m (i := 686) (by decide +kernel) (by decide +kernel)
set_option maxRecDepth 100000 in
theorem tw_687 : Cond.selects RX4 yX4_set yX4_set ∈ kg_U := tw_m (i := 687) (by decide +kernel) (by decide +kernel)
set_option maxRecDepth 100000 in
theorem tw_688 : Cond.code yX4_set cX4_set 3 (some .int) ∈ kg_U := tw_m (i := 688) (by decide +kernel) (by decide +kernel)
set_option maxRecDepth 100000 in
theorem tw_689 : Cond.methodLink RX4 115 yX4_putOnStove ∈ kg_U := tw_m (i := 689) (by decide +kernel) (by decide +kernel)
set_option maxRecDepth 100000 in
theorem tw_691 : Cond.instanceMethod yX4_putOnStove ∈ kg_U := tw_m (i := 691) (by decide +kernel) (by decide +kernel)
set_option maxRecDepth 100000 in
theorem tw_692 : Cond.code yX4_putOnStove cX4_putOnStove 5 (some .int) ∈ kg_U := tw_m (i := 692) (by decide +kernel) (by decide +kernel)
set_option maxRecDepth 100000 in
theorem tw_693 : Cond.methodLink RX4 335 yX4_refuseStove ∈ kg_U := tw_m (i := 693) (by decide +kernel) (by decide +kernel)
set_option maxRecDepth 100000 in
theorem tw_695 : Cond.instanceMethod yX4_refuseStove ∈ kg_U := tw_m (i := 695) (by decide +kernel) (by decide +kernel)
set_option maxRecDepth 100000 in
theorem tw_696 : Cond.code yX4_refuseStove cX4_refuseStove 4 (some .int) ∈ kg_U := tw_m (i := 696) (by decide +kernel) (by decide +kernel)
set_option maxRecDepth 100000 in
theorem tw_697 : Cond.methodLink RX4 338 yX3_stoveWithPitch ∈ kg_U := tw_m (i := 697) (by decide +kernel) (by decide +kernel)
set_option maxRecDepth 100000 in
theorem tw_698 : Cond.instanceMethod yX3_stoveWithPitch ∈ kg_U := tw_m (i := 698) (by decide +kernel) (by decide +kernel)
set_option maxRecDepth 100000 in
theorem tw_699 : Cond.selects RX3 yX3_stoveWithPitch yX3_stoveWithPitch ∈ kg_U := tw_m (i := 699) (by decide +kernel) (by decide +kernel)
set_option maxRecDepth 100000 in
theorem tw_700 : Cond.code yX3_stoveWithPitch cX3_stoveWithPitch 3 (some .int) ∈ kg_U := tw_m (i := 700) (by decide +kernel) (by decide +kernel)
set_option maxRecDepth 100000 in
theorem tw_701 : Cond.methodLink RL 33 yL_acts ∈ kg_U := tw_m (i := 701) (by decide +kernel) (by decide +kernel)
set_option maxRecDepth 100000 in
theorem tw_702 : Cond.static yL_acts ∈ kg_U := tw_m (i := 702) (by decide +kernel) (by decide +kernel)
set_option maxRecDepth 100000 in
theorem tw_703 : Cond.code yL_acts cL_acts 8 none ∈ kg_U := tw_m (i := 703) (by decide +kernel) (by decide +kernel)
set_option maxRecDepth 100000 in
theorem tw_704 : Cond.methodLink RL 48 yX4_off ∈ kg_U := tw_m (i := 704) (by decide +kernel) (by decide +kernel)
set_option maxRecDepth 100000 in
theorem tw_705 : Cond.instanceMethod yX4_off ∈ kg_U := tw_m (i := 705) (by decide +kernel) (by decide +kernel)
set_option maxRecDepth 100000 in
theorem tw_706 : Cond.selects RX4 yX4_off yX4_off ∈ kg_U := tw_m (i := 706) (by decide +kernel) (by decide +kernel)
set_option maxRecDepth 100000 in
theorem tw_707 : Cond.code yX4_off cX4_off 2 (some .int) ∈ kg_U := tw_m (i := 707) (by decide +kernel) (by decide +kernel)
set_option maxRecDepth 100000 in
theorem tw_708 : Cond.methodLink RX4 118 yX4_takeOffStove ∈ kg_U := tw_m (i := 708) (by decide +kernel) (by decide +kernel)
set_option maxRecDepth 100000 in
theorem tw_710 : Cond.instanceMethod yX4_takeOffStove ∈ kg_U := tw_m (i := 710) (by decide +kernel) (by decide +kernel)
set_option maxRecDepth 100000 in
theorem tw_711 : Cond.code yX4_takeOffStove cX4_takeOffStove 3 (some .int) ∈ kg_U := tw_m (i := 711) (by decide +kernel) (by decide +kernel)
set_option maxRecDepth 100000 in
theorem tw_712 : Cond.methodLink RL 51 yX4_fill ∈ kg_U := tw_m (i := 712) (by decide +kernel) (by decide +kernel)
set_option maxRecDepth 100000 in
theorem tw_713 : Cond.instanceMethod yX4_fill ∈ kg_U := tw_m (i := 713) (by decide +kernel) (by decide +kernel)
set_option maxRecDepth 100000 in
theorem tw_714 : Cond.selects RX4 yX4_fill yX4_fill ∈ kg_U := tw_m (i := 714) (by decide +kernel) (by decide +kernel)
set_option maxRecDepth 100000 in
theorem tw_715 : Cond.code yX4_fill cX4_fill 3 (some .int) ∈ kg_U := tw_m (i := 715) (by decide +kernel) (by decide +kernel)
set_option maxRecDepth 100000 in
theorem tw_716 : Cond.methodLink RX4 74 yX4_pourWater ∈ kg_U := tw_m (i := 716) (by decide +kernel) (by decide +kernel)
set_option maxRecDepth 100000 in
theorem tw_718 : Cond.instanceMethod yX4_pourWater ∈ kg_U := tw_m (i := 718) (by decide +kernel) (by decide +kernel)
set_option maxRecDepth 100000 in
theorem tw_719 : Cond.code yX4_pourWater cX4_pourWater 4 (some .int) ∈ kg_U := tw_m (i := 719) (by decide +kernel) (by decide +kernel)
set_option maxRecDepth 100000 in
theorem tw_720 : Cond.methodLink RL 54 yX4_lid ∈ kg_U := tw_m (i := 720) (by decide +kernel) (by decide +kernel)
set_option maxRecDepth 100000 in
theorem tw_721 : Cond.instanceMethod yX4_lid ∈ kg_U := tw_m (i := 721) (by decide +kernel) (by decide +kernel)
set_option maxRecDepth 100000 in
theorem tw_722 : Cond.selects RX4 yX4_lid yX4_lid ∈ kg_U := tw_m (i := 722) (by decide +kernel) (by decide +kernel)
set_option maxRecDepth 100000 in
theorem tw_723 : Cond.code yX4_lid cX4_lid 3 (some .int) ∈ kg_U := tw_m (i := 723) (by decide +kernel) (by decide +kernel)
set_option maxRecDepth 100000 in
theorem tw_724 : Cond.methodLink RX4 124 yX4_moveLid ∈ kg_U := tw_m (i := 724) (by decide +kernel) (by decide +kernel)
set_option maxRecDepth 100000 in
theorem tw_726 : Cond.instanceMethod yX4_moveLid ∈ kg_U := tw_m (i := 726) (by decide +kernel) (by decide +kernel)
set_option maxRecDepth 100000 in
theorem tw_727 : Cond.code yX4_moveLid cX4_moveLid 3 (some .int) ∈ kg_U := tw_m (i := 727) (by decide +kernel) (by decide +kernel)
set_option maxRecDepth 100000 in
theorem tw_728 : Cond.methodLink RL 57 yX4_appeal ∈ kg_U := tw_m (i := 728) (by decide +kernel) (by decide +kernel)
set_option maxRecDepth 100000 in
theorem tw_729 : Cond.instanceMethod yX4_appeal ∈ kg_U := tw_m (i := 729) (by decide +kernel) (by decide +kernel)
set_option maxRecDepth 100000 in
theorem tw_730 : Cond.selects RX4 yX4_appeal yX4_appeal ∈ kg_U := tw_m (i := 730) (by decide +kernel) (by decide +kernel)
set_option maxRecDepth 100000 in
theorem tw_731 : Cond.code yX4_appeal cX4_appeal 3 (some .int) ∈ kg_U := tw_m (i := 731) (by decide +kernel) (by decide +kernel)
set_option maxRecDepth 100000 in
theorem tw_732 : Cond.methodLink RX4 127 yX4_makeAppeal ∈ kg_U := tw_m (i := 732) (by decide +kernel) (by decide +kernel)
set_option maxRecDepth 100000 in
theorem tw_734 : Cond.instanceMethod yX4_makeAppeal ∈ kg_U := tw_m (i := 734) (by decide +kernel) (by decide +kernel)
set_option maxRecDepth 100000 in
theorem tw_735 : Cond.code yX4_makeAppeal cX4_makeAppeal 3 (some .int) ∈ kg_U := tw_m (i := 735) (by decide +kernel) (by decide +kernel)
set_option maxRecDepth 100000 in
theorem tw_736 : Cond.methodLink RX4 344 yX3_barLid ∈ kg_U := tw_m (i := 736) (by decide +kernel) (by decide +kernel)
set_option maxRecDepth 100000 in
theorem tw_737 : Cond.instanceMethod yX3_barLid ∈ kg_U := tw_m (i := 737) (by decide +kernel) (by decide +kernel)
set_option maxRecDepth 100000 in
theorem tw_738 : Cond.selects RX3 yX3_barLid yX3_barLid ∈ kg_U := tw_m (i := 738) (by decide +kernel) (by decide +kernel)
set_option maxRecDepth 100000 in
theorem tw_739 : Cond.code yX3_barLid cX3_barLid 2 none ∈ kg_U := tw_m (i := 739) (by decide +kernel) (by decide +kernel)
set_option maxRecDepth 100000 in
theorem tw_740 : Cond.methodLink RL 60 yX4_minute ∈ kg_U := tw_m (i := 740) (by decide +kernel) (by decide +kernel)
set_option maxRecDepth 100000 in
theorem tw_741 : Cond.instanceMethod yX4_minute ∈ kg_U := tw_m (i := 741) (by decide +kernel) (by decide +kernel)
set_option maxRecDepth 100000 in
theorem tw_742 : Cond.selects RX4 yX4_minute yX4_minute ∈ kg_U := tw_m (i := 742) (by decide +kernel) (by decide +kernel)
set_option maxRecDepth 100000 in
theorem tw_743 : Cond.code yX4_minute cX4_minute 2 (some .int) ∈ kg_U := tw_m (i := 743) (by decide +kernel) (by decide +kernel)
set_option maxRecDepth 100000 in
theorem tw_744 : Cond.methodLink RX4 139 yX4_passMinutes ∈ kg_U := tw_m (i := 744) (by decide +kernel) (by decide +kernel)
set_option maxRecDepth 100000 in
theorem tw_746 : Cond.instanceMethod yX4_passMinutes ∈ kg_U := tw_m (i := 746) (by decide +kernel) (by decide +kernel)
set_option maxRecDepth 100000 in
theorem tw_747 : Cond.code yX4_passMinutes cX4_passMinutes 4 (some .int) ∈ kg_U := tw_m (i := 747) (by decide +kernel) (by decide +kernel)
set_option maxRecDepth 100000 in
theorem tw_748 : Cond.methodLink RX4 347 yX3_passMinute ∈ kg_U := tw_m (i := 748) (by decide +kernel) (by decide +kernel)
set_option maxRecDepth 100000 in
theorem tw_749 : Cond.instanceMethod yX3_passMinute ∈ kg_U := tw_m (i := 749) (by decide +kernel) (by decide +kernel)
set_option maxRecDepth 100000 in
theorem tw_750 : Cond.selects RX3 yX3_passMinute yX3_passMinute ∈ kg_U := tw_m (i := 750) (by decide +kernel) (by decide +kernel)
set_option maxRecDepth 100000 in
theorem tw_751 : Cond.code yX3_passMinute cX3_passMinute 3 (some .int) ∈ kg_U := tw_m (i := 751) (by decide +kernel) (by decide +kernel)
set_option maxRecDepth 100000 in
theorem tw_752 : Cond.methodLink RX3 89 yX3_passMinuteOver ∈ kg_U := tw_m (i := 752) (by decide +kernel) (by decide +kernel)
set_option maxRecDepth 100000 in
theorem tw_754 : Cond.instanceMethod yX3_passMinuteOver ∈ kg_U := tw_m (i := 754) (by decide +kernel) (by decide +kernel)
set_option maxRecDepth 100000 in
theorem tw_755 : Cond.code yX3_passMinuteOver cX3_passMinuteOver 4 (some .boolean) ∈ kg_U := tw_m (i := 755) (by decide +kernel) (by decide +kernel)
set_option maxRecDepth 100000 in
theorem tw_756 : Cond.methodLink RX3 96 yX3_boilDry ∈ kg_U := tw_m (i := 756) (by decide +kernel) (by decide +kernel)
set_option maxRecDepth 100000 in
theorem tw_758 : Cond.instanceMethod yX3_boilDry ∈ kg_U := tw_m (i := 758) (by decide +kernel) (by decide +kernel)
set_option maxRecDepth 100000 in
theorem tw_759 : Cond.code yX3_boilDry cX3_boilDry 3 none ∈ kg_U := tw_m (i := 759) (by decide +kernel) (by decide +kernel)
set_option maxRecDepth 100000 in
theorem tw_760 : Cond.methodLink RX3 100 yX3_changeTemperature ∈ kg_U := tw_m (i := 760) (by decide +kernel) (by decide +kernel)
set_option maxRecDepth 100000 in
theorem tw_762 : Cond.instanceMethod yX3_changeTemperature ∈ kg_U := tw_m (i := 762) (by decide +kernel) (by decide +kernel)
set_option maxRecDepth 100000 in
theorem tw_763 : Cond.code yX3_changeTemperature cX3_changeTemperature 2 none ∈ kg_U := tw_m (i := 763) (by decide +kernel) (by decide +kernel)
set_option maxRecDepth 100000 in
theorem tw_764 : Cond.methodLink RX3 103 yJ9_max_7cf53 ∈ kg_U := tw_m (i := 764) (by decide +kernel) (by decide +kernel)
set_option maxRecDepth 100000 in
theorem tw_765 : Cond.methodLink RX4 350 yX3_holdHarmony ∈ kg_U := tw_m (i := 765) (by decide +kernel) (by decide +kernel)
set_option maxRecDepth 100000 in
theorem tw_766 : Cond.instanceMethod yX3_holdHarmony ∈ kg_U := tw_m (i := 766) (by decide +kernel) (by decide +kernel)
set_option maxRecDepth 100000 in
theorem tw_767 : Cond.selects RX3 yX3_holdHarmony yX3_holdHarmony ∈ kg_U := tw_m (i := 767) (by decide +kernel) (by decide +kernel)
set_option maxRecDepth 100000 in
theorem tw_768 : Cond.code yX3_holdHarmony cX3_holdHarmony 5 none ∈ kg_U := tw_m (i := 768) (by decide +kernel) (by decide +kernel)
set_option maxRecDepth 100000 in
theorem tw_770 : Cond.methodLink RL 93 yL_heatUnder ∈ kg_U := tw_m (i := 770) (by decide +kernel) (by decide +kernel)
set_option maxRecDepth 100000 in
theorem tw_771 : Cond.static yL_heatUnder ∈ kg_U := tw_m (i := 771) (by decide +kernel) (by decide +kernel)
set_option maxRecDepth 100000 in
theorem tw_772 : Cond.code yL_heatUnder cL_heatUnder 3 (some .int) ∈ kg_U := tw_m (i := 772) (by decide +kernel) (by decide +kernel)
set_option maxRecDepth 100000 in
theorem tw_773 : Cond.methodLink RL 154 yL_sound ∈ kg_U := tw_m (i := 773) (by decide +kernel) (by decide +kernel)
set_option maxRecDepth 100000 in
theorem tw_774 : Cond.static yL_sound ∈ kg_U := tw_m (i := 774) (by decide +kernel) (by decide +kernel)
set_option maxRecDepth 100000 in
theorem tw_775 : Cond.code yL_sound cL_sound 3 (some .int) ∈ kg_U := tw_m (i := 775) (by decide +kernel) (by decide +kernel)
set_option maxRecDepth 100000 in
theorem tw_776 : Cond.methodLink RL 70 yJ9_abs_0f7a4 ∈ kg_U := tw_m (i := 776) (by decide +kernel) (by decide +kernel)
set_option maxRecDepth 100000 in
theorem tw_777 : Cond.methodLink RL 100 yL_has ∈ kg_U := tw_m (i := 777) (by decide +kernel) (by decide +kernel)
set_option maxRecDepth 100000 in
theorem tw_778 : Cond.static yL_has ∈ kg_U := tw_m (i := 778) (by decide +kernel) (by decide +kernel)
set_option maxRecDepth 100000 in
theorem tw_779 : Cond.code yL_has cL_has 4 (some .boolean) ∈ kg_U := tw_m (i := 779) (by decide +kernel) (by decide +kernel)
set_option maxRecDepth 100000 in
theorem tw_780 : Cond.methodLink RL 75 yX4_character ∈ kg_U := tw_m (i := 780) (by decide +kernel) (by decide +kernel)
set_option maxRecDepth 100000 in
theorem tw_781 : Cond.instanceMethod yX4_character ∈ kg_U := tw_m (i := 781) (by decide +kernel) (by decide +kernel)
set_option maxRecDepth 100000 in
theorem tw_782 : Cond.selects RX4 yX4_character yX4_character ∈ kg_U := tw_m (i := 782) (by decide +kernel) (by decide +kernel)
set_option maxRecDepth 100000 in
theorem tw_783 : Cond.code yX4_character cX4_character 2 (some .int) ∈ kg_U := tw_m (i := 783) (by decide +kernel) (by decide +kernel)
set_option maxRecDepth 100000 in
theorem tw_784 : Cond.methodLink RX4 248 yJ4_charAt_5068e ∈ kg_U := tw_m (i := 784) (by decide +kernel) (by decide +kernel)
set_option maxRecDepth 100000 in
theorem tw_785 : Cond.instanceMethod yJ4_charAt_5068e ∈ kg_U := tw_m (i := 785) (by decide +kernel) (by decide +kernel)
set_option maxRecDepth 100000 in
theorem tw_786 : Cond.selects RJ4 yJ4_charAt_5068e yJ4_charAt_5068e ∈ kg_U := tw_m (i := 786) (by decide +kernel) (by decide +kernel)
set_option maxRecDepth 100000 in
theorem tw_787 : Cond.code yJ4_charAt_5068e cJ4_charAt_5068e 2 (some .char) ∈ kg_U := tw_m (i := 787) (by decide +kernel) (by decide +kernel)
set_option maxRecDepth 100000 in
theorem tw_788 : Cond.methodLink RJ4 329 yJ5_charAt_5068e ∈ kg_U := tw_m (i := 788) (by decide +kernel) (by decide +kernel)
set_option maxRecDepth 100000 in
theorem tw_789 : Cond.instanceMethod yJ5_charAt_5068e ∈ kg_U := tw_m (i := 789) (by decide +kernel) (by decide +kernel)
set_option maxRecDepth 100000 in
theorem tw_790 : Cond.code yJ5_charAt_5068e cJ5_charAt_5068e 5 (some .char) ∈ kg_U := tw_m (i := 790) (by decide +kernel) (by decide +kernel)
set_option maxRecDepth 100000 in
theorem tw_791 : Cond.methodLink RJ5 138 yJ9_min_7cf53 ∈ kg_U := tw_m (i := 791) (by decide +kernel) (by decide +kernel)
set_option maxRecDepth 100000 in
theorem tw_792 : Cond.methodLink RJ5 144 yJ0_checkIndex_df160 ∈ kg_U := tw_m (i := 792) (by decide +kernel) (by decide +kernel)
set_option maxRecDepth 100000 in
theorem tw_793 : Cond.methodLink RJ5 148 yJ2_getChar_3b067 ∈ kg_U := tw_m (i := 793) (by decide +kernel) (by decide +kernel)
set_option maxRecDepth 100000 in
theorem tw_794 : Cond.static yJ2_getChar_3b067 ∈ kg_U := tw_m (i := 794) (by decide +kernel) (by decide +kernel)
set_option maxRecDepth 100000 in
theorem tw_795 : Cond.code yJ2_getChar_3b067 cJ2_getChar_3b067 2 (some .char) ∈ kg_U := tw_m (i := 795) (by decide +kernel) (by decide +kernel)
set_option maxRecDepth 100000 in
theorem tw_796 : Cond.methodLink RL 138 yL_isLine ∈ kg_U := tw_m (i := 796) (by decide +kernel) (by decide +kernel)
set_option maxRecDepth 100000 in
theorem tw_797 : Cond.static yL_isLine ∈ kg_U := tw_m (i := 797) (by decide +kernel) (by decide +kernel)
set_option maxRecDepth 100000 in
theorem tw_798 : Cond.code yL_isLine cL_isLine 4 (some .boolean) ∈ kg_U := tw_m (i := 798) (by decide +kernel) (by decide +kernel)
set_option maxRecDepth 100000 in
theorem tw_799 : Cond.methodLink RL 78 yJ0_length_8abf5 ∈ kg_U := tw_m (i := 799) (by decide +kernel) (by decide +kernel)
set_option maxRecDepth 100000 in
theorem tw_800 : Cond.instanceMethod yJ0_length_8abf5 ∈ kg_U := tw_m (i := 800) (by decide +kernel) (by decide +kernel)
set_option maxRecDepth 100000 in
theorem tw_801 : Cond.selects RJ0 yJ0_length_8abf5 yJ0_length_8abf5 ∈ kg_U := tw_m (i := 801) (by decide +kernel) (by decide +kernel)
set_option maxRecDepth 100000 in
theorem tw_802 : Cond.code yJ0_length_8abf5 cJ0_length_8abf5 1 (some .int) ∈ kg_U := tw_m (i := 802) (by decide +kernel) (by decide +kernel)
set_option maxRecDepth 100000 in
theorem tw_803 : Cond.methodLink RJ0 335 yJ0_coder_7d493 ∈ kg_U := tw_m (i := 803) (by decide +kernel) (by decide +kernel)
set_option maxRecDepth 100000 in
theorem tw_804 : Cond.instanceMethod yJ0_coder_7d493 ∈ kg_U := tw_m (i := 804) (by decide +kernel) (by decide +kernel)
set_option maxRecDepth 100000 in
theorem tw_805 : Cond.selects RJ0 yJ0_coder_7d493 yJ0_coder_7d493 ∈ kg_U := tw_m (i := 805) (by decide +kernel) (by decide +kernel)
set_option maxRecDepth 100000 in
theorem tw_806 : Cond.code yJ0_coder_7d493 cJ0_coder_7d493 1 (some .byte) ∈ kg_U := tw_m (i := 806) (by decide +kernel) (by decide +kernel)
set_option maxRecDepth 100000 in
theorem tw_807 : Cond.fieldLink RJ0 38 "java/lang/String" "COMPACT_STRINGS" "Z" ∈ kg_U := tw_m (i := 807) (by decide +kernel) (by decide +kernel)
set_option maxRecDepth 100000 in
theorem tw_808 : Cond.methodLink RL 84 yJ0_charAt_5068e ∈ kg_U := tw_m (i := 808) (by decide +kernel) (by decide +kernel)
set_option maxRecDepth 100000 in
theorem tw_809 : Cond.instanceMethod yJ0_charAt_5068e ∈ kg_U := tw_m (i := 809) (by decide +kernel) (by decide +kernel)
set_option maxRecDepth 100000 in
theorem tw_810 : Cond.selects RJ0 yJ0_charAt_5068e yJ0_charAt_5068e ∈ kg_U := tw_m (i := 810) (by decide +kernel) (by decide +kernel)
set_option maxRecDepth 100000 in
theorem tw_811 : Cond.code yJ0_charAt_5068e cJ0_charAt_5068e 2 (some .char) ∈ kg_U := tw_m (i := 811) (by decide +kernel) (by decide +kernel)
set_option maxRecDepth 100000 in
theorem tw_812 : Cond.methodLink RJ0 492 yJ0_isLatin1_aae02 ∈ kg_U := tw_m (i := 812) (by decide +kernel) (by decide +kernel)
set_option maxRecDepth 100000 in
theorem tw_813 : Cond.instanceMethod yJ0_isLatin1_aae02 ∈ kg_U := tw_m (i := 813) (by decide +kernel) (by decide +kernel)
set_option maxRecDepth 100000 in
theorem tw_814 : Cond.selects RJ0 yJ0_isLatin1_aae02 yJ0_isLatin1_aae02 ∈ kg_U := tw_m (i := 814) (by decide +kernel) (by decide +kernel)
set_option maxRecDepth 100000 in
theorem tw_815 : Cond.code yJ0_isLatin1_aae02 cJ0_isLatin1_aae02 1 (some .boolean) ∈ kg_U := tw_m (i := 815) (by decide +kernel) (by decide +kernel)
set_option maxRecDepth 100000 in
theorem tw_816 : Cond.methodLink RJ0 495 yJ1_charAt_3b067 ∈ kg_U := tw_m (i := 816) (by decide +kernel) (by decide +kernel)
set_option maxRecDepth 100000 in
theorem tw_817 : Cond.static yJ1_charAt_3b067 ∈ kg_U := tw_m (i := 817) (by decide +kernel) (by decide +kernel)
set_option maxRecDepth 100000 in
theorem tw_818 : Cond.code yJ1_charAt_3b067 cJ1_charAt_3b067 2 (some .char) ∈ kg_U := tw_m (i := 818) (by decide +kernel) (by decide +kernel)
set_option maxRecDepth 100000 in
theorem tw_819 : Cond.methodLink RJ1 9 yJ0_checkIndex_df160 ∈ kg_U := tw_m (i := 819) (by decide +kernel) (by decide +kernel)
set_option maxRecDepth 100000 in
theorem tw_820 : Cond.methodLink RJ0 498 yJ2_charAt_3b067 ∈ kg_U := tw_m (i := 820) (by decide +kernel) (by decide +kernel)
set_option maxRecDepth 100000 in
theorem tw_821 : Cond.static yJ2_charAt_3b067 ∈ kg_U := tw_m (i := 821) (by decide +kernel) (by decide +kernel)
set_option maxRecDepth 100000 in
theorem tw_822 : Cond.code yJ2_charAt_3b067 cJ2_charAt_3b067 2 (some .char) ∈ kg_U := tw_m (i := 822) (by decide +kernel) (by decide +kernel)
set_option maxRecDepth 100000 in
theorem tw_823 : Cond.methodLink RJ2 71 yJ2_getChar_3b067 ∈ kg_U := tw_m (i := 823) (by decide +kernel) (by decide +kernel)
set_option maxRecDepth 100000 in
theorem tw_824 : Cond.methodLink RL 196 yJ6_bitCount_0f7a4 ∈ kg_U := tw_m (i := 824) (by decide +kernel) (by decide +kernel)
set_option maxRecDepth 100000 in
theorem tw_825 : Cond.methodLink RL 151 yJ9_max_7cf53 ∈ kg_U := tw_m (i := 825) (by decide +kernel) (by decide +kernel)
set_option maxRecDepth 100000 in
theorem tw_826 : Cond.classLink RL 104 RJ4 ∈ kg_U := tw_m (i := 826) (by decide +kernel) (by decide +kernel)
set_option maxRecDepth 100000 in
theorem tw_827 : Cond.methodLink RL 106 yJ4_init_da8c8 ∈ kg_U := tw_m (i := 827) (by decide +kernel) (by decide +kernel)
set_option maxRecDepth 100000 in
theorem tw_828 : Cond.methodLink RL 113 yJ4_append_15ec4 ∈ kg_U := tw_m (i := 828) (by decide +kernel) (by decide +kernel)
set_option maxRecDepth 100000 in
theorem tw_829 : Cond.instanceMethod yJ4_append_15ec4 ∈ kg_U := tw_m (i := 829) (by decide +kernel) (by decide +kernel)
set_option maxRecDepth 100000 in
theorem tw_830 : Cond.selects RJ4 yJ4_append_15ec4 yJ4_append_15ec4 ∈ kg_U := tw_m (i := 830) (by decide +kernel) (by decide +kernel)
set_option maxRecDepth 100000 in
theorem tw_831 : Cond.code yJ4_append_15ec4 cJ4_append_15ec4 2 (some (.object "java/lang/StringBuilder")) ∈ kg_U := tw_m (i := 831) (by decide +kernel) (by decide +kernel)
set_option maxRecDepth 100000 in
theorem tw_832 : Cond.methodLink RJ4 29 yJ5_append_cf1ce ∈ kg_U := tw_m (i := 832) (by decide +kernel) (by decide +kernel)
set_option maxRecDepth 100000 in
theorem tw_833 : Cond.instanceMethod yJ5_append_cf1ce ∈ kg_U := tw_m (i := 833) (by decide +kernel) (by decide +kernel)
set_option maxRecDepth 100000 in
theorem tw_834 : Cond.code yJ5_append_cf1ce cJ5_append_cf1ce 3 (some (.object "java/lang/AbstractStringBuilder")) ∈ kg_U := tw_m (i := 834) (by decide +kernel) (by decide +kernel)
set_option maxRecDepth 100000 in
theorem tw_835 : Cond.methodLink RJ5 204 yJ5_appendNull_278bc ∈ kg_U := tw_m (i := 835) (by decide +kernel) (by decide +kernel)
set_option maxRecDepth 100000 in
theorem tw_837 : Cond.instanceMethod yJ5_appendNull_278bc ∈ kg_U := tw_m (i := 837) (by decide +kernel) (by decide +kernel)
set_option maxRecDepth 100000 in
theorem tw_838 : Cond.code yJ5_appendNull_278bc cJ5_appendNull_278bc 3 (some (.object "java/lang/AbstractStringBuilder")) ∈ kg_U := tw_m (i := 838) (by decide +kernel) (by decide +kernel)
set_option maxRecDepth 100000 in
theorem tw_839 : Cond.methodLink RJ5 226 yJ2_putCharsAt_cd4e5 ∈ kg_U := tw_m (i := 839) (by decide +kernel) (by decide +kernel)
set_option maxRecDepth 100000 in
theorem tw_840 : Cond.static yJ2_putCharsAt_cd4e5 ∈ kg_U := tw_m (i := 840) (by decide +kernel) (by decide +kernel)
set_option maxRecDepth 100000 in
theorem tw_841 : Cond.code yJ2_putCharsAt_cd4e5 cJ2_putCharsAt_cd4e5 7 (some .int) ∈ kg_U := tw_m (i := 841) (by decide +kernel) (by decide +kernel)
set_option maxRecDepth 100000 in
theorem tw_842 : Cond.methodLink RJ5 32 yJ0_length_8abf5 ∈ kg_U := tw_m (i := 842) (by decide +kernel) (by decide +kernel)
set_option maxRecDepth 100000 in
theorem tw_843 : Cond.methodLink RJ5 208 yJ5_putStringAt_47b60 ∈ kg_U := tw_m (i := 843) (by decide +kernel) (by decide +kernel)
set_option maxRecDepth 100000 in
theorem tw_845 : Cond.instanceMethod yJ5_putStringAt_47b60 ∈ kg_U := tw_m (i := 845) (by decide +kernel) (by decide +kernel)
set_option maxRecDepth 100000 in
theorem tw_846 : Cond.code yJ5_putStringAt_47b60 cJ5_putStringAt_47b60 3 none ∈ kg_U := tw_m (i := 846) (by decide +kernel) (by decide +kernel)
set_option maxRecDepth 100000 in
theorem tw_847 : Cond.methodLink RJ5 397 yJ5_inflateIfNeededFor_a7421 ∈ kg_U := tw_m (i := 847) (by decide +kernel) (by decide +kernel)
set_option maxRecDepth 100000 in
theorem tw_849 : Cond.instanceMethod yJ5_inflateIfNeededFor_a7421 ∈ kg_U := tw_m (i := 849) (by decide +kernel) (by decide +kernel)
set_option maxRecDepth 100000 in
theorem tw_850 : Cond.code yJ5_inflateIfNeededFor_a7421 cJ5_inflateIfNeededFor_a7421 2 none ∈ kg_U := tw_m (i := 850) (by decide +kernel) (by decide +kernel)
set_option maxRecDepth 100000 in
theorem tw_851 : Cond.methodLink RJ5 40 yJ0_coder_7d493 ∈ kg_U := tw_m (i := 851) (by decide +kernel) (by decide +kernel)
set_option maxRecDepth 100000 in
theorem tw_852 : Cond.methodLink RJ5 399 yJ0_getBytes_840e7 ∈ kg_U := tw_m (i := 852) (by decide +kernel) (by decide +kernel)
set_option maxRecDepth 100000 in
theorem tw_853 : Cond.instanceMethod yJ0_getBytes_840e7 ∈ kg_U := tw_m (i := 853) (by decide +kernel) (by decide +kernel)
set_option maxRecDepth 100000 in
theorem tw_854 : Cond.selects RJ0 yJ0_getBytes_840e7 yJ0_getBytes_840e7 ∈ kg_U := tw_m (i := 854) (by decide +kernel) (by decide +kernel)
set_option maxRecDepth 100000 in
theorem tw_855 : Cond.code yJ0_getBytes_840e7 cJ0_getBytes_840e7 4 none ∈ kg_U := tw_m (i := 855) (by decide +kernel) (by decide +kernel)
set_option maxRecDepth 100000 in
theorem tw_856 : Cond.methodLink RJ0 212 (⟨"java/lang/System", "arraycopy", "(Ljava/lang/Object;ILjava/lang/Object;II)V"⟩ : MethodName) ∈ kg_U := tw_m (i := 856) (by decide +kernel) (by decide +kernel)
set_option maxRecDepth 100000 in
theorem tw_857 : Cond.methodLink RJ0 106 yJ1_inflate_0e8fd ∈ kg_U := tw_m (i := 857) (by decide +kernel) (by decide +kernel)
set_option maxRecDepth 100000 in
theorem tw_858 : Cond.methodLink RL 107 yJ4_append_bf812 ∈ kg_U := tw_m (i := 858) (by decide +kernel) (by decide +kernel)
set_option maxRecDepth 100000 in
theorem tw_859 : Cond.methodLink RL 130 yJ4_toString_0e30d ∈ kg_U := tw_m (i := 859) (by decide +kernel) (by decide +kernel)
set_option maxRecDepth 100000 in
theorem tw_860 : Cond.instanceMethod yJ4_toString_0e30d ∈ kg_U := tw_m (i := 860) (by decide +kernel) (by decide +kernel)
set_option maxRecDepth 100000 in
theorem tw_861 : Cond.selects RJ4 yJ4_toString_0e30d yJ4_toString_0e30d ∈ kg_U := tw_m (i := 861) (by decide +kernel) (by decide +kernel)
set_option maxRecDepth 100000 in
theorem tw_862 : Cond.code yJ4_toString_0e30d cJ4_toString_0e30d 1 (some (.object "java/lang/String")) ∈ kg_U := tw_m (i := 862) (by decide +kernel) (by decide +kernel)
set_option maxRecDepth 100000 in
theorem tw_863 : Cond.classLink RJ4 18 RJ0 ∈ kg_U := tw_m (i := 863) (by decide +kernel) (by decide +kernel)
set_option maxRecDepth 100000 in
theorem tw_864 : Cond.instantiable RJ0 4 ∈ kg_U := tw_m (i := 864) (by decide +kernel) (by decide +kernel)
set_option maxRecDepth 100000 in
theorem tw_865 : Cond.methodLink RJ4 137 yJ0_init_81219 ∈ kg_U := tw_m (i := 865) (by decide +kernel) (by decide +kernel)
set_option maxRecDepth 100000 in
theorem tw_866 : Cond.instanceMethod yJ0_init_81219 ∈ kg_U := tw_m (i := 866) (by decide +kernel) (by decide +kernel)
set_option maxRecDepth 100000 in
theorem tw_867 : Cond.code yJ0_init_81219 cJ0_init_81219 2 none ∈ kg_U := tw_m (i := 867) (by decide +kernel) (by decide +kernel)
set_option maxRecDepth 100000 in
theorem tw_868 : Cond.methodLink RJ0 489 yJ0_init_db425 ∈ kg_U := tw_m (i := 868) (by decide +kernel) (by decide +kernel)
set_option maxRecDepth 100000 in
theorem tw_869 : Cond.instanceMethod yJ0_init_db425 ∈ kg_U := tw_m (i := 869) (by decide +kernel) (by decide +kernel)
set_option maxRecDepth 100000 in
theorem tw_870 : Cond.code yJ0_init_db425 cJ0_init_db425 5 none ∈ kg_U := tw_m (i := 870) (by decide +kernel) (by decide +kernel)
set_option maxRecDepth 100000 in
theorem tw_871 : Cond.methodLink RJ0 1 (⟨"java/lang/Object", "<init>", "()V"⟩ : MethodName) ∈ kg_U := tw_m (i := 871) (by decide +kernel) (by decide +kernel)
set_option maxRecDepth 100000 in
theorem tw_872 : Cond.methodLink RJ0 552 yJ5_getValue_6d5f1 ∈ kg_U := tw_m (i := 872) (by decide +kernel) (by decide +kernel)
set_option maxRecDepth 100000 in
theorem tw_873 : Cond.instanceMethod yJ5_getValue_6d5f1 ∈ kg_U := tw_m (i := 873) (by decide +kernel) (by decide +kernel)
set_option maxRecDepth 100000 in
theorem tw_874 : Cond.sameMethod RJ5 RJ5 "getValue" "()[B" ∈ kg_U := tw_m (i := 874) (by decide +kernel) (by decide +kernel)
set_option maxRecDepth 100000 in
theorem tw_875 : Cond.selects RJ4 yJ5_getValue_6d5f1 yJ5_getValue_6d5f1 ∈ kg_U := tw_m (i := 875) (by decide +kernel) (by decide +kernel)
set_option maxRecDepth 100000 in
theorem tw_876 : Cond.code yJ5_getValue_6d5f1 cJ5_getValue_6d5f1 1 (some (.array .byte)) ∈ kg_U := tw_m (i := 876) (by decide +kernel) (by decide +kernel)
set_option maxRecDepth 100000 in
theorem tw_877 : Cond.methodLink RJ0 549 yJ5_length_8abf5 ∈ kg_U := tw_m (i := 877) (by decide +kernel) (by decide +kernel)
set_option maxRecDepth 100000 in
theorem tw_878 : Cond.methodLink RJ0 1047 yJ5_isLatin1_aae02 ∈ kg_U := tw_m (i := 878) (by decide +kernel) (by decide +kernel)
set_option maxRecDepth 100000 in
theorem tw_879 : Cond.methodLink RJ0 54 yJ7_copyOfRange_39247 ∈ kg_U := tw_m (i := 879) (by decide +kernel) (by decide +kernel)
set_option maxRecDepth 100000 in
theorem tw_880 : Cond.static yJ7_copyOfRange_39247 ∈ kg_U := tw_m (i := 880) (by decide +kernel) (by decide +kernel)
set_option maxRecDepth 100000 in
theorem tw_881 : Cond.code yJ7_copyOfRange_39247 cJ7_copyOfRange_39247 3 (some (.array .byte)) ∈ kg_U := tw_m (i := 881) (by decide +kernel) (by decide +kernel)
set_option maxRecDepth 100000 in
theorem tw_882 : Cond.methodLink RJ7 339 yJ7_copyOfRangeByte_39247 ∈ kg_U := tw_m (i := 882) (by decide +kernel) (by decide +kernel)
set_option maxRecDepth 100000 in
theorem tw_883 : Cond.static yJ7_copyOfRangeByte_39247 ∈ kg_U := tw_m (i := 883) (by decide +kernel) (by decide +kernel)
set_option maxRecDepth 100000 in
theorem tw_884 : Cond.code yJ7_copyOfRangeByte_39247 cJ7_copyOfRangeByte_39247 5 (some (.array .byte)) ∈ kg_U := tw_m (i := 884) (by decide +kernel) (by decide +kernel)
set_option maxRecDepth 100000 in
theorem tw_885 : Cond.methodLink RJ7 343 yJ7_checkLength_df160 ∈ kg_U := tw_m (i := 885) (by decide +kernel) (by decide +kernel)
set_option maxRecDepth 100000 in
theorem tw_886 : Cond.static yJ7_checkLength_df160 ∈ kg_U := tw_m (i := 886) (by decide +kernel) (by decide +kernel)
set_option maxRecDepth 100000 in
theorem tw_887 : Cond.code yJ7_checkLength_df160 cJ7_checkLength_df160 2 none ∈ kg_U := tw_m (i := 887) (by decide +kernel) (by decide +kernel)
set_option maxRecDepth 100000 in
theorem tw_888 : Cond.methodLink RJ0 1051 yJ2_compress_39247 ∈ kg_U := tw_m (i := 888) (by decide +kernel) (by decide +kernel)
set_option maxRecDepth 100000 in
theorem tw_889 : Cond.static yJ2_compress_39247 ∈ kg_U := tw_m (i := 889) (by decide +kernel) (by decide +kernel)
set_option maxRecDepth 100000 in
theorem tw_890 : Cond.code yJ2_compress_39247 cJ2_compress_39247 6 (some (.array .byte)) ∈ kg_U := tw_m (i := 890) (by decide +kernel) (by decide +kernel)
set_option maxRecDepth 100000 in
theorem tw_891 : Cond.methodLink RJ2 123 yJ2_compress_5af95 ∈ kg_U := tw_m (i := 891) (by decide +kernel) (by decide +kernel)
set_option maxRecDepth 100000 in
theorem tw_892 : Cond.static yJ2_compress_5af95 ∈ kg_U := tw_m (i := 892) (by decide +kernel) (by decide +kernel)
set_option maxRecDepth 100000 in
theorem tw_893 : Cond.code yJ2_compress_5af95 cJ2_compress_5af95 7 (some .int) ∈ kg_U := tw_m (i := 893) (by decide +kernel) (by decide +kernel)
set_option maxRecDepth 100000 in
theorem tw_894 : Cond.methodLink RJ2 126 yJ7_copyOfRange_39247 ∈ kg_U := tw_m (i := 894) (by decide +kernel) (by decide +kernel)
set_option maxRecDepth 100000 in
theorem tw_895 : Cond.methodLink RJ0 47 yJ2_coderFromArrayLen_85cad ∈ kg_U := tw_m (i := 895) (by decide +kernel) (by decide +kernel)
set_option maxRecDepth 100000 in
theorem tw_896 : Cond.static yJ2_coderFromArrayLen_85cad ∈ kg_U := tw_m (i := 896) (by decide +kernel) (by decide +kernel)
set_option maxRecDepth 100000 in
theorem tw_897 : Cond.code yJ2_coderFromArrayLen_85cad cJ2_coderFromArrayLen_85cad 2 (some .byte) ∈ kg_U := tw_m (i := 897) (by decide +kernel) (by decide +kernel)
set_option maxRecDepth 100000 in
theorem tw_898 : Cond.fieldLink RJ0 9 "java/lang/String" "value" "[B" ∈ kg_U := tw_m (i := 898) (by decide +kernel) (by decide +kernel)
set_option maxRecDepth 100000 in
theorem tw_899 : Cond.fieldLink RJ0 15 "java/lang/String" "coder" "B" ∈ kg_U := tw_m (i := 899) (by decide +kernel) (by decide +kernel)
set_option maxRecDepth 100000 in
theorem tw_908 : Cond.superclass RJ0 "java/lang/Object" ∈ kg_U := tw_m (i := 908) (by decide +kernel) (by decide +kernel)
set_option maxRecDepth 100000 in
theorem tw_921 : Cond.sameMethod RJ5 RJ5 "setLength" "(I)V" ∈ kg_U := tw_m (i := 921) (by decide +kernel) (by decide +kernel)
set_option maxRecDepth 100000 in
theorem tw_922 : Cond.sameMethod RJ5 RJ5 "ensureCapacityInternal" "(I)V" ∈ kg_U := tw_m (i := 922) (by decide +kernel) (by decide +kernel)
set_option maxRecDepth 100000 in
theorem tw_923 : Cond.sameMethod RJ5 RJ5 "newCapacity" "(I)I" ∈ kg_U := tw_m (i := 923) (by decide +kernel) (by decide +kernel)
set_option maxRecDepth 100000 in
theorem tw_924 : Cond.sameMethod RJ5 RJ5 "append" "(I)Ljava/lang/AbstractStringBuilder;" ∈ kg_U := tw_m (i := 924) (by decide +kernel) (by decide +kernel)
set_option maxRecDepth 100000 in
theorem tw_925 : Cond.sameMethod RJ5 RJ5 "append" "(C)Ljava/lang/AbstractStringBuilder;" ∈ kg_U := tw_m (i := 925) (by decide +kernel) (by decide +kernel)
set_option maxRecDepth 100000 in
theorem tw_926 : Cond.sameMethod RJ5 RJ5 "inflate" "()V" ∈ kg_U := tw_m (i := 926) (by decide +kernel) (by decide +kernel)
set_option maxRecDepth 100000 in
theorem tw_927 : Cond.sameMethod RJ5 RJ5 "length" "()I" ∈ kg_U := tw_m (i := 927) (by decide +kernel) (by decide +kernel)
set_option maxRecDepth 100000 in
theorem tw_928 : Cond.sameMethod RJ5 RJ5 "charAt" "(I)C" ∈ kg_U := tw_m (i := 928) (by decide +kernel) (by decide +kernel)
set_option maxRecDepth 100000 in
theorem tw_929 : Cond.sameMethod RJ5 RJ5 "append" "(Ljava/lang/String;)Ljava/lang/AbstractStringBuilder;" ∈ kg_U := tw_m (i := 929) (by decide +kernel) (by decide +kernel)
set_option maxRecDepth 100000 in
theorem tw_930 : Cond.sameMethod RJ5 RJ5 "appendNull" "()Ljava/lang/AbstractStringBuilder;" ∈ kg_U := tw_m (i := 930) (by decide +kernel) (by decide +kernel)
set_option maxRecDepth 100000 in
theorem tw_931 : Cond.sameMethod RJ5 RJ5 "putStringAt" "(ILjava/lang/String;)V" ∈ kg_U := tw_m (i := 931) (by decide +kernel) (by decide +kernel)
set_option maxRecDepth 100000 in
theorem tw_932 : Cond.sameMethod RJ5 RJ5 "inflateIfNeededFor" "(Ljava/lang/String;)V" ∈ kg_U := tw_m (i := 932) (by decide +kernel) (by decide +kernel)
set_option maxRecDepth 100000 in
theorem tw_933 : Cond.selects RJ4 yJ5_length_8abf5 yJ4_length_8abf5 ∈ kg_U := tw_m (i := 933) (by decide +kernel) (by decide +kernel)
end
