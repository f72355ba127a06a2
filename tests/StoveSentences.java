/** Stoves, lids and appeals: the sentences of the terms, and the promises 7 to 12. Run by SentencesTest. */
final class StoveSentences {
    private static final int NONE = KettleGuild.NONE;
    private static final int BAD = KettleGuild.BAD;
    private static final int NOTHING = KettleGuild.NOTHING;

    /** A kettle of each of six pitches, and the kettle 6 of the pitch of the kettle 0. */
    private static final String SEVEN_KETTLES = "own 0 1; own 0 2; own 1 3; own 1 4; own 2 5; own 2 6; "
        + "kettle 0 1 9; kettle 0 2 9; kettle 1 3 9; kettle 1 4 9; kettle 2 5 9; kettle 2 6 9; kettle 0 1 9";
    private static final String SIX_ON_STOVES = "; set 0 0; set 1 1; set 2 2; set 3 3; set 4 4; set 5 5";

    private StoveSentences() {
    }

    // ---- Terms: stoves

    @Sentence(in = "Terms", says = "There are the stoves 0 to 5")
    static void stoves0To5(Check check) {
        Guild guild = Guild.after("own 0 1; own 0 2; kettle 0 1 9; kettle 0 2 9");
        for (int stove : new int[] {-1, 6}) {
            check.due("set on " + stove, guild.set(0, stove), NONE);
            check.due("heat of " + stove, guild.heat(stove, 1), NONE);
            check.due("stoveOf " + stove, guild.stoveOf(stove, true), NONE);
            check.due("stoveOf " + stove, guild.stoveOf(stove, false), NONE);
        }
        check.due("set(0, 0)", guild.set(0, 0), 1);
        check.due("set(1, 5)", guild.set(1, 5), 2);
        check.due("heat(0, 1)", guild.heat(0, 1), 0);
        check.due("heat(5, 2)", guild.heat(5, 2), 0);
        check.tellsStoves(guild, "1(0)00002(1)");
    }

    @Sentence(in = "Terms", says = "each with a heat from 0 to 5, at first 0")
    static void heatFrom0To5AtFirst0(Check check) {
        Guild guild = new Guild();
        for (int stove = 0; stove < 6; stove++) {
            check.due("heat at first", guild.stoveOf(stove, true), 0);
            check.due("heat(" + stove + ", -1)", guild.heat(stove, -1), BAD);
            check.due("heat(" + stove + ", 6)", guild.heat(stove, 6), BAD);
            check.due("heat(" + stove + ", 5)", guild.heat(stove, 5), 0);
            check.due("heat told", guild.stoveOf(stove, true), 5);
            check.due("heat(" + stove + ", 0)", guild.heat(stove, 0), 5);
            check.due("heat told", guild.stoveOf(stove, true), 0);
        }
    }

    @Sentence(in = "Terms", says = "and at most one kettle")
    static void atMostOneKettleOnAStove(Check check) {
        Guild guild = Guild.after(SEVEN_KETTLES + "; set 0 0; set 1 5");
        check.refused("set(2, 0)", guild, guild.set(2, 0), 4, 2, 6, 0);
        check.refused("set(2, 5)", guild, guild.set(2, 5), 4, 2, 6, 1);
        check.due("set(2, 1)", guild.set(2, 1), 3);
        guild.off(0);
        check.due("set(3, 0) when it is free again", guild.set(3, 0), 3);
        check.due("the kettle", guild.stoveOf(0, false), 3);
    }

    @Sentence(in = "Terms", says = "No two kettles of the same pitch are on stoves at once.")
    @Sentence(in = "Terms", says = "A pitch owned sounds on one stove.")
    static void noTwoKettlesOfOnePitchOnStoves(Check check) {
        Guild guild = Guild.after(SEVEN_KETTLES + "; set 0 0");
        check.refused("set(6, 1)", guild, guild.set(6, 1), 4, 6, 7, 0);
        check.refused("set(6, 5)", guild, guild.set(6, 5), 4, 6, 7, 0);
        guild.off(0);
        check.due("set(6, 5) when the other is off", guild.set(6, 5), 1);
        check.refused("set(0, 0)", guild, guild.set(0, 0), 4, 0, 7, 5);
    }

    // ---- Terms: appeals

    @Sentence(in = "Terms", says = "A member can appeal the lid of a kettle of another member, if it is on, once.")
    static void appealOfAnotherIfTheLidIsOnOnce(Check check) {
        Guild guild = Guild.after("own 0 1; own 3 2; kettle 0 1 9; kettle 3 2 9; kettle 3 2 9; lid 2-");
        check.refused("its own, the first member", guild, guild.appeal(0, 0), 13, 0);
        check.refused("its own, the last member", guild, guild.appeal(3, 1), 13, 3);
        check.refused("the lid is off", guild, guild.appeal(0, 2), 15, 2);
        check.due("of another", guild.appeal(3, 0), 0);
        check.refused("again", guild, guild.appeal(3, 0), 14, 1);
        check.due("one of them against another kettle", guild.appeal(0, 1), 0);
        check.due("one appeal", guild.kettleOf(0, 9), 1);
        check.due("appeals made", guild.memberOf(3, 5), 1);
        check.due("the lid stays on", guild.kettleOf(0, 4), 1);
    }

    @Sentence(in = "Terms", says = "When two members have appealed it, the lid comes off, and is barred")
    static void twoAppealsTakeTheLidOff(Check check) {
        Guild guild = Guild.after("own 0 1; kettle 0 1 9; kettle 0 1 9; kettle 0 1 9; appeal 1 0; appeal 3 1; appeal 2 2");
        check.due("lids on behind one appeal each", guild.account(3), 3);
        check.due("lids barred behind one appeal each", guild.account(4), 0);
        check.due("the second appeal", guild.appeal(3, 0), 1);
        check.tells(guild, 0, "0:0p1w9t20_#");
        check.tells(guild, 1, "1:0p1w9t20");
        check.due("lids on", guild.account(3), 2);
        check.due("lids barred", guild.account(4), 1);
        check.due("the second appeal, in the other order", guild.appeal(1, 1), 1);
        check.due("lids barred", guild.account(4), 2);
    }

    @Sentence(in = "Terms", says = "it cannot be put on")
    static void barredLidCannotBePutOn(Check check) {
        Guild guild = Guild.after("own 0 1; kettle 0 1 9; kettle 0 1 9; lid 1-; appeal 1 0; appeal 2 0");
        for (int minute = 0; minute < 6; minute++) {
            check.refused("lid(0, 1)", guild, guild.lid(0, 1), 12, 6 - minute);
            check.due("the lid is off", guild.kettleOf(0, 4), 0);
            guild.minute(1);
        }
        check.due("lid(0, 1) behind the harmony", guild.lid(0, 1), 1);
        check.due("lid(1, 1), which was never barred", guild.lid(1, 1), 2);
    }

    @Sentence(in = "Terms", says = "the appeals are gone then")
    static void appealsAreGoneBehindTheSecond(Check check) {
        Guild guild = Guild.after("own 0 1; kettle 0 1 9; kettle 0 1 9; appeal 1 1; appeal 1 0; appeal 2 0");
        check.due("appeals", guild.kettleOf(0, 9), 0);
        check.due("appeals against another kettle", guild.kettleOf(1, 9), 1);
        guild.then("minute 6; lid 0+");
        check.due("a third member behind them", guild.appeal(3, 0), 0);
        check.due("the lid stays on", guild.kettleOf(0, 4), 1);
        check.due("appeals", guild.kettleOf(0, 9), 1);
    }

    // ---- Promise 7

    @Sentence(in = "Promise 7: set", says = "Returns how many kettles are on stoves then")
    static void setReturnsHowManyAreOnStoves(Check check) {
        Guild guild = Guild.after(SEVEN_KETTLES);
        for (int kettle = 0; kettle < 6; kettle++) {
            check.due("set", guild.set(kettle, 5 - kettle), kettle + 1);
            check.due("its stove", guild.kettleOf(kettle, 5), 5 - kettle);
            check.due("its kettle", guild.stoveOf(5 - kettle, false), kettle);
        }
        guild.then("off 0; off 1");
        check.due("set(6, 4)", guild.set(6, 4), 5);
    }

    @Sentence(in = "Promise 7: set", says = "NONE if there is no such kettle or stove")
    static void setWithoutSuchAKettleOrStove(Check check) {
        Guild guild = Guild.after("own 0 1; own 0 2; kettle 0 1 9; kettle 0 2 9");
        check.each("set(?, 0)", NONE, kettle -> guild.set(kettle, 0), Check.outside(0, 1));
        check.each("set(0, ?)", NONE, stove -> guild.set(0, stove), Check.outside(0, 5));
        check.due("none is on a stove", guild.account(1), 0);
        guild.then("set 0 0; set 1 5");
        check.each("set(?, 0), listed ahead of REFUSED", NONE, kettle -> guild.set(kettle, 0), Check.outside(0, 1));
        check.each("set(0, ?), listed ahead of REFUSED", NONE, stove -> guild.set(0, stove), Check.outside(0, 5));
        check.each("set(?, ?)", NONE, number -> guild.set(number, number), Check.outside(0, 5));
    }

    @Sentence(in = "Promise 7: set", says = "REFUSED for the reason 4, with 5, 6, 7 or 8 behind it, in this order.")
    static void setIsRefusedFor5Then6Then7Then8(Check check) {
        Guild guild = Guild.after("own 0 1; own 0 2; kettle 0 1 0; kettle 0 1 9; kettle 0 2 9; heat 5 5; set 0 5; set 2 0");
        check.refused("on a stove, to a free one (5, 7)", guild, guild.set(0, 3), 4, 0, 5, 5);
        check.refused("on a stove, to its own (5, 6, 7)", guild, guild.set(0, 5), 4, 0, 5, 5);
        check.refused("on a stove, to a taken one (5, 6, 7)", guild, guild.set(0, 0), 4, 0, 5, 5);
        check.refused("to a taken one, with its pitch on it (6, 7)", guild, guild.set(1, 5), 4, 1, 6, 0);
        check.refused("to a taken one, with its pitch on another (6, 7)", guild, guild.set(1, 0), 4, 1, 6, 2);
        check.refused("to a free one, with its pitch on another (7)", guild, guild.set(1, 3), 4, 1, 7, 5);
        check.due("the kettle 0 boils dry", guild.minute(5), 1);
        check.refused("banned (8)", guild, guild.set(0, 3), 4, 0, 8, 6);
        check.refused("banned, to a taken one (6, 8)", guild, guild.set(0, 0), 4, 0, 6, 2);
        guild.then("set 1 1");
        check.refused("banned, with its pitch on another (7, 8)", guild, guild.set(0, 3), 4, 0, 7, 1);
        check.refused("banned, to a taken one with its pitch on it (6, 7, 8)", guild, guild.set(0, 1), 4, 0, 6, 1);
        guild.then("off 1; minute 5");
        check.refused("in the last minute of the ban", guild, guild.set(0, 3), 4, 0, 8, 1);
        guild.minute(1);
        check.due("behind the ban", guild.set(0, 3), 2);
    }

    // ---- Promise 8

    @Sentence(in = "Promise 8: off", says = "Returns the stove")
    static void offReturnsTheStove(Check check) {
        Guild guild = Guild.after(SEVEN_KETTLES + SIX_ON_STOVES);
        for (int kettle = 5; kettle >= 0; kettle--) {
            check.due("off(" + kettle + ")", guild.off(kettle), kettle);
            check.due("the kettle of the stove", guild.stoveOf(kettle, false), NOTHING);
            check.due("the stove of the kettle", guild.kettleOf(kettle, 5), NOTHING);
            check.due("kettles on stoves", guild.account(1), kettle);
        }
    }

    @Sentence(in = "Promise 8: off", says = "NONE if there is no such kettle")
    static void offWithoutSuchAKettle(Check check) {
        Guild guild = Guild.after("own 0 1; own 0 2; kettle 0 1 9; kettle 0 2 9; set 0 0; set 1 5");
        check.each("off(?)", NONE, guild::off, Check.outside(0, 1));
        check.due("kettles on stoves", guild.account(1), 2);
        check.due("off(1)", guild.off(1), 5);
    }

    @Sentence(in = "Promise 8: off", says = "REFUSED for the reason 10.")
    static void offIsRefusedFor10(Check check) {
        Guild guild = Guild.after(SEVEN_KETTLES);
        check.refused("off(6) while none is", guild, guild.off(6), 10, 0);
        for (int kettle = 0; kettle < 6; kettle++) {
            guild.set(kettle, kettle);
            check.refused("off(6)", guild, guild.off(6), 10, kettle + 1);
        }
        guild.off(0);
        check.refused("off(0) again", guild, guild.off(0), 10, 5);
    }

    // ---- Promise 9

    @Sentence(in = "Promise 9: heat", says = "Returns the heat before")
    static void heatReturnsTheHeatBefore(Check check) {
        Guild guild = new Guild();
        int before = 0;
        for (int heat : new int[] {5, 0, 1, 4, 2, 3, 0}) {
            check.due("heat(5, " + heat + ")", guild.heat(5, heat), before);
            check.due("the heat", guild.stoveOf(5, true), heat);
            before = heat;
        }
        check.tellsStoves(guild, "000000");
    }

    @Sentence(in = "Promise 9: heat", says = "NONE if there is no such stove")
    static void heatWithoutSuchAStove(Check check) {
        Guild guild = new Guild();
        int[] outside = Check.outside(0, 5);
        check.each("heat(?, 1)", NONE, stove -> guild.heat(stove, 1), outside);
        check.each("heat(?, 0), listed ahead of REFUSED", NONE, stove -> guild.heat(stove, 0), outside);
        check.each("heat(?, -1), listed ahead of BAD", NONE, stove -> guild.heat(stove, -1), outside);
        check.each("heat(?, 6), listed ahead of BAD", NONE, stove -> guild.heat(stove, 6), outside);
        check.tellsStoves(guild, "000000");
    }

    @Sentence(in = "Promise 9: heat", says = "BAD if the heat is out of range")
    static void heatOutOfRange(Check check) {
        Guild guild = new Guild();
        check.each("heat(0, ?)", BAD, heat -> guild.heat(0, heat), Check.outside(0, 5));
        check.each("heat(5, ?)", BAD, heat -> guild.heat(5, heat), Check.outside(0, 5));
        check.due("heat(0, 5)", guild.heat(0, 5), 0);
        check.due("heat(0, 0)", guild.heat(0, 0), 5);
    }

    @Sentence(in = "Promise 9: heat", says = "REFUSED for the reason 9.")
    static void heatIsRefusedFor9(Check check) {
        Guild guild = new Guild();
        check.refused("heat(0, 0)", guild, guild.heat(0, 0), 9, 0);
        for (int heat = 1; heat <= 5; heat++) {
            check.due("heat(5, " + heat + ")", guild.heat(5, heat), heat - 1);
            check.refused("heat(5, " + heat + ") again", guild, guild.heat(5, heat), 9, heat);
        }
        check.due("heat(4, 5)", guild.heat(4, 5), 0);
    }

    // ---- Promise 10

    @Sentence(in = "Promise 10: lid", says = "`isOn`: 1 for on, 0 for off")
    @Sentence(in = "Promise 10: lid", says = "Returns how many lids are on then")
    static void lidReturnsHowManyAreOn(Check check) {
        Guild guild = Guild.after(SEVEN_KETTLES + "; kettle 0 1 1; kettle 0 1 1; kettle 0 1 1");
        for (int kettle = 9; kettle >= 0; kettle--) {
            check.due("lid(" + kettle + ", 0)", guild.lid(kettle, 0), kettle);
            check.due("the lid", guild.kettleOf(kettle, 4), 0);
        }
        check.due("lid(9, 1)", guild.lid(9, 1), 1);
        check.due("lid(0, 1)", guild.lid(0, 1), 2);
        check.due("the lid", guild.kettleOf(0, 4), 1);
        check.due("another lid", guild.kettleOf(1, 4), 0);
    }

    @Sentence(in = "Promise 10: lid", says = "NONE if there is no such kettle")
    static void lidWithoutSuchAKettle(Check check) {
        Guild guild = Guild.after("own 0 1; kettle 0 1 9; kettle 0 1 9");
        int[] outside = Check.outside(0, 1);
        check.each("lid(?, 0)", NONE, kettle -> guild.lid(kettle, 0), outside);
        check.each("lid(?, 1)", NONE, kettle -> guild.lid(kettle, 1), outside);
        check.each("lid(?, 2), listed ahead of BAD", NONE, kettle -> guild.lid(kettle, 2), outside);
        check.each("lid(?, -1), listed ahead of BAD", NONE, kettle -> guild.lid(kettle, -1), outside);
        check.due("lids on", guild.account(3), 2);
        check.due("lid(1, 0)", guild.lid(1, 0), 1);
    }

    @Sentence(in = "Promise 10: lid", says = "BAD if isOn is neither")
    static void lidNeitherOnNorOff(Check check) {
        Guild guild = Guild.after("own 0 1; kettle 0 1 9; kettle 0 1 9; lid 1-; kettle 0 1 9; appeal 1 2; appeal 2 2");
        int[] outside = Check.outside(0, 1);
        check.each("lid(0, ?)", BAD, isOn -> guild.lid(0, isOn), outside);
        check.each("lid(1, ?)", BAD, isOn -> guild.lid(1, isOn), outside);
        check.each("lid(2, ?), listed ahead of REFUSED", BAD, isOn -> guild.lid(2, isOn), outside);
        check.due("lids on", guild.account(3), 1);
    }

    @Sentence(in = "Promise 10: lid", says = "REFUSED for the reason 9, or 12, to put it on.")
    static void lidIsRefusedFor9Or12ToPutItOn(Check check) {
        Guild guild = Guild.after("own 0 1; kettle 0 1 9; kettle 0 1 9; kettle 0 1 9; lid 1-; minute 1; appeal 1 2; appeal 2 2");
        check.refused("lid(0, 1)", guild, guild.lid(0, 1), 9, 1);
        check.refused("lid(1, 0)", guild, guild.lid(1, 0), 9, 0);
        check.refused("lid(2, 0) of a barred lid", guild, guild.lid(2, 0), 9, 0);
        check.refused("lid(2, 1) of a barred lid", guild, guild.lid(2, 1), 12, 5);
        check.due("lid(1, 1)", guild.lid(1, 1), 2);
        guild.minute(5);
        check.refused("lid(2, 0) behind the harmony", guild, guild.lid(2, 0), 9, 0);
        check.due("lid(2, 1) behind the harmony", guild.lid(2, 1), 3);
    }

    // ---- Promise 11

    @Sentence(in = "Promise 11: appeal", says = "Returns 1 if the lid comes off by that, 0 otherwise")
    static void appealReturnsWhetherTheLidComesOff(Check check) {
        int[][] pairs = {{1, 2}, {1, 3}, {2, 1}, {2, 3}, {3, 1}, {3, 2}};
        Guild guild = Guild.after(SEVEN_KETTLES + "; own 0 12; kettle 0 12 9; kettle 0 12 9; kettle 0 12 9");
        int[] kettles = {0, 1, 6, 7, 8, 9};
        for (int index = 0; index < pairs.length; index++) {
            check.due("the first appeal", guild.appeal(pairs[index][0], kettles[index]), 0);
            check.due("the lid", guild.kettleOf(kettles[index], 4), 1);
            check.due("the second appeal", guild.appeal(pairs[index][1], kettles[index]), 1);
            check.due("the lid", guild.kettleOf(kettles[index], 4), 0);
        }
        check.due("of the members 0 and 3: the first", guild.appeal(0, 4), 0);
        check.due("of the members 0 and 3: the second", guild.appeal(3, 4), 1);
        check.due("lids barred", guild.account(4), 7);
    }

    @Sentence(in = "Promise 11: appeal", says = "NONE if there is no such member or kettle")
    static void appealWithoutSuchAMemberOrKettle(Check check) {
        Guild guild = Guild.after("own 0 1; own 3 2; kettle 0 1 9; kettle 3 2 9; lid 1-");
        check.each("appeal(?, 0)", NONE, member -> guild.appeal(member, 0), Check.outside(0, 3));
        check.each("appeal(?, 1), listed ahead of REFUSED", NONE, member -> guild.appeal(member, 1), Check.outside(0, 3));
        check.each("appeal(0, ?)", NONE, kettle -> guild.appeal(0, kettle), Check.outside(0, 1));
        check.each("appeal(3, ?)", NONE, kettle -> guild.appeal(3, kettle), Check.outside(0, 1));
        check.each("appeal(?, ?)", NONE, number -> guild.appeal(number, number), Check.outside(0, 3));
        check.due("appeals", guild.kettleOf(0, 9), 0);
        check.due("appeal(3, 0)", guild.appeal(3, 0), 0);
    }

    @Sentence(in = "Promise 11: appeal", says = "REFUSED for the reason 13, 15 or 14.")
    static void appealIsRefusedFor13Then15Then14(Check check) {
        Guild guild = Guild.after("own 0 1; own 1 2; kettle 0 1 9; kettle 0 1 9; kettle 1 2 9; appeal 3 0; appeal 3 1");
        check.refused("its own", guild, guild.appeal(0, 0), 13, 0);
        check.refused("appealed already", guild, guild.appeal(3, 0), 14, 1);
        guild.then("lid 0-");
        check.refused("its own, and off (13, 15)", guild, guild.appeal(0, 0), 13, 0);
        check.refused("off, and appealed already (15, 14)", guild, guild.appeal(3, 0), 15, 2);
        check.refused("off", guild, guild.appeal(1, 0), 15, 2);
        guild.then("appeal 1 1");
        check.refused("barred", guild, guild.appeal(3, 1), 15, 1);
        check.refused("its own, and barred (13, 15)", guild, guild.appeal(0, 1), 13, 0);
        guild.then("lid 2-");
        check.refused("off, and no lid is on", guild, guild.appeal(0, 2), 15, 0);
    }

    // ---- Promise 12

    @Sentence(in = "Promise 12: stoveOf", says = "`isHeat`: true for its heat, false for its kettle")
    @Sentence(in = "Promise 12: stoveOf", says = "Returns the number, NOTHING for no kettle")
    static void stoveOfReturnsHeatOrKettle(Check check) {
        Guild guild = Guild.after(SEVEN_KETTLES + "; heat 0 4; heat 5 3; heat 3 5; set 0 5; set 4 0");
        int[] heats = {4, 0, 0, 5, 0, 3};
        int[] kettles = {4, NOTHING, NOTHING, NOTHING, NOTHING, 0};
        for (int stove = 0; stove < 6; stove++) {
            check.due("stoveOf(" + stove + ", true)", guild.stoveOf(stove, true), heats[stove]);
            check.due("stoveOf(" + stove + ", false)", guild.stoveOf(stove, false), kettles[stove]);
        }
        guild.off(0);
        check.due("stoveOf(5, false) behind off", guild.stoveOf(5, false), NOTHING);
        check.due("stoveOf(5, true) behind off", guild.stoveOf(5, true), 3);
    }

    @Sentence(in = "Promise 12: stoveOf", says = "NONE if there is no such stove.")
    static void stoveOfWithoutSuchAStove(Check check) {
        Guild guild = Guild.after(SEVEN_KETTLES + SIX_ON_STOVES);
        check.each("stoveOf(?, true)", NONE, stove -> guild.stoveOf(stove, true), Check.outside(0, 5));
        check.each("stoveOf(?, false)", NONE, stove -> guild.stoveOf(stove, false), Check.outside(0, 5));
    }
}
