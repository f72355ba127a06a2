/** Reasons: the sentences of the terms, and the promise 29. Run by SentencesTest. */
final class ReasonSentences {
    private static final int BAD = KettleGuild.BAD;
    private static final int NOTHING = KettleGuild.NOTHING;
    private static final int REFUSED = KettleGuild.REFUSED;

    private ReasonSentences() {
    }

    // ---- Terms: reasons

    @Sentence(in = "Terms", says = "Something is refused for the first of the reasons that its method names, in the order in which it names them, with a detail")
    static void firstOfTheReasonsInTheirOrder(Check check) {
        Guild guild = Guild.after("own 0 1; own 0 2; own 0 3; own 0 4; own 1 5; kettle 0 1 0; kettle 0 1 0; kettle 0 2 0; kettle 1 5 9");
        guild.then("heat 0 5; set 2 0; minute 5; set 0 1; set 3 3; lid 3-; appeal 2 1; appeal 1 2; appeal 3 2");
        check.refused("own: 2 ahead of 1", guild, guild.own(0, 5), 2, 1);
        check.refused("set: 5 ahead of 6 and 7", guild, guild.set(0, 3), 4, 0, 5, 1);
        check.refused("set: 6 ahead of 7", guild, guild.set(1, 3), 4, 1, 6, 3);
        check.refused("set: 6 ahead of 8", guild, guild.set(2, 3), 4, 2, 6, 3);
        guild.then("kettle 0 2 0; set 4 5");
        check.refused("set: 7 ahead of 8", guild, guild.set(2, 4), 4, 2, 7, 5);
        check.refused("lid: 9 for a barred lid that is taken off", guild, guild.lid(2, 0), 9, 0);
        check.refused("appeal: 13 ahead of 15", guild, guild.appeal(1, 3), 13, 1);
        guild.then("lid 1-");
        check.refused("appeal: 15 ahead of 14", guild, guild.appeal(2, 1), 15, 2);
        guild.then("kettle 0 1 0; kettle 0 1 0; kettle 0 1 0; kettle 0 1 0; kettle 0 1 0");
        check.refused("kettle: 3 ahead of 1", guild, guild.kettle(0, 5, 1), 3, 1);
    }

    @Sentence(in = "Terms", says = "1, the member owns 4 pitches, or 10 kettles are there: this number")
    static void reason1(Check check) {
        Guild guild = Guild.after("own 3 1; own 3 2; own 3 3; own 3 4");
        check.refused("the fifth pitch", guild, guild.own(3, 5), 1, 4);
        for (int kettle = 0; kettle < 10; kettle++) {
            check.due("kettle", guild.kettle(3, 4, 0), kettle);
        }
        check.refused("the eleventh kettle", guild, guild.kettle(3, 4, 0), 1, 10);
    }

    @Sentence(in = "Terms", says = "2, the pitch is owned: by whom")
    @Sentence(in = "Terms", says = "the reason 2 also the member who asks.")
    static void reason2(Check check) {
        Guild guild = Guild.after("own 0 1; own 1 2; own 2 3; own 3 4");
        for (int member = 0; member < 4; member++) {
            for (int pitch = 1; pitch <= 4; pitch++) {
                check.refused("own(" + member + ", " + pitch + ")", guild, guild.own(member, pitch), 2, pitch - 1);
            }
        }
    }

    @Sentence(in = "Terms", says = "3, the member does not own the pitch: who does, -1 for none")
    static void reason3(Check check) {
        Guild guild = Guild.after("own 0 1; own 1 2; own 2 3; own 3 4");
        for (int member = 0; member < 4; member++) {
            int next = (member + 1) % 4;
            check.refused("kettle of the pitch of " + next, guild, guild.kettle(member, next + 1, 5), 3, next);
            check.refused("kettle of the pitch of none", guild, guild.kettle(member, 12, 5), 3, -1);
        }
    }

    @Sentence(in = "Terms", says = "4, the kettle cannot be set on the stove: the kettle; behind it stands 5, it is on a stove: this")
    static void reason4And5(Check check) {
        Guild guild = Guild.after("own 0 1; own 0 2; kettle 0 1 9; kettle 0 2 9; set 0 5; set 1 0");
        check.refused("set(0, 3)", guild, guild.set(0, 3), 4, 0, 5, 5);
        check.refused("set(1, 3)", guild, guild.set(1, 3), 4, 1, 5, 0);
    }

    @Sentence(in = "Terms", says = "or 6, there is a kettle on the stove: this kettle")
    static void reason6(Check check) {
        Guild guild = Guild.after("own 0 1; own 0 2; own 0 3");
        for (int kettle = 0; kettle < 8; kettle++) {
            guild.then("kettle 0 1 1");
        }
        guild.then("kettle 0 2 9; kettle 0 3 9; set 0 5; set 9 0");
        check.refused("set(8, 5)", guild, guild.set(8, 5), 4, 8, 6, 0);
        check.refused("set(8, 0)", guild, guild.set(8, 0), 4, 8, 6, 9);
    }

    @Sentence(in = "Terms", says = "or 7, a kettle of the same pitch is on a stove: that stove")
    static void reason7(Check check) {
        Guild guild = Guild.after("own 0 1; own 0 2; kettle 0 1 9; kettle 0 2 9; kettle 0 1 9; kettle 0 2 9; set 0 5; set 1 0");
        check.refused("set(2, 3)", guild, guild.set(2, 3), 4, 2, 7, 5);
        check.refused("set(3, 3)", guild, guild.set(3, 3), 4, 3, 7, 0);
    }

    @Sentence(in = "Terms", says = "or 8, it is banned: for how many minutes")
    static void reason8(Check check) {
        Guild guild = Guild.after("own 0 1; kettle 0 1 9; kettle 0 1 0; heat 0 5; set 1 0; minute 5");
        for (int ban = 6; ban >= 1; ban--) {
            check.refused("set(1, 0)", guild, guild.set(1, 0), 4, 1, 8, ban);
            guild.minute(1);
        }
        check.due("set(1, 0) behind the ban", guild.set(1, 0), 1);
    }

    @Sentence(in = "Terms", says = "9, it is so already: the number that was told, or, for lids, 1 for on and 0 for off")
    static void reason9(Check check) {
        Guild guild = Guild.after("own 0 1; kettle 0 1 9; kettle 0 1 9; lid 1-; heat 0 5; heat 5 1");
        check.refused("heat(0, 5)", guild, guild.heat(0, 5), 9, 5);
        check.refused("heat(5, 1)", guild, guild.heat(5, 1), 9, 1);
        check.refused("heat(3, 0)", guild, guild.heat(3, 0), 9, 0);
        check.refused("lid(0, 1)", guild, guild.lid(0, 1), 9, 1);
        check.refused("lid(1, 0)", guild, guild.lid(1, 0), 9, 0);
    }

    @Sentence(in = "Terms", says = "10, the kettle is on no stove: how many are")
    static void reason10(Check check) {
        Guild guild = Guild.after("own 0 1; own 0 2; own 0 3; kettle 0 1 9; kettle 0 2 9; kettle 0 3 9");
        check.refused("none is", guild, guild.off(2), 10, 0);
        guild.then("set 0 5; set 1 0");
        check.refused("two are", guild, guild.off(2), 10, 2);
    }

    @Sentence(in = "Terms", says = "11, there would be more than 20 of water: how much")
    @Sentence(in = "Terms", says = "The reason 11 tells how much water there would be")
    static void reason11(Check check) {
        Guild guild = Guild.after("own 0 1; kettle 0 1 20; kettle 0 1 1");
        check.refused("20 and 1", guild, guild.fill(0, 1), 11, 21);
        check.refused("20 and 20", guild, guild.fill(0, 20), 11, 40);
        check.refused("1 and 20", guild, guild.fill(1, 20), 11, 21);
        check.due("1 and 19", guild.fill(1, 19), 20);
    }

    @Sentence(in = "Terms", says = "12, the lid is barred: how many minutes until the next harmony")
    static void reason12(Check check) {
        Guild guild = Guild.after("own 0 1; kettle 0 1 9");
        for (int minute = 0; minute < 14; minute++) {
            if (guild.kettleOf(0, 4) == 1) {
                guild.then("appeal 1 0; appeal 2 0");
            }
            check.refused("lid(0, 1) in the minute " + minute, guild, guild.lid(0, 1), 12, 6 - minute % 6);
            guild.minute(1);
            if (minute % 6 == 5) {
                guild.then("lid 0+");
            }
        }
    }

    @Sentence(in = "Terms", says = "13, the kettle is the member's own: the member")
    static void reason13(Check check) {
        Guild guild = Guild.after("own 0 1; own 1 2; own 2 3; own 3 4; kettle 0 1 9; kettle 1 2 9; kettle 2 3 9; kettle 3 4 9");
        for (int member = 0; member < 4; member++) {
            check.refused("appeal", guild, guild.appeal(member, member), 13, member);
        }
    }

    @Sentence(in = "Terms", says = "14, the member appealed it already: how many did")
    static void reason14(Check check) {
        Guild guild = Guild.after("own 0 1; kettle 0 1 9; kettle 0 1 9; appeal 3 0; appeal 3 1; appeal 2 1");
        check.refused("appeal(3, 0) again", guild, guild.appeal(3, 0), 14, 1);
        check.due("appeal(2, 0)", guild.appeal(2, 0), 1);
    }

    @Sentence(in = "Terms", says = "15, the lid is off: how many lids are on")
    static void reason15(Check check) {
        Guild guild = Guild.after("own 0 1");
        for (int kettle = 0; kettle < 10; kettle++) {
            guild.then("kettle 0 1 9");
        }
        for (int kettle = 0; kettle < 10; kettle++) {
            guild.then("lid " + kettle + "-");
            check.refused("appeal", guild, guild.appeal(1, kettle), 15, 9 - kettle);
        }
    }

    @Sentence(in = "Terms", says = "16, an order cannot be carried out: its number, from 0.")
    static void reason16(Check check) {
        Guild guild = Guild.after("own 0 1; kettle 0 1 9");
        StringBuilder ahead = new StringBuilder();
        for (int number = 0; number < 8; number++) {
            check.refusesText(guild, ahead + "off 0", 16, number, 10, 0);
            ahead.append(number % 2 == 0 ? "lid 0-;" : "lid 0+;");
        }
        Guild most = Guild.whistling(1, 2, 3, 4, 5, 6);
        check.refusesText(most, "off 0;off 1;off 2;off 3;off 4;off 5;lid 0-;lid 0+;off 0", 16, 8, 10, 0);
    }

    @Sentence(in = "Terms", says = "Behind 16 stands the reason for which the order was refused, with what stands behind that, or none if it had another code.")
    static void whatStandsBehindReason16(Check check) {
        Guild guild = Guild.after("own 0 1; own 1 2; own 2 3; own 2 4; own 2 5; own 2 6; kettle 0 1 20; kettle 0 1 0; kettle 1 2 9; set 0 4; lid 2-; heat 0 5");
        check.refusesText(guild, "own 2 7", 16, 0, 1, 4);
        check.refusesText(guild, "own 2 1", 16, 0, 2, 0);
        check.refusesText(guild, "minute 1;kettle 0 2 5", 16, 1, 3, 1);
        check.refusesText(guild, "set 0 5", 16, 0, 4, 0, 5, 4);
        check.refusesText(guild, "minute 1;minute 1;set 2 4", 16, 2, 4, 2, 6, 0);
        check.refusesText(guild, "set 1 5", 16, 0, 4, 1, 7, 4);
        check.refusesText(guild, "off 0;set 1 0;minute 6;set 1 0", 16, 3, 4, 1, 8, 5);
        check.refusesText(guild, "off 9", 16, 0);
        check.refusesText(guild, "heat 2 0", 16, 0, 9, 0);
        check.refusesText(guild, "lid 0+", 16, 0, 9, 1);
        check.refusesText(guild, "off 1", 16, 0, 10, 1);
        check.refusesText(guild, "fill 0 20", 16, 0, 11, 40);
        check.refusesText(guild, "fill 0 21", 16, 0);
        check.refusesText(guild, "minute 4;appeal 2 0;appeal 3 0;lid 0+", 16, 3, 12, 2);
        check.refusesText(guild, "appeal 1 2", 16, 0, 13, 1);
        check.refusesText(guild, "appeal 1 0;appeal 1 0", 16, 1, 14, 1);
        check.refusesText(guild, "appeal 0 2", 16, 0, 15, 2);
        check.refusesText(guild, "own 4 1", 16, 0);
    }

    // ---- Promise 29

    @Sentence(in = "Promise 29: reason", says = "Returns the latest reason, or one that stands behind it, or a detail.")
    @Sentence(in = "Promise 29: reason", says = "`depth`: 0 for the reason, 1 for the one behind it, 2 for the one behind that")
    @Sentence(in = "Promise 29: reason", says = "Returns the number")
    static void reasonReturnsTheLatest(Check check) {
        Guild guild = Guild.after("own 0 1; kettle 0 1 9; set 0 3");
        check.refusesText(guild, "set 0 5", 16, 0, 4, 0, 5, 3);
        check.refused("of two behind one of three", guild, guild.set(0, 3), 4, 0, 5, 3);
        check.refused("alone behind one of two", guild, guild.heat(0, 0), 9, 0);
        check.refused("a detail below 0", guild, guild.kettle(0, 2, 2), 3, -1);
        check.due("what goes well", guild.lid(0, 0), 0);
        check.reasons("behind what goes well", guild, 3, -1);
        check.due("another code", guild.lid(0, 2), BAD);
        check.reasons("behind another code", guild, 3, -1);
        check.due("minute", guild.minute(9), 0);
        check.reasons("behind minutes", guild, 3, -1);
    }

    @Sentence(in = "Promise 29: reason", says = "BAD if the depth is not from 0 to 2")
    static void reasonOfNoSuchDepth(Check check) {
        Guild guild = new Guild();
        int[] outside = Check.outside(0, 2);
        check.each("reason(?, false) of nothing", BAD, depth -> guild.reason(depth, false), outside);
        check.each("reason(?, true) of nothing", BAD, depth -> guild.reason(depth, true), outside);
        guild.then("own 0 1; kettle 0 1 9; set 0 3");
        check.refusesText(guild, "set 0 5", 16, 0, 4, 0, 5, 3);
        check.each("reason(?, false)", BAD, depth -> guild.reason(depth, false), outside);
        check.each("reason(?, true)", BAD, depth -> guild.reason(depth, true), outside);
    }

    @Sentence(in = "Promise 29: reason", says = "NOTHING if nothing was refused, or none stands there.")
    static void reasonOfNothing(Check check) {
        Guild guild = new Guild();
        check.reasons("of a new guild", guild);
        guild.then("own 0 1");
        guild.own(4, 1);
        guild.own(0, 13);
        guild.append(31);
        guild.run("x");
        check.reasons("behind other codes", guild);
        check.due("own(1, 1)", guild.own(1, 1), REFUSED);
        check.due("reason(0, false)", guild.reason(0, false), 2);
        check.due("reason(1, false)", guild.reason(1, false), NOTHING);
        check.due("reason(1, true)", guild.reason(1, true), NOTHING);
        check.due("reason(2, false)", guild.reason(2, false), NOTHING);
        check.due("reason(2, true)", guild.reason(2, true), NOTHING);
    }
}
