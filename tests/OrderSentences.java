/** The pitch that fits best, members, and both in an order: the promises 20 to 23. Run by SentencesTest. */
final class OrderSentences {
    private static final int NONE = KettleGuild.NONE;
    private static final int BAD = KettleGuild.BAD;

    private OrderSentences() {
    }

    // ---- Promise 20

    @Sentence(in = "Terms", says = "Without whistles the pitch 1 would fit best.")
    static void bestPitchWithoutWhistles(Check check) {
        check.due("of a new guild", new Guild().bestPitch(), 1);
        Guild guild = Guild.whistling(1);
        check.due("with the whistle 1", guild.bestPitch(), 4);
        guild.lid(0, 0);
        check.due("without its lid", guild.bestPitch(), 1);
        guild.then("lid 0+; off 0");
        check.due("without its stove", guild.bestPitch(), 1);
    }

    @Sentence(in = "Promise 20: bestPitch", says = "of those that no whistling kettle has, the one with which the most of these would sound well, less those with which badly")
    @Sentence(in = "Promise 20: bestPitch", says = "Returns the pitch.")
    static void bestPitchOfAllSetsOfWhistles(Check check) {
        for (int mask = 1; mask < 1 << 12; mask++) {
            if (Integer.bitCount(mask) <= 3 || mask % 7 == 0 && Integer.bitCount(mask) <= 6) {
                int[] pitches = pitchesIn(mask);
                check.due("with the pitches of " + mask, Guild.whistling(pitches).bestPitch(), bestPitch(pitches));
            }
        }
        check.due("with six in a row, where each fits badly", Guild.whistling(4, 5, 6, 7, 8, 9).bestPitch(), 1);
    }

    private static int[] pitchesIn(int mask) {
        int[] pitches = new int[Integer.bitCount(mask)];
        int found = 0;
        for (int pitch = 1; pitch <= 12; pitch++) {
            if ((mask >> pitch - 1 & 1) == 1) {
                pitches[found++] = pitch;
            }
        }
        return pitches;
    }

    private static int bestPitch(int... pitches) {
        int best = 0;
        int bestFit = -100;
        for (int pitch = 1; pitch <= 12; pitch++) {
            int fit = 0;
            for (int other : pitches) {
                String difference = " " + Math.abs(pitch - other) + " ";
                fit += " 3 4 5 7 8 9 ".contains(difference) ? 1 : " 1 2 6 10 11 ".contains(difference) ? -1 : -1000;
            }
            if (fit > bestFit) {
                best = pitch;
                bestFit = fit;
            }
        }
        return best;
    }

    @Sentence(in = "Promise 20: bestPitch", says = "of several the lowest.")
    static void bestPitchOfSeveralTheLowest(Check check) {
        check.due("4 to 6 and 8 to 10 fit 1 well", Guild.whistling(1).bestPitch(), 4);
        check.due("3 to 5 and 7 to 9 fit 12 well", Guild.whistling(12).bestPitch(), 3);
        check.due("1 fits 4 well", Guild.whistling(4).bestPitch(), 1);
        check.due("8 and 9 fit 1 and 4 well", Guild.whistling(1, 4).bestPitch(), 8);
    }

    @Sentence(in = "Promise 20: bestPitch", says = "of those that no whistling kettle has")
    static void bestPitchIsOfNoWhistlingKettle(Check check) {
        Guild guild = Guild.whistling(8, 1, 4);
        check.due("8 fits 1 and 4 best, but whistles", guild.bestPitch(), 5);
        guild.lid(0, 0);
        check.due("8 whistles no longer", guild.bestPitch(), 8);
    }

    // ---- Promise 21

    @Sentence(in = "Promise 21: memberOf", says = "0 for the points, 1 for the pitches owned, 2 for the kettles, 3 for those of them that whistle")
    @Sentence(in = "Promise 21: memberOf", says = "Returns the number")
    static void memberOfPointsPitchesKettlesWhistles(Check check) {
        Guild guild = Guild.after("own 0 1; own 0 4; own 0 8; own 3 12; own 3 11; kettle 3 12 20; kettle 0 1 20; kettle 0 4 20; kettle 0 1 20");
        guild.then("heat 0 5; heat 1 5; heat 2 5; set 0 0; set 1 1; set 2 2; lid 2-; minute 4");
        check.member("the first", guild, 0, 0, 3, 3, 1, 0, 0);
        check.member("the last", guild, 3, 0, 2, 1, 1, 0, 0);
        guild.then("minute 2; lid 2+");
        check.member("the first, behind a harmony that sounds badly", guild, 0, -1, 3, 3, 2, 0, 0);
        check.member("the last, behind a harmony that sounds badly", guild, 3, -1, 2, 1, 1, 0, 0);
        check.member("another one", guild, 1, 0, 0, 0, 0, 0, 0);
        guild.then("off 1; off 2; set 3 1; minute 4");
        check.member("with the last kettle, which whistles", guild, 0, -1, 3, 3, 1, 0, 0);
    }

    @Sentence(in = "Promise 21: memberOf", says = "4 for how many kettles of the member boiled dry so far")
    static void memberOfBoiledDrySoFar(Check check) {
        Guild guild = Guild.after("own 3 1; own 0 2; kettle 3 1 0; kettle 0 2 9; heat 0 5; set 0 0; minute 4");
        check.due("none yet", guild.memberOf(3, 4), 0);
        guild.minute(1);
        check.due("one", guild.memberOf(3, 4), 1);
        guild.then("minute 6; set 0 0; minute 4");
        check.due("the same kettle anew", guild.memberOf(3, 4), 2);
        check.due("of another member", guild.memberOf(0, 4), 0);
    }

    @Sentence(in = "Promise 21: memberOf", says = "5 for the appeals made so far")
    static void memberOfAppealsMadeSoFar(Check check) {
        Guild guild = Guild.after("own 1 1; kettle 1 1 9; kettle 1 1 9; appeal 0 0; appeal 0 1");
        check.due("of the first", guild.memberOf(0, 5), 2);
        guild.appeal(3, 0);
        check.due("of the last", guild.memberOf(3, 5), 1);
        check.due("those that are gone count on", guild.memberOf(0, 5), 2);
        guild.appeal(0, 0);
        guild.appeal(0, 1);
        guild.appeal(1, 1);
        check.due("those that are refused do not count", guild.memberOf(0, 5), 2);
        check.due("those that are refused do not count", guild.memberOf(1, 5), 0);
        guild.then("minute 6; lid 0+; appeal 0 0");
        check.due("one made anew counts", guild.memberOf(0, 5), 3);
    }

    @Sentence(in = "Promise 21: memberOf", says = "NONE if there is no such member")
    static void memberOfWithoutSuchAMember(Check check) {
        Guild guild = Guild.after("own 0 1; own 3 2");
        int[] outside = Check.outside(0, 3);
        check.each("memberOf(?, 0)", NONE, member -> guild.memberOf(member, 0), outside);
        check.each("memberOf(?, 5)", NONE, member -> guild.memberOf(member, 5), outside);
        check.each("memberOf(?, 6), listed ahead of BAD", NONE, member -> guild.memberOf(member, 6), outside);
        check.each("memberOf(4, ?)", NONE, what -> guild.memberOf(4, what), 0, 1, 2, 3, 4, 5);
        check.due("memberOf(0, 1)", guild.memberOf(0, 1), 1);
        check.due("memberOf(3, 1)", guild.memberOf(3, 1), 1);
    }

    @Sentence(in = "Promise 21: memberOf", says = "BAD if what is not from 0 to 5.")
    static void memberOfWithoutSuchAWhat(Check check) {
        Guild guild = Guild.after("own 0 1");
        check.each("memberOf(0, ?)", BAD, what -> guild.memberOf(0, what), Check.outside(0, 5));
        check.each("memberOf(3, ?)", BAD, what -> guild.memberOf(3, what), Check.outside(0, 5));
        check.member("from 0 to 5", guild, 0, 0, 1, 0, 0, 0, 0);
    }

    // ---- Promise 22

    @Sentence(in = "Promise 22: ranked", says = "the most first, of several the one with more pitches owned, then the lowest.")
    @Sentence(in = "Promise 22: ranked", says = "Returns the member")
    static void rankedByPointsThenPitchesThenNumber(Check check) {
        Guild guild = Guild.after("own 3 1; own 1 2; own 1 3; own 2 7; kettle 1 2 0; kettle 3 1 20");
        dueRanks(check, "by pitches, then the lowest", guild, 1, 2, 3, 0);
        guild.then("heat 0 5; set 0 0; minute 5");
        dueRanks(check, "the fewest points last, with the most pitches", guild, 2, 3, 0, 1);
        Guild well = Guild.after("own 3 1; own 2 4; own 0 12; own 0 11; kettle 3 1 20; kettle 2 4 20; heat 0 5; heat 1 5; set 0 0; set 1 1; minute 6");
        dueRanks(check, "the most points first, with fewer pitches", well, 2, 3, 0, 1);
        well.then("own 3 2");
        dueRanks(check, "as many points, by pitches", well, 3, 2, 0, 1);
        dueRanks(check, "of a new guild", new Guild(), 0, 1, 2, 3);
    }

    private static void dueRanks(Check check, String when, Guild guild, int... members) {
        for (int place = 0; place < 4; place++) {
            check.due("ranked(" + place + ") " + when, guild.ranked(place), members[place]);
        }
    }

    @Sentence(in = "Promise 22: ranked", says = "`place`: the place, from 0")
    @Sentence(in = "Promise 22: ranked", says = "NONE if there is no such place.")
    static void rankedFrom0To3(Check check) {
        Guild guild = Guild.after("own 3 1");
        check.each("ranked(?)", NONE, guild::ranked, Check.outside(0, 3));
        check.due("the first place", guild.ranked(0), 3);
        check.due("the last place", guild.ranked(3), 2);
    }

    // ---- Promise 23

    @Sentence(in = "Promise 23: hottest", says = "the hottest first, of several the one with less water, then the lowest.")
    @Sentence(in = "Promise 23: hottest", says = "Returns the kettle")
    static void hottestByTemperatureThenWaterThenNumber(Check check) {
        Guild guild = Guild.after("own 0 1; own 0 2; kettle 0 1 9; kettle 0 2 5; kettle 0 2 9; kettle 0 1 5; kettle 0 2 0");
        dueHottest(check, "by water, then the lowest", guild, 4, 1, 3, 0, 2);
        guild.then("heat 0 1; heat 5 2; set 2 0; set 0 5; minute 1");
        dueHottest(check, "by temperature first", guild, 0, 2, 4, 1, 3);
        guild.then("off 0; minute 1");
        dueHottest(check, "the other one hotter", guild, 2, 0, 4, 1, 3);
        guild.then("heat 0 0; minute 1; fill 1 15");
        dueHottest(check, "four as cold, by water", guild, 2, 4, 3, 0, 1);
    }

    private static void dueHottest(Check check, String when, Guild guild, int... kettles) {
        for (int place = 0; place < kettles.length; place++) {
            check.due("hottest(" + place + ") " + when, guild.hottest(place), kettles[place]);
        }
    }

    @Sentence(in = "Promise 23: hottest", says = "`place`: the place, from 0")
    @Sentence(in = "Promise 23: hottest", says = "NONE if there is no such place.")
    static void hottestFrom0ToTheLastKettle(Check check) {
        Guild guild = Guild.after("own 0 1");
        for (int kettles = 0; kettles <= 10; kettles++) {
            check.each("hottest(?) of " + kettles, NONE, guild::hottest, -1, kettles, 11, Integer.MIN_VALUE, Integer.MAX_VALUE);
            if (kettles > 0) {
                check.due("the first place", guild.hottest(0), kettles - 1);
                check.due("the last place", guild.hottest(kettles - 1), 0);
            }
            guild.kettle(0, 1, 20 - kettles);
        }
        check.each("hottest(?) of ten", NONE, guild::hottest, Check.outside(0, 9));
    }
}
