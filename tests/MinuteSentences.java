/** Minutes and harmonies: the sentences of the terms, and the promises 13 to 19. Run by SentencesTest. */
final class MinuteSentences {
    private static final int NONE = KettleGuild.NONE;
    private static final int BAD = KettleGuild.BAD;
    private static final int NOTHING = KettleGuild.NOTHING;

    /** By their difference: 1 for two pitches that sound well together, -1 for badly. */
    private static final int[] SOUNDS = {0, -1, -1, 1, 1, 1, -1, 1, 1, 1, -1, -1};

    /** The kettle 0, which boils behind the minute 4. */
    private static final String HOT = "own 0 1; kettle 0 1 9; heat 0 5; set 0 0";

    private MinuteSentences() {
    }

    // ---- Terms: minutes

    @Sentence(in = "Terms", says = "A kettle boils if it is on a stove with a heat above 0, and its temperature is 100")
    static void boilsOnAStoveWithHeatAbove0At100(Check check) {
        Guild guild = Guild.after(HOT + "; minute 3");
        dueBoils(check, "at 95", guild, 0);
        guild.minute(1);
        dueBoils(check, "at 100", guild, 1);
        guild.heat(0, 0);
        dueBoils(check, "at 100 with the heat 0", guild, 0);
        guild.heat(0, 1);
        dueBoils(check, "at 100 with the heat 1", guild, 1);
        guild.off(0);
        dueBoils(check, "at 100 on no stove", guild, 0);
        guild.then("minute 1; set 0 0");
        dueBoils(check, "at 95 with the heat 1", guild, 0);
        guild.then("minute 1; lid 0-");
        dueBoils(check, "at 100 without the lid", guild, 1);
        Guild empty = Guild.after("own 0 1; kettle 0 1 0; heat 0 5; set 0 0; minute 4");
        dueBoils(check, "at 100 without water", empty, 1);
    }

    private static void dueBoils(Check check, String when, Guild guild, int boils) {
        check.due("boils " + when, guild.kettleOf(0, 6), boils);
        check.due("account(2) " + when, guild.account(2), boils);
    }

    @Sentence(in = "Terms", says = "it whistles if it boils, has water, and its lid is on")
    static void whistlesIfItBoilsHasWaterAndItsLidIsOn(Check check) {
        Guild guild = Guild.after("own 0 1; kettle 0 1 0; heat 0 5; set 0 0; minute 3");
        guild.fill(0, 1);
        check.due("at 95, with water 1", guild.kettleOf(0, 7), 0);
        guild.then("minute 1");
        check.due("at 100, with water 1", guild.kettleOf(0, 7), 1);
        check.due("its bit", guild.whistling(), 1);
        guild.lid(0, 0);
        check.due("without the lid", guild.kettleOf(0, 7), 0);
        check.due("its bit", guild.whistling(), 0);
        guild.then("lid 0+; heat 0 0");
        check.due("without heat", guild.kettleOf(0, 7), 0);
        Guild empty = Guild.after("own 0 1; kettle 0 1 0; heat 0 5; set 0 0; minute 4");
        check.due("without water", empty.kettleOf(0, 7), 0);
        check.due("its bit", empty.whistling(), 0);
        empty.fill(0, 1);
        check.due("with water", empty.kettleOf(0, 7), 1);
    }

    @Sentence(in = "Terms", says = "Minutes are counted from 0.")
    static void minutesAreCountedFrom0(Check check) {
        Guild guild = new Guild();
        check.due("at first", guild.account(5), 0);
        guild.minute(1);
        check.due("behind one", guild.account(5), 1);
        guild.minute(9);
        check.due("behind ten", guild.account(5), 10);
    }

    @Sentence(in = "Terms", says = "In a minute, first each kettle that boils and has water loses 1 of it.")
    static void eachKettleThatBoilsLosesOneWater(Check check) {
        Guild guild = Guild.after("own 0 1; own 0 2; own 0 3; own 0 4; kettle 0 1 9; kettle 0 2 20; kettle 0 3 9; kettle 0 4 9");
        guild.then("heat 0 5; heat 1 5; heat 2 3; set 0 0; set 1 1; set 2 2; lid 1-; minute 4");
        dueWaters(check, "in the minute in which two become hot", guild, 9, 20, 9, 9);
        guild.minute(1);
        dueWaters(check, "in the next, also without the lid", guild, 8, 19, 9, 9);
        guild.then("heat 0 0; minute 1");
        dueWaters(check, "without heat, and as the third becomes hot", guild, 8, 18, 9, 9);
        guild.then("off 1; minute 1");
        dueWaters(check, "on no stove", guild, 8, 18, 8, 9);
        check.due("water boiled away", guild.account(8), 4);
    }

    private static void dueWaters(Check check, String when, Guild guild, int... waters) {
        for (int kettle = 0; kettle < waters.length; kettle++) {
            check.due("water of " + kettle + " " + when, guild.kettleOf(kettle, 2), waters[kettle]);
        }
    }

    @Sentence(in = "Terms", says = "Then each kettle that boils and has no water boils dry")
    static void eachKettleWithoutWaterBoilsDry(Check check) {
        Guild guild = Guild.after("own 0 1; own 0 2; own 0 3; own 0 4; kettle 0 1 0; kettle 0 2 1; kettle 0 3 2; kettle 0 4 0");
        guild.then("heat 0 5; heat 1 5; heat 2 5; heat 3 3; set 0 0; set 1 1; set 2 2; set 3 3");
        check.due("minute(4)", guild.minute(4), 0);
        check.due("without water, and with the last of it", guild.minute(1), 2);
        check.due("kettles on stoves", guild.account(1), 2);
        check.due("with two of it", guild.minute(1), 1);
        check.due("the one that became hot later", guild.minute(1), 1);
        check.due("kettles on stoves", guild.account(1), 0);
        check.due("kettles boiled dry", guild.account(9), 4);
        Guild warm = Guild.after("own 0 1; kettle 0 1 0; heat 0 5; set 0 0; minute 4; heat 0 0");
        check.due("without heat none boils dry", warm.minute(9), 0);
        warm.then("off 0");
        check.due("on no stove none boils dry", warm.minute(1), 0);
    }

    @Sentence(in = "Terms", says = "it is taken off its stove and banned for 6 minutes, and its member loses 2 points.")
    static void boiledDryIsTakenOffAndBannedAndLoses2(Check check) {
        Guild guild = Guild.after("own 3 1; own 3 2; own 1 3; kettle 3 1 0; kettle 3 2 1; kettle 1 3 9");
        guild.then("heat 0 5; heat 1 5; heat 5 5; set 0 0; set 1 5; set 2 1; minute 4");
        check.points("ahead of it", guild, 0, 0, 0, 0);
        guild.minute(1);
        check.kettle("without water", guild, 0, 3, 1, 0, 95, 1, NOTHING, 0, 0, 6, 0);
        check.kettle("with the last water", guild, 1, 3, 2, 0, 95, 1, NOTHING, 0, 0, 6, 0);
        check.kettle("with water", guild, 2, 1, 3, 8, 100, 1, 1, 1, 1, 0, 0);
        check.points("2 for each", guild, 0, 0, 0, -4);
        check.due("memberOf(3, 4)", guild.memberOf(3, 4), 2);
        check.tellsStoves(guild, "55(2)0005");
        check.refused("set(0, 0)", guild, guild.set(0, 0), 4, 0, 8, 6);
    }

    @Sentence(in = "Terms", says = "Then each kettle on a stove becomes warmer by 5 times the heat, up to 100")
    static void warmerBy5TimesTheHeatUpTo100(Check check) {
        for (int heat = 0; heat <= 5; heat++) {
            Guild guild = Guild.after("own 0 1; kettle 0 1 20; set 0 2");
            if (heat > 0) {
                guild.heat(2, heat);
            }
            for (int minute = 1; minute <= 18; minute++) {
                guild.minute(1);
                check.due("with the heat " + heat, guild.kettleOf(0, 3), Math.min(100, 20 + 5 * heat * minute));
            }
        }
        Guild two = Guild.after("own 0 1; own 0 2; kettle 0 1 20; kettle 0 2 20; heat 0 1; heat 5 4; set 0 5; set 1 0; minute 1");
        check.due("on the last stove", two.kettleOf(0, 3), 40);
        check.due("on the first stove", two.kettleOf(1, 3), 25);
    }

    @Sentence(in = "Terms", says = "and each other one colder by 5, down to 20.")
    static void colderBy5DownTo20(Check check) {
        Guild guild = Guild.after(HOT + "; heat 1 5; minute 4; off 0");
        for (int minute = 1; minute <= 17; minute++) {
            guild.minute(1);
            check.due("on no stove", guild.kettleOf(0, 3), Math.max(20, 100 - 5 * minute));
        }
        Guild both = Guild.after("own 0 1; own 0 2; kettle 0 1 9; kettle 0 2 9; heat 0 1; set 0 0; minute 2; off 0; set 1 0; minute 1");
        check.due("the one off", both.kettleOf(0, 3), 25);
        check.due("the one on", both.kettleOf(1, 3), 25);
    }

    @Sentence(in = "Terms", says = "Then each ban, those of this minute not, is 1 minute shorter.")
    static void bansGetShorterButNotThoseOfThisMinute(Check check) {
        Guild guild = Guild.after("own 0 1; own 0 2; kettle 0 1 0; kettle 0 2 2; heat 0 5; heat 1 5; set 0 0; set 1 1; minute 5");
        int[][] bans = {{6, 0}, {5, 6}, {4, 5}, {3, 4}, {2, 3}, {1, 2}, {0, 1}, {0, 0}, {0, 0}};
        for (int minute = 0; minute < bans.length; minute++) {
            check.due("ban of 0 behind " + minute, guild.kettleOf(0, 8), bans[minute][0]);
            check.due("ban of 1 behind " + minute, guild.kettleOf(1, 8), bans[minute][1]);
            guild.minute(1);
        }
    }

    @Sentence(in = "Terms", says = "Then the minute has gone; if the number of minutes can be divided by 6, there is a harmony.")
    static void harmonyEachSixthMinute(Check check) {
        Guild guild = Guild.whistling(1, 5);
        for (int minute = 5; minute <= 19; minute++) {
            guild.minute(1);
            check.due("minutes", guild.account(5), minute);
            check.points("in the minute " + minute, guild, minute / 6, minute / 6, 0, 0);
        }
        Guild late = Guild.after("own 0 1; own 1 5; kettle 0 1 20; kettle 1 5 20; minute 1; heat 0 5; heat 1 5; set 0 0; set 1 1");
        late.minute(4);
        check.points("in the minute 5", late, 0, 0);
        late.minute(1);
        check.points("in the minute 6", late, 1, 1);
        late.minute(9);
        check.points("over the minute 12", late, 2, 2);
        Guild twice = Guild.whistling(1, 5);
        twice.minute(9);
        check.points("over the minutes 6 and 12", twice, 2, 2);
    }

    // ---- Terms: harmonies

    @Sentence(in = "Terms", says = "Two pitches sound well together if they differ by 3, 4, 5, 7, 8 or 9, and badly if by 1, 2, 6, 10 or 11.")
    static void wellBy345789BadlyBy126And10And11(Check check) {
        for (int pitch = 1; pitch <= 12; pitch++) {
            for (int other = 1; other <= 12; other++) {
                if (other != pitch) {
                    dueSound(check, pitch, other);
                }
            }
        }
    }

    private static void dueSound(Check check, int pitch, int other) {
        String orders = "own 1 " + pitch + "; own 2 " + other + "; kettle 1 " + pitch + " 20; kettle 2 " + other + " 20";
        Guild guild = Guild.after(orders + "; heat 0 5; heat 1 5; set 0 0; set 1 1; minute 4");
        int sound = SOUNDS[Math.abs(pitch - other)];
        String when = "of " + pitch + " and " + other;
        check.due("harmony " + when, guild.harmony(), sound);
        check.due("harmonyAgain " + when, guild.harmonyAgain(), sound);
        guild.minute(2);
        check.points("harmony in the minute 6 " + when, guild, 0, sound, sound, 0);
    }

    @Sentence(in = "Terms", says = "In a harmony, for each pair of kettles that whistle, both members get 1 point each if their pitches sound well together")
    static void bothMembersOfEachPairGetAPoint(Check check) {
        Guild guild = Guild.after("own 0 1; own 1 4; own 2 8; own 3 12; kettle 0 1 20; kettle 1 4 20; kettle 2 8 20; kettle 3 12 20");
        guild.then("heat 0 5; heat 1 5; heat 2 5; heat 3 5; set 0 0; minute 6");
        check.points("one whistle alone", guild, 0, 0, 0, 0);
        guild.then("set 1 1; set 2 2; minute 6");
        check.points("three pairs, which differ by 3, 7 and 4", guild, 2, 2, 2, 0);
        guild.then("lid 0-; minute 6");
        check.points("without the one whose lid is off", guild, 2, 3, 3, 0);
    }

    @Sentence(in = "Terms", says = "and lose 1 point each if badly.")
    static void bothMembersOfEachPairLoseAPoint(Check check) {
        Guild guild = Guild.after("own 0 1; own 1 2; own 2 3; own 3 12; kettle 0 1 20; kettle 1 2 20; kettle 2 3 20; kettle 3 12 20");
        guild.then("heat 0 5; heat 1 5; heat 2 5; heat 3 5; set 0 0; set 1 1; minute 6");
        check.points("a pair that differs by 1", guild, -1, -1, 0, 0);
        guild.then("set 2 2; minute 6");
        check.points("three pairs, which differ by 1, 1 and 2", guild, -3, -3, -2, 0);
        guild.then("set 3 3; lid 1-; minute 6");
        check.points("pairs that differ by 2, 11 and 9", guild, -5, -3, -2, 0);
    }

    @Sentence(in = "Terms", says = "Then all lids that are barred are so no longer.")
    static void noLidIsBarredBehindAHarmony(Check check) {
        Guild guild = Guild.after("own 0 1; kettle 0 1 9; kettle 0 1 9; kettle 0 1 9; appeal 1 0; appeal 2 0; minute 5; appeal 1 2; appeal 2 2");
        check.due("barred in the minute 5", guild.account(4), 2);
        guild.minute(1);
        check.due("barred in the minute 6", guild.account(4), 0);
        check.tells(guild, 0, "0:0p1w9t20_");
        check.tells(guild, 2, "2:0p1w9t20_");
        check.due("lid(0, 1)", guild.lid(0, 1), 2);
        check.due("lid(2, 1)", guild.lid(2, 1), 3);
        Guild ten = Guild.after("own 0 1");
        for (int kettle = 0; kettle < 10; kettle++) {
            ten.then("kettle 0 1 9; appeal 1 " + kettle + "; appeal 3 " + kettle);
        }
        check.due("all ten barred", ten.account(4), 10);
        ten.minute(6);
        check.due("none of ten barred", ten.account(4), 0);
        check.due("lid(9, 1)", ten.lid(9, 1), 1);
    }

    // ---- Terms: in doubt

    @Sentence(in = "Terms", says = "A kettle boils in a minute if it does as the minute begins")
    static void boilsInAMinuteIfItDoesAsItBegins(Check check) {
        Guild guild = Guild.after("own 0 1; own 0 2; kettle 0 1 9; kettle 0 2 0; heat 0 5; heat 1 5; set 0 0; set 1 1; minute 3");
        check.due("none boils dry in the minute in which it becomes hot", guild.minute(1), 0);
        check.due("no water is lost in it", guild.kettleOf(0, 2), 9);
        check.due("the one without water boils dry in the next", guild.minute(1), 1);
        check.due("water is lost in the next", guild.kettleOf(0, 2), 8);
        check.due("water boiled away", guild.account(8), 1);
    }

    @Sentence(in = "Terms", says = "and a kettle that loses its last water in a minute boils dry in it.")
    static void lastWaterBoilsDryInTheSameMinute(Check check) {
        Guild guild = Guild.after("own 0 1; kettle 0 1 2; heat 0 5; set 0 0; minute 4");
        check.due("with 2", guild.minute(1), 0);
        check.kettle("with 1 left", guild, 0, 0, 1, 1, 100, 1, 0, 1, 1, 0);
        check.due("with 1", guild.minute(1), 1);
        check.kettle("with none left", guild, 0, 0, 1, 0, 95, 1, NOTHING, 0, 0, 6);
        check.due("water boiled away", guild.account(8), 2);
    }

    @Sentence(in = "Terms", says = "A kettle that is taken off its stove by that becomes colder in the same minute.")
    static void boiledDryBecomesColderInTheSameMinute(Check check) {
        Guild guild = Guild.after("own 0 1; kettle 0 1 0; heat 0 5; set 0 0; minute 4");
        check.due("hot", guild.kettleOf(0, 3), 100);
        guild.minute(1);
        check.due("boiled dry", guild.kettleOf(0, 3), 95);
        guild.minute(1);
        check.due("a minute later", guild.kettleOf(0, 3), 90);
    }

    @Sentence(in = "Terms", says = "What whistles in a harmony whistles behind the minute.")
    static void whatWhistlesBehindTheMinute(Check check) {
        Guild late = Guild.after("own 0 1; own 1 5; kettle 0 1 20; kettle 1 5 20; minute 2; heat 0 5; heat 1 5; set 0 0; set 1 1; minute 3");
        check.due("none whistles ahead of it", late.whistling(), 0);
        late.minute(1);
        check.points("both became hot in it", late, 1, 1, 0, 0);
        Guild dry = Guild.after("own 0 1; own 1 5; kettle 0 1 20; kettle 1 5 1; minute 1; heat 0 5; heat 1 5; set 0 0; set 1 1; minute 4");
        check.due("both whistle ahead of it", dry.whistling(), 3);
        dry.minute(1);
        check.points("one boiled dry in it", dry, 0, -2, 0, 0);
    }

    @Sentence(in = "Terms", says = "Two kettles of one pitch can be there, and of one member.")
    static void twoKettlesOfOnePitchAndMember(Check check) {
        Guild guild = Guild.after("own 2 7; own 2 8");
        check.due("the first", guild.kettle(2, 7, 3), 0);
        check.due("of the same pitch and member", guild.kettle(2, 7, 3), 1);
        check.due("of the same member", guild.kettle(2, 8, 3), 2);
        check.due("kettles of the member", guild.memberOf(2, 2), 3);
    }

    @Sentence(in = "Terms", says = "Appeals stay when a lid is taken off otherwise, and count on when it is on again.")
    static void appealsStayWhenALidIsTakenOffOtherwise(Check check) {
        Guild guild = Guild.after("own 0 1; kettle 0 1 9; appeal 1 0; lid 0-");
        check.due("appeals, while it is off", guild.kettleOf(0, 9), 1);
        guild.then("minute 6; lid 0+");
        check.due("appeals, when it is on again", guild.kettleOf(0, 9), 1);
        check.refused("appeal(1, 0) again", guild, guild.appeal(1, 0), 14, 1);
        check.due("appeal(2, 0)", guild.appeal(2, 0), 1);
    }

    @Sentence(in = "Terms", says = "A lid that is barred stays off until it is put on.")
    static void barredLidStaysOffUntilItIsPutOn(Check check) {
        Guild guild = Guild.after("own 0 1; kettle 0 1 9; appeal 1 0; appeal 2 0; minute 6");
        check.due("behind the harmony", guild.kettleOf(0, 4), 0);
        guild.minute(6);
        check.due("behind another one", guild.kettleOf(0, 4), 0);
        guild.lid(0, 1);
        check.due("when it is put on", guild.kettleOf(0, 4), 1);
        guild.minute(6);
        check.due("behind the next harmony", guild.kettleOf(0, 4), 1);
    }

    @Sentence(in = "Terms", says = "A kettle that will boil is one that does so behind some minutes, at most 100, also if it has no water.")
    static void willBoilBehindSomeMinutesAlsoWithoutWater(Check check) {
        Guild guild = Guild.after("own 0 1; kettle 0 1 0; heat 0 1; set 0 0");
        for (int left = 16; left >= 0; left--) {
            dueBoilsIn(check, "the slowest one, without water", guild, 0, left);
            guild.minute(1);
        }
        check.due("it has boiled dry", guild.account(9), 1);
    }

    private static void dueBoilsIn(Check check, String when, Guild guild, int kettle, int due) {
        check.due("boilsIn(" + kettle + ") " + when, guild.boilsIn(kettle), due);
        check.due("boilsInAgain(" + kettle + ") " + when, guild.boilsInAgain(kettle), due);
    }

    @Sentence(in = "Terms", says = "Bans end by minutes alone.")
    static void bansEndByMinutesAlone(Check check) {
        Guild guild = Guild.after("own 0 1; kettle 0 1 0; heat 0 5; set 0 0; minute 5");
        guild.then("fill 0 20; lid 0-; lid 0+; heat 0 0; appeal 1 0; appeal 2 0; own 1 2; kettle 1 2 3; set 1 0; off 1");
        check.due("behind other changes", guild.kettleOf(0, 8), 6);
        guild.minute(1);
        check.due("behind a harmony", guild.kettleOf(0, 8), 5);
        guild.save();
        guild.minute(5);
        check.due("behind six minutes", guild.kettleOf(0, 8), 0);
        guild.restore();
        check.due("restored", guild.kettleOf(0, 8), 5);
        check.refused("set(0, 0)", guild, guild.set(0, 0), 4, 0, 8, 5);
    }

    @Sentence(in = "Terms", says = "A kettle without water that becomes hot boils dry in the next minute.")
    static void emptyKettleBoilsDryInTheMinuteBehindTheHotOne(Check check) {
        Guild guild = Guild.after("own 0 1; kettle 0 1 0; heat 0 4; set 0 0; minute 3");
        check.due("becomes hot", guild.minute(1), 0);
        check.due("boils", guild.kettleOf(0, 6), 1);
        check.due("on its stove", guild.kettleOf(0, 5), 0);
        check.due("dryIn", guild.dryIn(0), 1);
        check.due("boils dry", guild.minute(1), 1);
        check.due("on none", guild.kettleOf(0, 5), NOTHING);
    }

    @Sentence(in = "Terms", says = "Appeals can be made anew when they are gone.")
    static void appealsCanBeMadeAnew(Check check) {
        Guild guild = Guild.after("own 0 1; kettle 0 1 9; appeal 1 0; appeal 2 0; minute 6; lid 0+");
        check.due("the first anew", guild.appeal(2, 0), 0);
        check.refused("the first once more", guild, guild.appeal(2, 0), 14, 1);
        check.due("the second anew", guild.appeal(1, 0), 1);
        check.due("barred", guild.account(4), 1);
        check.due("appeals made by 1", guild.memberOf(1, 5), 2);
        check.due("appeals made by 2", guild.memberOf(2, 5), 2);
    }

    @Sentence(in = "Terms", says = "Water that is filled in leaves the kettle as warm as it is.")
    static void filledKettleStaysAsWarm(Check check) {
        Guild guild = Guild.after("own 0 1; kettle 0 1 1; heat 0 5; set 0 0; minute 3; fill 0 1");
        check.due("at 95", guild.kettleOf(0, 3), 95);
        guild.then("minute 1; fill 0 18");
        check.due("at 100", guild.kettleOf(0, 3), 100);
        check.due("it still boils", guild.kettleOf(0, 6), 1);
    }

    @Sentence(in = "Terms", says = "On a stove with the heat 0 a kettle stays as warm as it is.")
    static void staysAsWarmWithTheHeat0(Check check) {
        Guild guild = Guild.after("own 0 1; kettle 0 1 9; set 0 0; minute 9");
        check.due("at 20", guild.kettleOf(0, 3), 20);
        guild.then("heat 0 3; minute 1; heat 0 0; minute 9");
        check.due("at 35", guild.kettleOf(0, 3), 35);
        guild.then("heat 0 5; minute 3; heat 0 0; minute 9");
        check.due("at 100", guild.kettleOf(0, 3), 100);
    }

    @Sentence(in = "Terms", says = "Two kettles of one member count for that member twice in a harmony.")
    static void twoKettlesOfOneMemberCountTwice(Check check) {
        Guild well = Guild.after("own 3 1; own 3 4; kettle 3 1 20; kettle 3 4 20; heat 0 5; heat 1 5; set 0 0; set 1 1; minute 6");
        check.points("well", well, 0, 0, 0, 2);
        Guild badly = Guild.after("own 0 1; own 0 2; kettle 0 1 20; kettle 0 2 20; heat 0 5; heat 1 5; set 0 0; set 1 1; minute 6");
        check.points("badly", badly, -2, 0, 0, 0);
        Guild three = Guild.after("own 1 1; own 1 4; own 2 8; kettle 1 1 20; kettle 1 4 20; kettle 2 8 20");
        three.then("heat 0 5; heat 1 5; heat 2 5; set 0 0; set 1 1; set 2 2; minute 6");
        check.points("with one of another", three, 0, 4, 2, 0);
    }

    @Sentence(in = "Terms", says = "Points are told as they are, also if a code has the same number.")
    static void pointsLikeACode(Check check) {
        Guild guild = Guild.after("own 0 1; own 0 2; own 0 11; own 0 12; kettle 0 1 20; kettle 0 2 20; kettle 0 11 20; kettle 0 12 20");
        guild.then("heat 0 5; heat 1 5; heat 2 5; heat 3 5; set 0 0; set 1 1; set 2 2; set 3 3; minute 4");
        for (int minutes = 0; minutes < 42 * 18; minutes += 18) {
            guild.then("minute 9; minute 9; fill 0 18; fill 1 18; fill 2 18; fill 3 18");
        }
        check.due("8 points lost in each of 126 harmonies", guild.memberOf(0, 0), -1008);
        guild.then("off 1; off 2; off 3; own 1 7; kettle 1 7 20; heat 4 5; set 4 4; minute 2");
        for (int lost = 1; lost <= 7; lost++) {
            guild.then("minute 6; fill 0 6; fill 4 4");
            check.due("points", guild.memberOf(0, 0), -1008 - lost);
            check.due("points of all", guild.account(10), -1008 - 2 * lost);
        }
        check.due("ranked(2)", guild.ranked(2), 1);
        check.due("ranked(3)", guild.ranked(3), 0);
    }

    // ---- Promise 13

    @Sentence(in = "Promise 13: minute", says = "`minutes`: how many, 1 to 9")
    @Sentence(in = "Promise 13: minute", says = "BAD if the number is out of range.")
    static void minutes1To9(Check check) {
        Guild guild = Guild.after(HOT + "; minute 4");
        check.each("minute(?)", BAD, guild::minute, Check.outside(1, 9));
        check.due("no minute has gone", guild.account(5), 4);
        check.due("no water is lost", guild.kettleOf(0, 2), 9);
        check.due("minute(1)", guild.minute(1), 0);
        check.due("minutes", guild.account(5), 5);
        check.due("minute(9)", guild.minute(9), 1);
        check.due("minutes", guild.account(5), 14);
    }

    @Sentence(in = "Promise 13: minute", says = "Returns how many kettles boil dry in them")
    static void minuteReturnsHowManyBoilDry(Check check) {
        Guild guild = Guild.after("own 0 1; own 0 2; own 0 3; own 0 4; own 1 5; own 1 6");
        guild.then("kettle 0 1 0; kettle 0 2 1; kettle 0 3 2; kettle 0 4 3; kettle 1 5 4; kettle 1 6 5");
        for (int stove = 0; stove < 6; stove++) {
            guild.then("heat " + stove + " 5; set " + stove + " " + stove);
        }
        check.due("in the first four", guild.minute(4), 0);
        check.due("in the fifth, the last water too", guild.minute(1), 2);
        check.due("in the sixth and the seventh", guild.minute(2), 2);
        check.due("in nine more", guild.minute(9), 2);
        check.due("in nine more", guild.minute(9), 0);
        check.due("all of them", guild.account(9), 6);
        guild.then("heat 5 1; set 0 0; set 1 1; set 2 2; set 3 3; set 4 4; set 5 5");
        check.due("five at once", guild.minute(9), 5);
        check.due("the last one", guild.minute(9), 1);
    }

    // ---- Promise 14

    @Sentence(in = "Promise 14: whistling", says = "Returns their set, bit k for the kettle k.")
    static void whistlingHasABitForEachKettle(Check check) {
        Guild guild = Guild.after("own 0 1; own 0 2; own 0 3; own 0 4; own 1 5; own 1 6; own 1 7");
        for (int kettle = 0; kettle < 10; kettle++) {
            int pitch = Math.max(1, kettle - 2);
            guild.then("kettle " + (pitch > 4 ? 1 : 0) + " " + pitch + " 20");
        }
        check.due("none", guild.whistling(), 0);
        guild.then("heat 0 5; heat 1 5; heat 2 5; heat 3 5; heat 4 5; heat 5 5");
        guild.then("set 9 0; set 8 1; set 7 2; set 6 3; set 5 4; set 0 5; minute 3");
        check.due("at 95", guild.whistling(), 0);
        guild.minute(1);
        check.due("with the last and the first", guild.whistling(), 0b1111100001);
        guild.off(9);
        check.due("without the last", guild.whistling(), 0b0111100001);
        guild.lid(0, 0);
        check.due("without the first", guild.whistling(), 0b0111100000);
        guild.heat(1, 0);
        check.due("without the kettle 8", guild.whistling(), 0b0011100000);
    }

    // ---- Promise 15 and 16

    @Sentence(in = "Promise 15: harmony", says = "the pairs that sound well less those that sound badly, pair by pair.")
    @Sentence(in = "Promise 15: harmony", says = "Returns the number, possibly below 0.")
    @Sentence(in = "Promise 16: harmonyAgain", says = "Returns the same by a second way: difference by difference")
    @Sentence(in = "Promise 16: harmonyAgain", says = "Returns the number, possibly below 0.")
    static void harmonyIsWellLessBadly(Check check) {
        dueHarmony(check, 0);
        dueHarmony(check, 0, 5);
        dueHarmony(check, 1, 12, 3);
        dueHarmony(check, -1, 12, 11);
        dueHarmony(check, 3, 1, 4, 8);
        dueHarmony(check, -3, 1, 2, 3);
        dueHarmony(check, -3, 12, 10, 11);
        dueHarmony(check, 2, 1, 4, 6, 11);
        dueHarmony(check, 0, 1, 4, 6, 11, 12);
        dueHarmony(check, -3, 1, 2, 3, 4, 5, 6);
        dueHarmony(check, -3, 12, 11, 10, 9, 8, 7);
        dueHarmony(check, 9, 1, 4, 5, 8, 9, 12);
    }

    private static void dueHarmony(Check check, int due, int... pitches) {
        Guild guild = Guild.whistling(pitches);
        check.due("harmony of " + pitches.length, guild.harmony(), due);
        check.due("harmonyAgain of " + pitches.length, guild.harmonyAgain(), due);
    }

    @Sentence(in = "Promise 15: harmony", says = "Returns how harmonious the whistles are")
    @Sentence(in = "Promise 16: harmonyAgain", says = "by how many pitches stand so far from another one.")
    static void harmonyIsOfWhistlesAlone(Check check) {
        Guild guild = Guild.whistling(1, 4, 8);
        guild.lid(1, 0);
        check.due("harmony without a lid", guild.harmony(), 1);
        check.due("harmonyAgain without a lid", guild.harmonyAgain(), 1);
        guild.then("lid 1+; heat 0 0");
        check.due("harmony without a heat", guild.harmony(), 1);
        check.due("harmonyAgain without a heat", guild.harmonyAgain(), 1);
        guild.off(2);
        check.due("harmony of one alone", guild.harmony(), 0);
        check.due("harmonyAgain of one alone", guild.harmonyAgain(), 0);
        check.due("harmony changes no points", guild.account(10), 0);
    }

    // ---- Promise 17 and 18

    @Sentence(in = "Promise 17: boilsIn", says = "Returns behind how many minutes a kettle will boil, if nothing but minutes goes by: minute by minute.")
    @Sentence(in = "Promise 17: boilsIn", says = "Returns how many, 0 if it boils")
    @Sentence(in = "Promise 18: boilsInAgain", says = "Returns the same by a second way: by what is lacking to 100, divided.")
    @Sentence(in = "Promise 18: boilsInAgain", says = "Returns how many, 0 if it boils")
    static void boilsInCountsTheMinutes(Check check) {
        int[] due = {16, 8, 6, 4, 4};
        for (int heat = 1; heat <= 5; heat++) {
            Guild guild = Guild.after("own 0 1; own 0 2; kettle 0 2 9; kettle 0 1 20; set 1 5; heat 5 " + heat);
            for (int left = due[heat - 1]; left >= 0; left--) {
                dueBoilsIn(check, "with the heat " + heat, guild, 1, left);
                check.due("boils", guild.kettleOf(1, 6), left == 0 ? 1 : 0);
                guild.minute(1);
            }
            dueBoilsIn(check, "as it boils on", guild, 1, 0);
        }
    }

    @Sentence(in = "Promise 17: boilsIn", says = "NONE if there is no such kettle")
    @Sentence(in = "Promise 18: boilsInAgain", says = "NONE if there is no such kettle")
    @Sentence(in = "Promise 19: dryIn", says = "NONE if there is no such kettle")
    static void boilsInWithoutSuchAKettle(Check check) {
        Guild guild = Guild.after(HOT + "; kettle 0 1 9");
        int[] outside = Check.outside(0, 1);
        check.each("boilsIn(?)", NONE, guild::boilsIn, outside);
        check.each("boilsInAgain(?)", NONE, guild::boilsInAgain, outside);
        check.each("dryIn(?)", NONE, guild::dryIn, outside);
        dueBoilsIn(check, "of the first one", guild, 0, 4);
        dueBoilsIn(check, "of the last one", guild, 1, NOTHING);
        check.due("dryIn(1) of the last one", guild.dryIn(1), NOTHING);
    }

    @Sentence(in = "Promise 17: boilsIn", says = "NOTHING if it will not.")
    @Sentence(in = "Promise 18: boilsInAgain", says = "NOTHING if it will not.")
    @Sentence(in = "Promise 19: dryIn", says = "NOTHING if it will not.")
    static void boilsInOfAKettleThatWillNot(Check check) {
        Guild guild = Guild.after("own 0 1; kettle 0 1 2; heat 0 5");
        dueNever(check, "on no stove", guild);
        guild.then("heat 0 0; set 0 0");
        dueNever(check, "with the heat 0", guild);
        guild.then("heat 0 5; minute 4; heat 0 0");
        dueNever(check, "at 100 with the heat 0", guild);
        guild.then("heat 0 5; off 0");
        dueNever(check, "at 100 on no stove", guild);
        guild.then("set 0 0; minute 2");
        dueNever(check, "boiled dry", guild);
    }

    private static void dueNever(Check check, String when, Guild guild) {
        dueBoilsIn(check, when, guild, 0, NOTHING);
        check.due("dryIn(0) " + when, guild.dryIn(0), NOTHING);
    }

    // ---- Promise 19

    @Sentence(in = "Promise 19: dryIn", says = "Returns behind how many minutes a kettle will have boiled dry, if nothing but minutes goes by.")
    @Sentence(in = "Promise 19: dryIn", says = "Returns how many")
    static void dryInCountsTheMinutes(Check check) {
        for (int water = 0; water <= 20; water++) {
            Guild guild = Guild.after("own 0 1; own 0 2; kettle 0 2 9; kettle 0 1 " + water + "; set 1 0; heat 0 3; lid 1-");
            for (int left = 6 + Math.max(1, water); left >= 1; left--) {
                check.due("dryIn with water " + water, guild.dryIn(1), left);
                check.due("boils dry", guild.minute(1), left == 1 ? 1 : 0);
            }
            check.due("dryIn of one that has", guild.dryIn(1), NOTHING);
        }
        Guild slow = Guild.after("own 0 1; kettle 0 1 20; heat 0 1; set 0 0");
        check.due("the longest", slow.dryIn(0), 36);
        slow.then("minute 9; minute 7");
        check.due("as it boils", slow.dryIn(0), 20);
        slow.then("minute 9; minute 9; minute 1");
        check.due("with the last water", slow.dryIn(0), 1);
    }
}
