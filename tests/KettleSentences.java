/** Members, pitches and kettles: the sentences of the terms, and the promises 1 to 6. Run by SentencesTest. */
final class KettleSentences {
    private static final int NONE = KettleGuild.NONE;
    private static final int BAD = KettleGuild.BAD;
    private static final int NOTHING = KettleGuild.NOTHING;

    private KettleSentences() {
    }

    // ---- Terms: members and pitches

    @Sentence(in = "Terms", says = "The guild has the members 0 to 3")
    static void members0To3(Check check) {
        Guild guild = Guild.after("own 0 1; own 3 12; kettle 0 1 5; kettle 3 12 5");
        for (int member : new int[] {-1, 4}) {
            check.due("own by " + member, guild.own(member, 2), NONE);
            check.due("kettle of " + member, guild.kettle(member, 1, 5), NONE);
            check.due("appeal of " + member, guild.appeal(member, 0), NONE);
            check.due("memberOf " + member, guild.memberOf(member, 0), NONE);
            check.due("ranked at " + member, guild.ranked(member), NONE);
        }
        check.due("appeal(0, 1)", guild.appeal(0, 1), 0);
        check.due("appeal(3, 0)", guild.appeal(3, 0), 0);
        check.member("of the first member", guild, 0, 0, 1, 1, 0, 0, 1);
        check.member("of the last member", guild, 3, 0, 1, 1, 0, 0, 1);
        check.due("ranked(0)", guild.ranked(0), 0);
        check.due("ranked(1)", guild.ranked(1), 3);
        check.due("ranked(3)", guild.ranked(3), 2);
    }

    @Sentence(in = "Terms", says = "each with points, which can be below 0, at first 0")
    static void pointsCanBeBelow0AndAreAtFirst0(Check check) {
        Guild guild = Guild.after("own 0 1; own 3 2; kettle 0 1 1; kettle 3 2 20");
        check.points("at first", guild, 0, 0, 0, 0);
        guild.then("heat 0 5; heat 1 5; set 0 0; set 1 1; minute 5");
        check.points("behind a kettle that boiled dry", guild, -2, 0, 0, 0);
        check.due("points of all", guild.account(10), -2);
        Guild badly = Guild.whistling(4, 5);
        badly.minute(2);
        check.points("behind a harmony that sounds badly", badly, -1, -1, 0, 0);
    }

    @Sentence(in = "Terms", says = "There are the pitches 1 to 12")
    static void pitches1To12(Check check) {
        Guild guild = Guild.after("own 0 1; own 0 12");
        for (int pitch : new int[] {0, 13}) {
            check.due("own of " + pitch, guild.own(1, pitch), BAD);
            check.due("owner of " + pitch, guild.owner(pitch), BAD);
            check.due("kettle of " + pitch, guild.kettle(0, pitch, 5), BAD);
        }
        for (int pitch = 2; pitch < 12; pitch++) {
            check.due("own of " + pitch, guild.own(1 + (pitch - 2) / 4, pitch), 1 + (pitch - 2) % 4);
        }
        check.due("owner(1)", guild.owner(1), 0);
        check.due("owner(12)", guild.owner(12), 0);
        check.due("kettle(0, 1, 5)", guild.kettle(0, 1, 5), 0);
        check.due("kettle(0, 12, 5)", guild.kettle(0, 12, 5), 1);
        check.kettle("of the first pitch", guild, 0, 0, 1);
        check.kettle("of the last pitch", guild, 1, 0, 12);
    }

    @Sentence(in = "Terms", says = "each is owned by one member, or, as at first, by none")
    static void pitchIsOwnedByOneOrAtFirstByNone(Check check) {
        Guild guild = new Guild();
        for (int pitch = 1; pitch <= 12; pitch++) {
            check.due("owner(" + pitch + ") at first", guild.owner(pitch), NOTHING);
        }
        check.due("own(2, 5)", guild.own(2, 5), 1);
        check.refused("own(1, 5)", guild, guild.own(1, 5), 2, 2);
        check.refused("own(2, 5) again", guild, guild.own(2, 5), 2, 2);
        for (int pitch = 1; pitch <= 12; pitch++) {
            check.due("owner(" + pitch + ")", guild.owner(pitch), pitch == 5 ? 2 : NOTHING);
        }
    }

    @Sentence(in = "Terms", says = "a member owns at most 4")
    static void fifthPitchBehindFour(Check check) {
        for (int member = 0; member < 4; member++) {
            Guild guild = new Guild();
            for (int owned = 1; owned <= 4; owned++) {
                check.due("own the pitch " + owned, guild.own(member, 3 * owned), owned);
            }
            check.refused("own a fifth", guild, guild.own(member, 1), 1, 4);
            check.due("pitches owned", guild.memberOf(member, 1), 4);
            check.due("own of another member", guild.own((member + 1) % 4, 1), 1);
        }
    }

    // ---- Terms: kettles

    @Sentence(in = "Terms", says = "At most 10 kettles are there, numbered from 0")
    static void eleventhKettleBehindTen(Check check) {
        Guild guild = Guild.after("own 0 1; own 3 12");
        for (int kettle = 0; kettle < 10; kettle++) {
            check.due("account(0)", guild.account(0), kettle);
            check.due("kettleOf the next", guild.kettleOf(kettle, 2), NONE);
            check.due("kettle", guild.kettle(0, 1, kettle), kettle);
        }
        check.refused("kettle the eleventh", guild, guild.kettle(0, 1, 7), 1, 10);
        check.refused("kettle the eleventh, of another member", guild, guild.kettle(3, 12, 7), 1, 10);
        check.refusesText(guild, "kettle 0 1 7", 16, 0, 1, 10);
        check.due("account(0)", guild.account(0), 10);
        check.due("kettleOf(0, 2)", guild.kettleOf(0, 2), 0);
        check.due("kettleOf(9, 2)", guild.kettleOf(9, 2), 9);
        check.due("kettleOf(10, 2)", guild.kettleOf(10, 2), NONE);
        check.due("kettleOf(-1, 2)", guild.kettleOf(-1, 2), NONE);
        check.due("water that came", guild.account(7), 45);
    }

    @Sentence(in = "Terms", says = "each of a member, with a pitch, water from 0 to 20")
    static void waterFrom0To20(Check check) {
        Guild guild = Guild.after("own 2 7");
        check.due("kettle(2, 7, -1)", guild.kettle(2, 7, -1), BAD);
        check.due("kettle(2, 7, 0)", guild.kettle(2, 7, 0), 0);
        check.due("kettle(2, 7, 20)", guild.kettle(2, 7, 20), 1);
        check.due("kettle(2, 7, 21)", guild.kettle(2, 7, 21), BAD);
        check.kettle("without water", guild, 0, 2, 7, 0);
        check.kettle("full of water", guild, 1, 2, 7, 20);
        check.refused("fill(1, 1)", guild, guild.fill(1, 1), 11, 21);
        check.due("fill(0, 20)", guild.fill(0, 20), 20);
        Guild dry = Guild.after("own 2 7; kettle 2 7 0; heat 0 5; set 0 0; minute 9");
        check.due("no water below 0", dry.kettleOf(0, 2), 0);
        check.due("no water boiled away", dry.account(8), 0);
    }

    @Sentence(in = "Terms", says = "a temperature from 20 to 100, at first 20")
    static void temperatureFrom20To100AtFirst20(Check check) {
        Guild guild = Guild.after("own 0 1; kettle 0 1 20; heat 0 1; heat 1 5");
        check.due("at first", guild.kettleOf(0, 3), 20);
        guild.minute(1);
        check.due("not below 20", guild.kettleOf(0, 3), 20);
        guild.then("set 0 0; minute 1");
        check.due("25", guild.kettleOf(0, 3), 25);
        guild.then("off 0; minute 1");
        check.due("20 again", guild.kettleOf(0, 3), 20);
        guild.minute(1);
        check.due("20 still", guild.kettleOf(0, 3), 20);
        guild.then("set 0 1; minute 3");
        check.due("95", guild.kettleOf(0, 3), 95);
        guild.minute(1);
        check.due("100, not 120", guild.kettleOf(0, 3), 100);
        guild.minute(1);
        check.due("100 still", guild.kettleOf(0, 3), 100);
        guild.then("off 0; minute 1");
        check.due("95 again", guild.kettleOf(0, 3), 95);
        check.due("another kettle, at first", guild.kettleOf(guild.kettle(0, 1, 3), 3), 20);
    }

    @Sentence(in = "Terms", says = "a lid that is on, as at first, or off")
    static void lidIsAtFirstOn(Check check) {
        Guild guild = Guild.after("own 0 1; kettle 0 1 20; kettle 0 1 0");
        check.due("kettleOf(0, 4)", guild.kettleOf(0, 4), 1);
        check.due("kettleOf(1, 4)", guild.kettleOf(1, 4), 1);
        check.due("account(3)", guild.account(3), 2);
        guild.lid(1, 0);
        check.due("kettleOf(0, 4) behind lid(1, 0)", guild.kettleOf(0, 4), 1);
        check.due("kettleOf(1, 4) behind lid(1, 0)", guild.kettleOf(1, 4), 0);
        check.due("account(3) behind lid(1, 0)", guild.account(3), 1);
        check.due("of a kettle behind it", guild.kettleOf(guild.kettle(0, 1, 5), 4), 1);
    }

    @Sentence(in = "Terms", says = "A kettle is on a stove or, as at first, on none.")
    static void kettleIsAtFirstOnNoStove(Check check) {
        Guild guild = Guild.after("own 0 1; own 0 2; kettle 0 1 20; kettle 0 2 20");
        check.due("kettleOf(0, 5) at first", guild.kettleOf(0, 5), NOTHING);
        check.due("kettleOf(1, 5) at first", guild.kettleOf(1, 5), NOTHING);
        check.due("account(1) at first", guild.account(1), 0);
        guild.then("set 0 5; set 1 0");
        check.due("kettleOf(0, 5)", guild.kettleOf(0, 5), 5);
        check.due("kettleOf(1, 5)", guild.kettleOf(1, 5), 0);
        guild.off(1);
        check.due("kettleOf(0, 5) behind off(1)", guild.kettleOf(0, 5), 5);
        check.due("kettleOf(1, 5) behind off(1)", guild.kettleOf(1, 5), NOTHING);
    }

    // ---- Promise 1

    @Sentence(in = "Promise 1: A new object", says = "Begins without kettles, in the minute 0.")
    static void beginsWithoutKettlesInTheMinute0(Check check) {
        Guild guild = new Guild();
        check.each("account(?) of a new guild", 0, guild::account, 0, 1, 2, 3, 4, 5, 6, 7, 8, 9, 10, 11, 12);
        check.each("owner(?) of a new guild", NOTHING, guild::owner, 1, 2, 3, 4, 5, 6, 7, 8, 9, 10, 11, 12);
        for (int member = 0; member < 4; member++) {
            check.member("of a new guild", guild, member, 0, 0, 0, 0, 0, 0);
            check.due("ranked of a new guild", guild.ranked(member), member);
        }
        for (int kettle = 0; kettle < 10; kettle++) {
            check.due("kettleOf of a new guild", guild.kettleOf(kettle, 0), NONE);
            check.due("tell of a new guild", guild.tell(kettle), NONE);
        }
        check.each("stoveOf(?, true) of a new guild", 0, stove -> guild.stoveOf(stove, true), 0, 1, 2, 3, 4, 5);
        check.each("stoveOf(?, false) of a new guild", NOTHING, stove -> guild.stoveOf(stove, false), 0, 1, 2, 3, 4, 5);
        check.due("hottest(0) of a new guild", guild.hottest(0), NONE);
        check.due("whistling() of a new guild", guild.whistling(), 0);
        check.due("harmony() of a new guild", guild.harmony(), 0);
        check.due("harmonyAgain() of a new guild", guild.harmonyAgain(), 0);
        check.due("isBalanced() of a new guild", guild.isBalanced(), 1);
        check.due("minute(6) of a new guild", guild.minute(6), 0);
        check.points("behind a harmony without kettles", guild, 0, 0, 0, 0);
    }

    @Sentence(in = "Promise 1: A new object", says = "Begins without kettles")
    static void newObjectsShareNothing(Check check) {
        Guild one = Guild.after("own 0 1; kettle 0 1 5; heat 0 5; set 0 0; minute 7");
        one.save();
        one.own(1, 1);
        one.write("own");
        one.tell(0);
        Guild other = new Guild();
        String rest = Picture.rest(other);
        check.due("the state", Picture.state(other), Picture.state(new Guild()));
        check.due("line, text and reasons", rest, "line \n text 0\n reasons -1015 -1015 -1015 -1015 -1015 -1015 ");
        check.due("changes", other.account(12), 0);
        check.due("undo", other.undo(), NOTHING);
        check.due("restore", other.restore(), NOTHING);
        check.due("the first still has its kettle", one.account(0), 1);
    }

    // ---- Promise 2

    @Sentence(in = "Promise 2: own", says = "Returns how many pitches the member owns then")
    static void ownReturnsHowManyPitches(Check check) {
        Guild guild = new Guild();
        for (int pitch = 1; pitch <= 12; pitch++) {
            check.due("own of " + pitch, guild.own(pitch % 4, pitch), 1 + (pitch - 1) / 4);
            check.due("owner of " + pitch, guild.owner(pitch), pitch % 4);
        }
    }

    @Sentence(in = "Promise 2: own", says = "NONE if there is no such member")
    static void ownWithoutSuchAMember(Check check) {
        Guild guild = Guild.after("own 0 1; own 3 12");
        int[] outside = Check.outside(0, 3);
        check.each("own(?, 2)", NONE, member -> guild.own(member, 2), outside);
        check.each("own(?, 0), listed ahead of BAD", NONE, member -> guild.own(member, 0), outside);
        check.each("own(?, 13), listed ahead of BAD", NONE, member -> guild.own(member, 13), outside);
        check.each("own(?, 1), listed ahead of REFUSED", NONE, member -> guild.own(member, 1), outside);
        check.due("own(0, 2)", guild.own(0, 2), 2);
        check.due("own(3, 3)", guild.own(3, 3), 2);
    }

    @Sentence(in = "Promise 2: own", says = "BAD if there is no such pitch")
    static void ownWithoutSuchAPitch(Check check) {
        Guild guild = Guild.after("own 0 1; own 0 2; own 0 3; own 0 12");
        int[] outside = Check.outside(1, 12);
        check.each("own(3, ?)", BAD, pitch -> guild.own(3, pitch), outside);
        check.each("own(0, ?), listed ahead of REFUSED", BAD, pitch -> guild.own(0, pitch), outside);
        check.due("own(3, 11)", guild.own(3, 11), 1);
    }

    @Sentence(in = "Promise 2: own", says = "REFUSED for the reason 2 or 1.")
    static void ownIsRefusedFor2AheadOf1(Check check) {
        Guild guild = Guild.after("own 3 1; own 3 2; own 3 3; own 3 4; own 0 5");
        check.refused("own(1, 4)", guild, guild.own(1, 4), 2, 3);
        check.refused("own(3, 6)", guild, guild.own(3, 6), 1, 4);
        check.refused("own(3, 5), with 4 and owned", guild, guild.own(3, 5), 2, 0);
        check.refused("own(3, 4), with 4 and its own", guild, guild.own(3, 4), 2, 3);
        check.due("own(0, 6)", guild.own(0, 6), 2);
    }

    // ---- Promise 3

    @Sentence(in = "Promise 3: owner", says = "Returns the member, NOTHING if none does")
    static void ownerReturnsTheMemberOrNothing(Check check) {
        Guild guild = Guild.after("own 0 1; own 3 12; own 1 6; own 2 7");
        int[] owners = {0, NOTHING, NOTHING, NOTHING, NOTHING, 1, 2, NOTHING, NOTHING, NOTHING, NOTHING, 3};
        for (int pitch = 1; pitch <= 12; pitch++) {
            check.due("owner(" + pitch + ")", guild.owner(pitch), owners[pitch - 1]);
        }
    }

    @Sentence(in = "Promise 3: owner", says = "BAD if there is no such pitch.")
    static void ownerWithoutSuchAPitch(Check check) {
        Guild guild = Guild.after("own 0 1; own 3 12");
        check.each("owner(?)", BAD, guild::owner, Check.outside(1, 12));
    }

    // ---- Promise 4

    @Sentence(in = "Promise 4: kettle", says = "Returns its number")
    static void kettleReturnsItsNumber(Check check) {
        Guild guild = Guild.after("own 0 1; own 3 12");
        check.due("the first", guild.kettle(3, 12, 20), 0);
        check.due("the second", guild.kettle(0, 1, 0), 1);
        check.due("the third", guild.kettle(3, 12, 7), 2);
        check.kettle("the first", guild, 0, 3, 12, 20, 20, 1, NOTHING, 0, 0, 0, 0);
        check.kettle("the second", guild, 1, 0, 1, 0, 20, 1, NOTHING, 0, 0, 0, 0);
        check.kettle("the third", guild, 2, 3, 12, 7, 20, 1, NOTHING, 0, 0, 0, 0);
        guild.undo();
        check.due("the third anew", guild.kettle(0, 1, 1), 2);
    }

    @Sentence(in = "Promise 4: kettle", says = "NONE if there is no such member")
    static void kettleWithoutSuchAMember(Check check) {
        Guild guild = Guild.after("own 0 1; own 3 12");
        int[] outside = Check.outside(0, 3);
        check.each("kettle(?, 1, 5)", NONE, member -> guild.kettle(member, 1, 5), outside);
        check.each("kettle(?, 0, 5), listed ahead of BAD", NONE, member -> guild.kettle(member, 0, 5), outside);
        check.each("kettle(?, 1, 21), listed ahead of BAD", NONE, member -> guild.kettle(member, 1, 21), outside);
        check.each("kettle(?, 2, 5), listed ahead of REFUSED", NONE, member -> guild.kettle(member, 2, 5), outside);
        check.due("kettle(0, 1, 5)", guild.kettle(0, 1, 5), 0);
        check.due("kettle(3, 12, 5)", guild.kettle(3, 12, 5), 1);
        for (int kettle = 2; kettle < 10; kettle++) {
            guild.kettle(0, 1, 1);
        }
        check.due("kettle(4, 1, 5) with ten, listed ahead of REFUSED", guild.kettle(4, 1, 5), NONE);
    }

    @Sentence(in = "Promise 4: kettle", says = "BAD if there is no such pitch, or the water is out of range")
    static void kettleWithoutSuchAPitchOrWater(Check check) {
        Guild guild = Guild.after("own 0 1; own 0 12; own 3 2");
        check.each("kettle(0, ?, 5)", BAD, pitch -> guild.kettle(0, pitch, 5), Check.outside(1, 12));
        int[] outside = Check.outside(0, 20);
        check.each("kettle(0, 1, ?)", BAD, water -> guild.kettle(0, 1, water), outside);
        check.each("kettle(0, 2, ?), listed ahead of REFUSED", BAD, water -> guild.kettle(0, 2, water), outside);
        check.each("kettle(0, 3, ?), listed ahead of REFUSED", BAD, water -> guild.kettle(0, 3, water), outside);
        check.due("water that came", guild.account(7), 0);
        for (int kettle = 0; kettle < 10; kettle++) {
            check.due("kettle", guild.kettle(0, 12, kettle % 2 == 0 ? 0 : 20), kettle);
        }
        check.due("kettle(0, 1, 21) with ten, listed ahead of REFUSED", guild.kettle(0, 1, 21), BAD);
        check.due("kettle(0, 13, 1) with ten, listed ahead of REFUSED", guild.kettle(0, 13, 1), BAD);
    }

    @Sentence(in = "Promise 4: kettle", says = "REFUSED for the reason 3 or 1, for the kettles.")
    static void kettleIsRefusedFor3AheadOf1(Check check) {
        Guild guild = Guild.after("own 0 1; own 3 2; own 1 3; own 1 4; own 1 5; own 1 6");
        check.refused("kettle(0, 2, 5)", guild, guild.kettle(0, 2, 5), 3, 3);
        check.refused("kettle(3, 1, 5)", guild, guild.kettle(3, 1, 5), 3, 0);
        check.refused("kettle(0, 12, 5)", guild, guild.kettle(0, 12, 5), 3, -1);
        check.due("kettle of a member with 4 pitches", guild.kettle(1, 6, 5), 0);
        for (int kettle = 1; kettle < 10; kettle++) {
            check.due("kettle", guild.kettle(0, 1, 5), kettle);
        }
        check.refused("kettle(0, 1, 5) with ten", guild, guild.kettle(0, 1, 5), 1, 10);
        check.refused("kettle(1, 6, 5) with ten, and 4 pitches", guild, guild.kettle(1, 6, 5), 1, 10);
        check.refused("kettle(0, 2, 5) with ten, and not owned", guild, guild.kettle(0, 2, 5), 3, 3);
        check.refused("kettle(0, 12, 5) with ten, and owned by none", guild, guild.kettle(0, 12, 5), 3, -1);
    }

    // ---- Promise 5

    @Sentence(in = "Promise 5: fill", says = "`water`: how much, 1 to 20")
    @Sentence(in = "Promise 5: fill", says = "BAD if the number is out of range")
    static void fillOf1To20(Check check) {
        Guild guild = Guild.after("own 0 1; kettle 0 1 0; kettle 0 1 0; kettle 0 1 20");
        int[] outside = Check.outside(1, 20);
        check.each("fill(0, ?)", BAD, water -> guild.fill(0, water), outside);
        check.each("fill(2, ?), listed ahead of REFUSED", BAD, water -> guild.fill(2, water), outside);
        check.due("water that came", guild.account(7), 20);
        check.due("fill(0, 1)", guild.fill(0, 1), 1);
        check.due("fill(1, 20)", guild.fill(1, 20), 20);
        check.due("water that came", guild.account(7), 41);
    }

    @Sentence(in = "Promise 5: fill", says = "Returns how much it has then")
    static void fillReturnsHowMuchItHasThen(Check check) {
        Guild guild = Guild.after("own 0 1; kettle 0 1 5; kettle 0 1 7");
        check.due("fill(0, 1)", guild.fill(0, 1), 6);
        check.due("fill(0, 14)", guild.fill(0, 14), 20);
        check.due("fill(1, 3)", guild.fill(1, 3), 10);
        check.due("kettleOf(0, 2)", guild.kettleOf(0, 2), 20);
        check.due("kettleOf(1, 2)", guild.kettleOf(1, 2), 10);
        check.due("water of all", guild.account(6), 30);
        check.due("water that came", guild.account(7), 30);
        check.due("isBalanced", guild.isBalanced(), 1);
    }

    @Sentence(in = "Promise 5: fill", says = "NONE if there is no such kettle")
    static void fillWithoutSuchAKettle(Check check) {
        Guild guild = Guild.after("own 0 1");
        check.due("fill(0, 1) of none at all", guild.fill(0, 1), NONE);
        guild.then("kettle 0 1 20; kettle 0 1 5");
        int[] outside = Check.outside(0, 1);
        check.each("fill(?, 1)", NONE, kettle -> guild.fill(kettle, 1), outside);
        check.each("fill(?, 0), listed ahead of BAD", NONE, kettle -> guild.fill(kettle, 0), outside);
        check.each("fill(?, 21), listed ahead of BAD", NONE, kettle -> guild.fill(kettle, 21), outside);
        check.due("fill(1, 1)", guild.fill(1, 1), 6);
        guild.undo();
        guild.undo();
        check.due("fill(1, 1) of a kettle that is undone", guild.fill(1, 1), NONE);
    }

    @Sentence(in = "Promise 5: fill", says = "REFUSED for the reason 11.")
    static void fillIsRefusedFor11(Check check) {
        Guild guild = Guild.after("own 0 1; kettle 0 1 5; kettle 0 1 20; kettle 0 1 0");
        check.refused("fill(0, 16)", guild, guild.fill(0, 16), 11, 21);
        check.refused("fill(0, 20)", guild, guild.fill(0, 20), 11, 25);
        check.refused("fill(1, 1)", guild, guild.fill(1, 1), 11, 21);
        check.refused("fill(1, 20)", guild, guild.fill(1, 20), 11, 40);
        check.due("water that came", guild.account(7), 25);
        check.due("fill(0, 15)", guild.fill(0, 15), 20);
        check.due("fill(2, 20)", guild.fill(2, 20), 20);
    }

    // ---- Promise 6

    @Sentence(in = "Promise 6: kettleOf", says = "0 for its member, 1 for its pitch, 2 for its water, 3 for its temperature")
    static void kettleOfMemberPitchWaterTemperature(Check check) {
        Guild guild = Guild.after("own 0 1; own 3 12; kettle 3 12 0; kettle 0 1 20; heat 0 5; set 1 0; minute 5");
        check.kettle("the first", guild, 0, 3, 12, 0, 20);
        check.kettle("the last", guild, 1, 0, 1, 19, 100);
    }

    @Sentence(in = "Promise 6: kettleOf", says = "4 for 1 if its lid is on, and 0 otherwise")
    static void kettleOfLid(Check check) {
        Guild guild = Guild.after("own 0 1; kettle 0 1 1; kettle 0 1 1; lid 0-; appeal 1 1; appeal 2 1");
        check.due("taken off", guild.kettleOf(0, 4), 0);
        check.due("barred", guild.kettleOf(1, 4), 0);
        guild.then("lid 0+; minute 6");
        check.due("put on", guild.kettleOf(0, 4), 1);
        check.due("no longer barred", guild.kettleOf(1, 4), 0);
    }

    @Sentence(in = "Promise 6: kettleOf", says = "5 for its stove, NOTHING if it is on none")
    static void kettleOfStove(Check check) {
        Guild guild = Guild.after("own 0 1; own 0 2; own 0 3; kettle 0 1 1; kettle 0 2 1; kettle 0 3 1; set 0 0; set 1 5");
        check.due("on the first stove", guild.kettleOf(0, 5), 0);
        check.due("on the last stove", guild.kettleOf(1, 5), 5);
        check.due("on none", guild.kettleOf(2, 5), NOTHING);
        guild.then("heat 5 5; minute 5");
        check.due("boiled dry", guild.kettleOf(1, 5), NOTHING);
    }

    @Sentence(in = "Promise 6: kettleOf", says = "6 for 1 if it boils, and 0 otherwise, 7 for 1 if it whistles, and 0 otherwise")
    static void kettleOfBoilsAndWhistles(Check check) {
        Guild guild = Guild.after("own 0 1; own 0 2; own 0 3; kettle 0 1 1; kettle 0 2 1; kettle 0 3 0");
        guild.then("heat 0 5; heat 1 5; heat 2 5; set 0 0; set 1 1; set 2 2; lid 1-; minute 3");
        for (int kettle = 0; kettle < 3; kettle++) {
            check.due("boils at 95", guild.kettleOf(kettle, 6), 0);
            check.due("whistles at 95", guild.kettleOf(kettle, 7), 0);
        }
        guild.minute(1);
        check.due("with water and lid: boils", guild.kettleOf(0, 6), 1);
        check.due("with water and lid: whistles", guild.kettleOf(0, 7), 1);
        check.due("without the lid: boils", guild.kettleOf(1, 6), 1);
        check.due("without the lid: whistles", guild.kettleOf(1, 7), 0);
        check.due("without water: boils", guild.kettleOf(2, 6), 1);
        check.due("without water: whistles", guild.kettleOf(2, 7), 0);
        guild.heat(0, 0);
        check.due("without heat: boils", guild.kettleOf(0, 6), 0);
        check.due("without heat: whistles", guild.kettleOf(0, 7), 0);
        guild.then("heat 0 1; off 0");
        check.due("on no stove: boils", guild.kettleOf(0, 6), 0);
        check.due("on no stove: whistles", guild.kettleOf(0, 7), 0);
    }

    @Sentence(in = "Promise 6: kettleOf", says = "8 for how many minutes it is banned, 9 for the appeals against its lid")
    static void kettleOfBanAndAppeals(Check check) {
        Guild guild = Guild.after("own 0 1; kettle 0 1 1; kettle 0 1 1; heat 0 5; set 0 0; minute 4");
        check.due("not banned", guild.kettleOf(0, 8), 0);
        for (int ban = 6; ban >= 0; ban--) {
            guild.minute(1);
            check.due("banned", guild.kettleOf(0, 8), ban);
        }
        check.due("another one", guild.kettleOf(1, 8), 0);
        check.due("no appeals", guild.kettleOf(0, 9), 0);
        guild.appeal(3, 0);
        check.due("one appeal", guild.kettleOf(0, 9), 1);
        guild.appeal(1, 0);
        check.due("the appeals are gone", guild.kettleOf(0, 9), 0);
        check.due("another one", guild.kettleOf(1, 9), 0);
    }

    @Sentence(in = "Promise 6: kettleOf", says = "NONE if there is no such kettle")
    static void kettleOfWithoutSuchAKettle(Check check) {
        Guild guild = Guild.after("own 0 1; kettle 0 1 1; kettle 0 1 1");
        int[] outside = Check.outside(0, 1);
        check.each("kettleOf(?, 0)", NONE, kettle -> guild.kettleOf(kettle, 0), outside);
        check.each("kettleOf(?, 9)", NONE, kettle -> guild.kettleOf(kettle, 9), outside);
        check.each("kettleOf(?, -1), listed ahead of BAD", NONE, kettle -> guild.kettleOf(kettle, -1), outside);
        check.each("kettleOf(?, 10), listed ahead of BAD", NONE, kettle -> guild.kettleOf(kettle, 10), outside);
        check.each("kettleOf(2, ?)", NONE, what -> guild.kettleOf(2, what), 0, 1, 2, 3, 4, 5, 6, 7, 8, 9);
    }

    @Sentence(in = "Promise 6: kettleOf", says = "BAD if what is not from 0 to 9.")
    static void kettleOfWithoutSuchAWhat(Check check) {
        Guild guild = Guild.after("own 0 1; kettle 0 1 3; kettle 0 1 4");
        check.each("kettleOf(0, ?)", BAD, what -> guild.kettleOf(0, what), Check.outside(0, 9));
        check.each("kettleOf(1, ?)", BAD, what -> guild.kettleOf(1, what), Check.outside(0, 9));
        check.kettle("from 0 to 9", guild, 1, 0, 1, 4, 20, 1, NOTHING, 0, 0, 0, 0);
    }
}
