import java.util.function.ToIntFunction;

/** Changes, codes, accounts, undo and the snapshot: the sentences of the terms, and the promises 30 to 36. Run by SentencesTest. */
final class StateSentences {
    private static final int NONE = KettleGuild.NONE;
    private static final int BAD = KettleGuild.BAD;
    private static final int FULL = KettleGuild.FULL;
    private static final int REFUSED = KettleGuild.REFUSED;
    private static final int NOTHING = KettleGuild.NOTHING;

    /**
     * The minute 5. The kettle 0 whistles on the stove 0, the kettle 1 is banned, the lid of the kettle 2 is barred, that
     * of the kettle 3 is off, that of the kettle 4 has one appeal, by the member 2. The member 0 owns 4 pitches.
     */
    private static final String RICH = "own 0 1; own 0 4; own 0 8; own 0 12; own 1 6; own 2 11; kettle 0 1 20; kettle 1 6 1; kettle 2 11 9; "
        + "kettle 0 1 5; kettle 1 6 7; heat 0 5; heat 1 5; heat 2 3; set 0 0; set 1 1; set 2 2; minute 5; "
        + "appeal 0 2; appeal 1 2; appeal 2 4; lid 3-";

    /** Each goes well behind RICH, and makes something different. */
    private static final String[] CHANGES = {"own 1 2", "own 3 3", "kettle 0 4 3", "kettle 2 11 20", "set 4 5", "set 4 3", "off 0",
        "off 2", "heat 0 0", "heat 5 1", "fill 3 1", "fill 1 20", "lid 0-", "lid 3+", "appeal 0 4", "appeal 3 1", "minute 1", "minute 9"};

    private StateSentences() {
    }

    // ---- What it is

    @Sentence(in = "What it is", says = "An object is used for at most 512 calls after it has been made")
    static void the512thCall(Check check) {
        Guild guild = new Guild();
        for (int call = 1; call < Guild.MOST_CALLS; call++) {
            guild.minute(9);
        }
        check.due("account(5) as the 512th call", guild.account(5), 9 * 511);
        Guild busy = Guild.whistling(1, 2, 3, 4, 5, 6);
        while (busy.calls() < Guild.MOST_CALLS - 40) {
            busy.then("own 3 12; kettle 3 12 5; lid 6-");
            check.due("run", busy.run("minute 1;fill 0 1"), 2);
            busy.tell(5);
            busy.tellStoves();
            busy.save();
            for (int left = 3; left >= 0; left--) {
                busy.undo();
            }
        }
        check.due("minutes", busy.account(5), 4);
        check.due("kettles", busy.account(0), 6);
        check.due("whistles", busy.whistling(), 63);
        check.due("isBalanced", busy.isBalanced(), 1);
    }

    // ---- Terms: changes

    @Sentence(in = "Terms", says = "The changes are the successful calls of own, kettle, set, off, heat, fill, lid, appeal, minute and run")
    static void changesAreTheSuccessfulCalls(Check check) {
        for (String change : CHANGES) {
            Guild guild = richAsRestored();
            check.due("changes ahead of \"" + change + "\"", guild.account(12), 0);
            check.holds(change + " goes well", guild.call(change) >= 0);
            check.due("changes behind \"" + change + "\"", guild.account(12), 1);
            check.due("run of \"" + change + "\"", guild.run("minute 1;minute 1"), 2);
            check.due("changes behind a run", guild.account(12), 2);
        }
        Guild guild = richAsRestored();
        guild.append('x');
        guild.tell(0);
        guild.tellStoves();
        guild.save();
        check.due("append, tell, tellStoves and save are none", guild.account(12), 0);
        guild.run();
        guild.own(4, 1);
        guild.own(1, 13);
        guild.own(1, 1);
        guild.minute(0);
        guild.heat(0, 5);
        guild.run("off 0;off 0");
        check.due("calls that return a code are none", guild.account(12), 0);
    }

    /** RICH, saved and restored, so that nothing can be undone. */
    private static Guild richAsRestored() {
        Guild guild = Guild.after(RICH);
        guild.save();
        guild.restore();
        return guild;
    }

    @Sentence(in = "Terms", says = "also those by which nothing is different.")
    static void changesByWhichNothingIsDifferent(Check check) {
        Guild guild = richAsRestored();
        String state = Picture.state(guild);
        String[] texts = {"lid 0-;lid 0+", "off 0;set 0 0", "heat 4 1;heat 4 0"};
        for (int index = 0; index < texts.length; index++) {
            check.runs(guild, texts[index], 2);
            check.due("changes", guild.account(12), index + 1);
        }
        check.due("nothing is different", Picture.state(guild), state);
        check.due("undo", guild.undo(), 2);
        check.due("undo", guild.undo(), 1);
        check.due("undo", guild.undo(), 0);
        check.due("undo", guild.undo(), NOTHING);
    }

    @Sentence(in = "Terms", says = "The latest 8 can be undone.")
    static void ninthChangeBehindEight(Check check) {
        Guild guild = new Guild();
        for (int change = 1; change <= 30; change++) {
            guild.minute(1);
            check.due("changes that can be undone", guild.account(12), Math.min(8, change));
        }
        for (int left = 7; left >= 0; left--) {
            check.due("undo", guild.undo(), left);
            check.due("minutes", guild.account(5), 22 + left);
            check.due("changes that can be undone", guild.account(12), left);
        }
        check.due("undo of the ninth", guild.undo(), NOTHING);
        check.due("minutes", guild.account(5), 22);
        Guild eight = new Guild();
        for (int change = 1; change <= 8; change++) {
            eight.minute(1);
        }
        for (int left = 7; left >= 0; left--) {
            check.due("undo of all eight", eight.undo(), left);
        }
        check.due("minutes", eight.account(5), 0);
    }

    @Sentence(in = "Terms", says = "The latest 8 can be undone.")
    static void refusedCallCostsNoneOfTheEight(Check check) {
        Guild guild = new Guild();
        for (int change = 1; change <= 9; change++) {
            guild.minute(1);
        }
        guild.minute(0);
        guild.heat(0, 0);
        guild.run("minute 5;heat 0 0");
        guild.run("minute");
        check.due("minutes", guild.account(5), 9);
        check.due("changes that can be undone", guild.account(12), 8);
        for (int left = 7; left >= 0; left--) {
            check.due("undo", guild.undo(), left);
            check.due("minutes", guild.account(5), 1 + left);
            guild.minute(10);
        }
        check.due("undo of the ninth", guild.undo(), NOTHING);
    }

    // ---- Terms: codes

    /** A call behind RICH that must answer this code, and the reasons with their details if it is refused. */
    private interface Codes {
        void call(String name, int code, ToIntFunction<Guild> call, int... reasons);
    }

    private static void codesOfChanges(Codes codes) {
        codes.call("own(4, 2)", NONE, guild -> guild.own(4, 2));
        codes.call("own(1, 0)", BAD, guild -> guild.own(1, 0));
        codes.call("own(1, 13)", BAD, guild -> guild.own(1, 13));
        codes.call("own(1, 4)", REFUSED, guild -> guild.own(1, 4), 2, 0);
        codes.call("own(0, 2)", REFUSED, guild -> guild.own(0, 2), 1, 4);
        codes.call("kettle(4, 1, 1)", NONE, guild -> guild.kettle(4, 1, 1));
        codes.call("kettle(0, 13, 1)", BAD, guild -> guild.kettle(0, 13, 1));
        codes.call("kettle(0, 1, 21)", BAD, guild -> guild.kettle(0, 1, 21));
        codes.call("kettle(0, 6, 1)", REFUSED, guild -> guild.kettle(0, 6, 1), 3, 1);
        codes.call("kettle(0, 2, 1)", REFUSED, guild -> guild.kettle(0, 2, 1), 3, -1);
        codes.call("fill(5, 1)", NONE, guild -> guild.fill(5, 1));
        codes.call("fill(0, 0)", BAD, guild -> guild.fill(0, 0));
        codes.call("fill(0, 21)", BAD, guild -> guild.fill(0, 21));
        codes.call("fill(0, 2)", REFUSED, guild -> guild.fill(0, 2), 11, 21);
        codes.call("set(5, 3)", NONE, guild -> guild.set(5, 3));
        codes.call("set(4, 6)", NONE, guild -> guild.set(4, 6));
        codes.call("set(0, 4)", REFUSED, guild -> guild.set(0, 4), 4, 0, 5, 0);
        codes.call("set(4, 2)", REFUSED, guild -> guild.set(4, 2), 4, 4, 6, 2);
        codes.call("set(3, 4)", REFUSED, guild -> guild.set(3, 4), 4, 3, 7, 0);
        codes.call("set(1, 4)", REFUSED, guild -> guild.set(1, 4), 4, 1, 8, 6);
        codes.call("off(5)", NONE, guild -> guild.off(5));
        codes.call("off(3)", REFUSED, guild -> guild.off(3), 10, 2);
        codes.call("heat(6, 1)", NONE, guild -> guild.heat(6, 1));
        codes.call("heat(0, 6)", BAD, guild -> guild.heat(0, 6));
        codes.call("heat(2, 3)", REFUSED, guild -> guild.heat(2, 3), 9, 3);
        codes.call("lid(5, 0)", NONE, guild -> guild.lid(5, 0));
        codes.call("lid(3, 2)", BAD, guild -> guild.lid(3, 2));
        codes.call("lid(0, 1)", REFUSED, guild -> guild.lid(0, 1), 9, 1);
        codes.call("lid(3, 0)", REFUSED, guild -> guild.lid(3, 0), 9, 0);
        codes.call("lid(2, 1)", REFUSED, guild -> guild.lid(2, 1), 12, 1);
        codes.call("appeal(4, 0)", NONE, guild -> guild.appeal(4, 0));
        codes.call("appeal(1, 5)", NONE, guild -> guild.appeal(1, 5));
        codes.call("appeal(0, 0)", REFUSED, guild -> guild.appeal(0, 0), 13, 0);
        codes.call("appeal(1, 3)", REFUSED, guild -> guild.appeal(1, 3), 15, 3);
        codes.call("appeal(2, 4)", REFUSED, guild -> guild.appeal(2, 4), 14, 1);
        codes.call("minute(0)", BAD, guild -> guild.minute(0));
        codes.call("minute(10)", BAD, guild -> guild.minute(10));
    }

    private static void codesOfQuestions(Codes codes) {
        codes.call("owner(0)", BAD, guild -> guild.owner(0));
        codes.call("owner(13)", BAD, guild -> guild.owner(13));
        codes.call("owner(2)", NOTHING, guild -> guild.owner(2));
        codes.call("kettleOf(5, 0)", NONE, guild -> guild.kettleOf(5, 0));
        codes.call("kettleOf(0, 10)", BAD, guild -> guild.kettleOf(0, 10));
        codes.call("kettleOf(3, 5)", NOTHING, guild -> guild.kettleOf(3, 5));
        codes.call("stoveOf(6, true)", NONE, guild -> guild.stoveOf(6, true));
        codes.call("stoveOf(5, false)", NOTHING, guild -> guild.stoveOf(5, false));
        codes.call("boilsIn(5)", NONE, guild -> guild.boilsIn(5));
        codes.call("boilsIn(3)", NOTHING, guild -> guild.boilsIn(3));
        codes.call("boilsInAgain(5)", NONE, guild -> guild.boilsInAgain(5));
        codes.call("boilsInAgain(3)", NOTHING, guild -> guild.boilsInAgain(3));
        codes.call("dryIn(5)", NONE, guild -> guild.dryIn(5));
        codes.call("dryIn(3)", NOTHING, guild -> guild.dryIn(3));
        codes.call("memberOf(4, 0)", NONE, guild -> guild.memberOf(4, 0));
        codes.call("memberOf(0, 6)", BAD, guild -> guild.memberOf(0, 6));
        codes.call("ranked(4)", NONE, guild -> guild.ranked(4));
        codes.call("hottest(5)", NONE, guild -> guild.hottest(5));
        codes.call("append(31)", BAD, guild -> guild.append(31));
        codes.call("append(127)", BAD, guild -> guild.append(127));
        codes.call("tell(5)", NONE, guild -> guild.tell(5));
        codes.call("tell(-1)", NONE, guild -> guild.tell(-1));
        codes.call("character(-1)", NONE, guild -> guild.character(-1));
        codes.call("character(99)", NONE, guild -> guild.character(99));
        codes.call("reason(3, false)", BAD, guild -> guild.reason(3, false));
        codes.call("reason(2, true)", NOTHING, guild -> guild.reason(2, true));
        codes.call("account(13)", BAD, guild -> guild.account(13));
    }

    @Sentence(in = "Terms", says = "A call that returns a code leaves everything unchanged, except that run empties the text, and that reasons are kept.")
    static void aCodeLeavesEverythingUnchanged(Check check) {
        String state = Picture.state(richWithAll());
        String rest = Picture.rest(richWithAll());
        Codes codes = (name, code, call, reasons) -> {
            Guild guild = richWithAll();
            check.due(name, call.applyAsInt(guild), code);
            if (reasons.length > 0) {
                check.reasons(name, guild, reasons);
            } else {
                check.due("line, text and reasons behind " + name, Picture.rest(guild), rest);
            }
            check.due("line behind " + name, guild.line(), "0:0p1w19t100@0!");
            check.due("state behind " + name, Picture.state(guild), state);
            dueUndoTextAndSnapshot(check, name, call);
        };
        codesOfChanges(codes);
        codesOfQuestions(codes);
    }

    /** RICH with a snapshot that differs, a text, a line and a reason. */
    private static Guild richWithAll() {
        Guild guild = Guild.after(RICH);
        guild.save();
        guild.then("heat 3 1; fill 3 2; own 3 7");
        guild.heat(0, 5);
        guild.write("minute 1");
        guild.tell(0);
        return guild;
    }

    /** What cannot be seen at once is as it was as well. */
    private static void dueUndoTextAndSnapshot(Check check, String name, ToIntFunction<Guild> call) {
        Guild plain = richWithAll();
        Guild guild = richWithAll();
        call.applyAsInt(guild);
        check.due("run behind " + name, guild.run(), plain.run());
        check.due("state behind run behind " + name, Picture.state(guild), Picture.state(plain));
        check.due("restore behind " + name, guild.restore(), plain.restore());
        check.due("state behind restore behind " + name, Picture.state(guild), Picture.state(plain));
        Guild plainBack = richWithAll();
        Guild back = richWithAll();
        call.applyAsInt(back);
        for (int left = 7; left >= 0; left--) {
            check.due("undo behind " + name, back.undo(), left);
            check.due("undo without " + name, plainBack.undo(), left);
        }
        check.due("state behind undo behind " + name, Picture.state(back), Picture.state(plainBack));
        check.due("undo of no more behind " + name, back.undo(), NOTHING);
    }

    @Sentence(in = "Terms", says = "except that run empties the text")
    static void runEmptiesTheText(Check check) {
        String state = Picture.state(Guild.after(RICH));
        for (String text : new String[] {"x", "minute 1;", "minute 1;off 3", "own 4 1", "minute 5;own 1 13", "set 0 4"}) {
            Guild guild = Guild.after(RICH);
            guild.tell(0);
            int answer = guild.run(text);
            check.holds("a code of \"" + text + "\"", answer == REFUSED || answer <= -2000);
            check.due("characters behind \"" + text + "\"", guild.account(11), 0);
            check.due("line behind \"" + text + "\"", guild.line(), "0:0p1w19t100@0!");
            check.due("state behind \"" + text + "\"", Picture.state(guild), state);
            check.due("changes behind \"" + text + "\"", guild.account(12), 8);
            check.due("run again", guild.run(), -2000);
        }
        Guild well = Guild.after(RICH);
        check.runs(well, "minute 1", 1);
        check.due("characters behind a run that goes well", well.account(11), 0);
    }

    @Sentence(in = "Terms", says = "If several codes apply, the one that is listed first is returned.")
    static void firstListedOfSeveralCodes(Check check) {
        Guild guild = Guild.after(RICH);
        check.due("own: NONE, BAD", guild.own(4, 13), NONE);
        check.due("own: NONE, REFUSED", guild.own(4, 1), NONE);
        check.due("own: BAD, REFUSED", guild.own(0, 13), BAD);
        check.due("kettle: NONE, BAD", guild.kettle(4, 13, 21), NONE);
        check.due("kettle: NONE, REFUSED", guild.kettle(4, 1, 1), NONE);
        check.due("kettle: BAD, REFUSED", guild.kettle(0, 6, 21), BAD);
        check.due("fill: NONE, BAD", guild.fill(5, 21), NONE);
        check.due("fill: BAD, REFUSED", guild.fill(0, 21), BAD);
        check.due("kettleOf: NONE, BAD", guild.kettleOf(5, 10), NONE);
        check.due("set: NONE, REFUSED", guild.set(0, 6), NONE);
        check.due("heat: NONE, BAD", guild.heat(6, 6), NONE);
        check.due("lid: NONE, BAD", guild.lid(5, 2), NONE);
        check.due("lid: BAD, REFUSED", guild.lid(2, 2), BAD);
        check.due("appeal: NONE, REFUSED", guild.appeal(4, 3), NONE);
        check.due("memberOf: NONE, BAD", guild.memberOf(4, 6), NONE);
        check.reasons("nothing was refused", guild);
        check.due("reason: BAD, NOTHING", guild.reason(3, false), BAD);
        check.due("run: the fault, REFUSED", guild.run("off 3;"), -2006);
        for (int length = 0; length < 60; length++) {
            guild.append(' ');
        }
        check.due("append: BAD, FULL", guild.append(127), BAD);
    }

    @Sentence(in = "Terms", says = "The text, the line, the reasons and their details are neither undone nor saved, and stay.")
    static void textLineAndReasonsStay(Check check) {
        Guild guild = Guild.after("own 0 1; kettle 0 1 9; set 0 3; heat 3 5");
        check.refusesText(guild, "set 0 5", 16, 0, 4, 0, 5, 3);
        guild.write("minute");
        guild.tell(0);
        String rest = Picture.rest(guild);
        guild.save();
        check.due("behind save", Picture.rest(guild), rest);
        guild.undo();
        guild.undo();
        check.due("behind undo", Picture.rest(guild), rest);
        guild.restore();
        check.due("behind restore", Picture.rest(guild), rest);
        guild.write(" 2");
        guild.tellStoves();
        guild.heat(3, 5);
        rest = Picture.rest(guild);
        guild.restore();
        check.due("none of them was saved", Picture.rest(guild), rest);
        check.due("the text", guild.run(), 1);
        check.due("the text was carried out", guild.account(5), 2);
        guild.undo();
        check.due("the text is not back", guild.account(11), 0);
    }

    // ---- Terms: the constants

    @Sentence(in = "Terms", says = "`NONE = -1011`")
    @Sentence(in = "Terms", says = "`BAD = -1012`")
    @Sentence(in = "Terms", says = "`FULL = -1013`")
    @Sentence(in = "Terms", says = "`REFUSED = -1014`")
    @Sentence(in = "Terms", says = "`NOTHING = -1015`")
    static void constants(Check check) {
        check.due("NONE", NONE, -1011);
        check.due("BAD", BAD, -1012);
        check.due("FULL", FULL, -1013);
        check.due("REFUSED", REFUSED, -1014);
        check.due("NOTHING", NOTHING, -1015);
    }

    // ---- Promise 30

    @Sentence(in = "Promise 30: account", says = "0 for the kettles, 1 for those on stoves, 2 for those that boil, 3 for the lids that are on, 4 for the lids that are barred, 5 for the minutes so far")
    @Sentence(in = "Promise 30: account", says = "6 for the water of all kettles, 7 for the water that came with kettles and by filling so far, 8 for the water boiled away so far")
    @Sentence(in = "Promise 30: account", says = "9 for the kettles that boiled dry so far, 10 for the points of all members, 11 for the characters of the text, 12 for the changes that can be undone")
    @Sentence(in = "Promise 30: account", says = "Returns the account")
    static void accounts(Check check) {
        Guild guild = new Guild();
        dueAccounts(check, "at first", guild, 0, 0, 0, 0, 0, 0, 0, 0, 0, 0, 0, 0, 0);
        guild.then("own 0 1; own 1 4; kettle 0 1 9; kettle 1 4 0; kettle 0 1 4; heat 0 5");
        dueAccounts(check, "with kettles", guild, 3, 0, 0, 3, 0, 0, 13, 13, 0, 0, 0, 0, 6);
        guild.then("heat 1 5; heat 2 5; set 0 0; set 1 1; appeal 1 2; appeal 2 2; lid 0-");
        dueAccounts(check, "on stoves", guild, 3, 2, 0, 1, 1, 0, 13, 13, 0, 0, 0, 0, 8);
        guild.minute(4);
        guild.append('x');
        dueAccounts(check, "hot", guild, 3, 2, 2, 1, 1, 4, 13, 13, 0, 0, 0, 1, 8);
        guild.minute(3);
        dueAccounts(check, "one boiled dry", guild, 3, 1, 1, 1, 0, 7, 10, 13, 3, 1, -2, 1, 8);
        guild.fill(1, 16);
        guild.fill(1, 4);
        dueAccounts(check, "filled", guild, 3, 1, 1, 1, 0, 7, 30, 33, 3, 1, -2, 1, 8);
        guild.undo();
        dueAccounts(check, "undone", guild, 3, 1, 1, 1, 0, 7, 26, 29, 3, 1, -2, 1, 7);
        guild.undo();
        dueAccounts(check, "undone", guild, 3, 1, 1, 1, 0, 7, 10, 13, 3, 1, -2, 1, 6);
        guild.heat(0, 0);
        dueAccounts(check, "without heat", guild, 3, 1, 0, 1, 0, 7, 10, 13, 3, 1, -2, 1, 7);
    }

    private static void dueAccounts(Check check, String when, Guild guild, int... accounts) {
        for (int what = 0; what < accounts.length; what++) {
            check.due("account(" + what + ") " + when, guild.account(what), accounts[what]);
        }
    }

    @Sentence(in = "Promise 30: account", says = "BAD if what is not from 0 to 12.")
    static void accountWithoutSuchAWhat(Check check) {
        check.each("account(?)", BAD, new Guild()::account, Check.outside(0, 12));
        check.each("account(?)", BAD, Guild.after(RICH)::account, Check.outside(0, 12));
    }

    // ---- Promise 31

    @Sentence(in = "Promise 31: isBalanced", says = "Returns whether the water that came is that of the kettles and that boiled away, harmonies and when kettles boil are the same by both ways, and no pitch is on two stoves.")
    @Sentence(in = "Promise 31: isBalanced", says = "Returns 1 if it is so, 0 otherwise.")
    static void isBalancedIn(Check check) {
        check.due("isBalanced of a new guild", new Guild().isBalanced(), 1);
        Guild guild = Guild.after(RICH);
        guild.save();
        for (int minutes = 0; minutes < 30; minutes++) {
            check.due("isBalanced", guild.isBalanced(), 1);
            int water = guild.account(6) + guild.account(8);
            check.due("the water that came", guild.account(7), water);
            check.due("harmonies", guild.harmonyAgain(), guild.harmony());
            guild.minute(1);
        }
        guild.fill(0, 5);
        check.due("isBalanced behind fill", guild.isBalanced(), 1);
        guild.undo();
        check.due("isBalanced behind undo", guild.isBalanced(), 1);
        guild.restore();
        check.due("isBalanced behind restore", guild.isBalanced(), 1);
    }

    // ---- Promise 32 and 33

    @Sentence(in = "Promise 32: meanWater", says = "the sum divided by their number, both converted to double.")
    @Sentence(in = "Promise 32: meanWater", says = "Returns the mean; 0.0 without kettles.")
    @Sentence(in = "Terms", says = "All numbers are whole, but two")
    static void meanWaterIsADouble(Check check) {
        check.due("without kettles", new Guild().meanWater(), 0.0);
        Guild guild = Guild.after("own 0 1; kettle 0 1 0");
        check.due("of one without water", guild.meanWater(), 0.0);
        guild.then("kettle 0 1 9");
        check.due("of 0 and 9", guild.meanWater(), 4.5);
        guild.then("kettle 0 1 1");
        check.due("of 0, 9 and 1", guild.meanWater(), 10.0 / 3.0);
        guild.then("kettle 0 1 20; kettle 0 1 20; kettle 0 1 20; kettle 0 1 20; kettle 0 1 20; kettle 0 1 20; kettle 0 1 20");
        check.due("of ten", guild.meanWater(), 15.0);
        Guild full = Guild.after("own 0 1; kettle 0 1 20");
        check.due("of one that is full", full.meanWater(), 20.0);
        full.undo();
        check.due("without kettles again", full.meanWater(), 0.0);
    }

    @Sentence(in = "Promise 33: whistleShare", says = "Returns the share of the kettles on stoves that whistle, both numbers converted to float.")
    @Sentence(in = "Promise 33: whistleShare", says = "Returns the share; 0.0f if none is on a stove.")
    @Sentence(in = "Terms", says = "All numbers are whole, but two")
    static void whistleShareIsAFloat(Check check) {
        dueShare(check, "without kettles", new Guild(), 0.0f);
        Guild guild = Guild.after("own 0 1; own 1 4; own 2 6; kettle 0 1 9; kettle 1 4 9; kettle 2 6 9; kettle 0 1 9; heat 0 5; heat 1 1");
        dueShare(check, "with none on a stove", guild, 0.0f);
        guild.then("set 0 0; set 1 1; set 2 2");
        dueShare(check, "without whistles", guild, 0.0f);
        guild.minute(4);
        dueShare(check, "of three", guild, 1.0f / 3.0f);
        guild.then("heat 1 5; minute 3");
        dueShare(check, "two of three", guild, 2.0f / 3.0f);
        guild.lid(1, 0);
        guild.off(2);
        dueShare(check, "one of two", guild, 0.5f);
        guild.off(1);
        dueShare(check, "of one", guild, 1.0f);
        guild.off(0);
        dueShare(check, "with none on a stove again", guild, 0.0f);
        dueShare(check, "six of six", Guild.whistling(1, 2, 3, 4, 5, 6), 1.0f);
    }

    private static void dueShare(Check check, String when, Guild guild, float due) {
        check.due("whistleShare " + when, (double) guild.whistleShare(), (double) due);
    }

    // ---- Promise 34

    @Sentence(in = "Promise 34: undo", says = "Undoes the latest change.")
    static void undoOfEachChange(Check check) {
        for (String change : CHANGES) {
            Guild guild = richAsRestored();
            String state = Picture.state(guild);
            guild.then(change);
            check.holds(change + " makes something different", !Picture.state(guild).equals(state));
            check.due("undo of \"" + change + "\"", guild.undo(), 0);
            check.due("behind undo of \"" + change + "\"", Picture.state(guild), state);
            Guild text = richAsRestored();
            check.runs(text, change + ";minute 9;minute 9", 3);
            check.due("undo of \"" + change + "\" in a text", text.undo(), 0);
            check.due("behind undo of \"" + change + "\" in a text", Picture.state(text), state);
            text.then(change + "; minute 9");
            text.undo();
            text.undo();
            check.due("behind two undos", text.account(5), 5);
        }
    }

    @Sentence(in = "Promise 34: undo", says = "Undoes the latest change.")
    static void undoOfAppealsAndBars(Check check) {
        Guild guild = Guild.after("own 0 1; kettle 0 1 9; appeal 1 0; appeal 2 0");
        guild.undo();
        check.tells(guild, 0, "0:0p1w9t20");
        check.refused("the appeal of 1 stands", guild, guild.appeal(1, 0), 14, 1);
        guild.undo();
        check.due("none stands", guild.kettleOf(0, 9), 0);
        check.due("the appeal of 1 anew", guild.appeal(1, 0), 0);
        guild.then("appeal 3 0; minute 6; lid 0+");
        guild.undo();
        guild.undo();
        check.refused("barred again", guild, guild.lid(0, 1), 12, 6);
    }

    @Sentence(in = "Promise 34: undo", says = "Returns the number of changes that can still be undone; NOTHING if there is none.")
    static void undoReturnsHowManyCanStillBeUndone(Check check) {
        Guild guild = new Guild();
        check.due("of a new guild", guild.undo(), NOTHING);
        guild.then("minute 1; minute 1");
        check.due("of two", guild.undo(), 1);
        guild.then("minute 1");
        check.due("of two again", guild.undo(), 1);
        check.due("of one", guild.undo(), 0);
        check.due("of none", guild.undo(), NOTHING);
        check.due("of none again", guild.undo(), NOTHING);
        check.due("minutes", guild.account(5), 0);
        guild.then("minute 2");
        check.due("of a new one", guild.undo(), 0);
    }

    // ---- Promise 35 and 36

    @Sentence(in = "Promise 35: save", says = "Saves all that changes can change, in place of an earlier snapshot.")
    @Sentence(in = "Promise 36: restore", says = "Restores the snapshot, which stays.")
    static void saveAndRestoreOfEachChange(Check check) {
        for (String change : CHANGES) {
            Guild guild = Guild.after(RICH);
            String old = Picture.state(guild);
            guild.save();
            guild.then(change);
            guild.restore();
            check.due("restored behind \"" + change + "\"", Picture.state(guild), old);
            guild.then(change);
            guild.save();
            String saved = Picture.state(guild);
            guild.then("minute 9; own 3 9; kettle 3 9 2");
            guild.restore();
            check.due("the later snapshot, behind \"" + change + "\"", Picture.state(guild), saved);
            guild.then("minute 9");
            check.due("restore again", guild.restore(), guild.account(0));
            check.due("minutes of it", guild.account(5), change.startsWith("minute") ? 5 + change.charAt(7) - '0' : 5);
        }
    }

    @Sentence(in = "Promise 35: save", says = "Returns the kettles.")
    static void saveReturnsTheKettles(Check check) {
        Guild guild = Guild.after("own 0 1");
        for (int kettles = 0; kettles <= 10; kettles++) {
            check.due("save", guild.save(), kettles);
            guild.kettle(0, 1, 1);
        }
        check.due("save leaves what can be undone", guild.account(12), 8);
        check.due("undo behind save", guild.undo(), 7);
    }

    @Sentence(in = "Promise 36: restore", says = "Nothing can be undone then.")
    static void nothingCanBeUndoneBehindRestore(Check check) {
        Guild guild = Guild.after("minute 1; minute 1");
        guild.save();
        check.due("save leaves what can be undone", guild.account(12), 2);
        guild.then("minute 1");
        guild.restore();
        check.due("changes that can be undone", guild.account(12), 0);
        check.due("undo", guild.undo(), NOTHING);
        check.due("minutes", guild.account(5), 2);
        guild.then("minute 3");
        check.due("undo of a change behind it", guild.undo(), 0);
        check.due("minutes", guild.account(5), 2);
        check.due("undo", guild.undo(), NOTHING);
    }

    @Sentence(in = "Promise 36: restore", says = "Returns the kettles; NOTHING if there is no snapshot.")
    static void restoreReturnsTheKettles(Check check) {
        Guild guild = Guild.after("own 0 1; kettle 0 1 1");
        check.due("restore without a snapshot", guild.restore(), NOTHING);
        check.due("it leaves the kettles", guild.account(0), 1);
        check.due("it leaves what can be undone", guild.account(12), 2);
        guild.save();
        guild.then("kettle 0 1 1");
        check.due("restore", guild.restore(), 1);
        check.due("kettles", guild.account(0), 1);
        for (int kettle = 1; kettle < 10; kettle++) {
            guild.then("kettle 0 1 1");
        }
        guild.save();
        guild.then("minute 1");
        check.due("restore of ten", guild.restore(), 10);
        Guild empty = new Guild();
        empty.save();
        empty.then("own 0 1; kettle 0 1 1");
        check.due("restore of none", empty.restore(), 0);
        check.due("kettleOf behind it", empty.kettleOf(0, 0), NONE);
        check.due("owner behind it", empty.owner(1), NOTHING);
    }

    @Sentence(in = "Promise 36: restore", says = "Restores the snapshot")
    static void restoreBehindAnotherKettleOfTheSameNumber(Check check) {
        Guild guild = Guild.after("own 0 1; own 1 4; kettle 1 4 3; appeal 2 0");
        guild.save();
        guild.undo();
        guild.undo();
        guild.then("kettle 0 1 5; appeal 3 0; appeal 2 0; heat 0 5; set 0 0; minute 2");
        check.tells(guild, 0, "0:0p1w5t70_#@0");
        guild.restore();
        check.tells(guild, 0, "0:1p4w3t20");
        check.refused("the appeal of 2 stands", guild, guild.appeal(2, 0), 14, 1);
        guild.undo();
        check.tells(guild, 0, "0:1p4w3t20");
    }

    @Sentence(in = "Promise 35: save", says = "Saves all that changes can change")
    static void undoLeavesTheSnapshot(Check check) {
        Guild guild = Guild.after("minute 1; minute 1");
        guild.save();
        guild.undo();
        guild.undo();
        check.due("minutes", guild.account(5), 0);
        check.due("restore", guild.restore(), 0);
        check.due("minutes", guild.account(5), 2);
    }
}
