/** Texts and lines: the sentences of the terms, and the promises 24 to 28. Run by SentencesTest. */
final class TextSentences {
    private static final int NONE = KettleGuild.NONE;
    private static final int BAD = KettleGuild.BAD;
    private static final int FULL = KettleGuild.FULL;
    private static final int REFUSED = KettleGuild.REFUSED;
    private static final int NOTHING = KettleGuild.NOTHING;
    private static final String DIGITS = "0123456789";
    private static final String[] WORDS = {"own ", "kettle ", "set ", "off ", "heat ", "fill ", "lid ", "appeal ", "minute "};

    /** Ten kettles; the kettle 8 is on the stove 0, the kettle 9 on the stove 5. */
    private static final String TEN_KETTLES = "own 0 1; own 3 12; kettle 0 1 0; kettle 0 1 9; kettle 0 1 9; kettle 0 1 9; "
        + "kettle 0 1 9; kettle 0 1 9; kettle 0 1 9; kettle 0 1 9; kettle 0 1 9; kettle 3 12 0; set 8 0; set 9 5; lid 9-";

    /** A text of 60 characters. */
    private static final String LONGEST = "kettle 0 1 20;kettle 0 1 20;kettle 0 1 20;kettle 0 1 1;off 0";

    private TextSentences() {
    }

    // ---- Terms: texts

    @Sentence(in = "Terms", says = "A text has one or more orders with \";\" between them")
    static void oneOrMoreOrdersWithASemicolonBetween(Check check) {
        check.runs(new Guild(), "", -2000);
        check.runs(new Guild(), "minute 1", 1);
        check.runs(new Guild(), "minute 1;minute 2", 2);
        check.runs(new Guild(), ";", -2000);
        check.runs(new Guild(), ";minute 1", -2000);
        check.runs(new Guild(), "minute 1;", -2009);
        check.runs(new Guild(), "minute 1;;minute 2", -2009);
        check.runs(new Guild(), "minute 1minute 2", -2008);
        check.runs(new Guild(), "minute 1 minute 2", -2008);
        check.runs(new Guild(), "minute 1; minute 2", -2009);
        Guild most = Guild.after("own 0 1; own 0 2; own 0 3; own 0 4; own 1 5; own 1 6");
        for (int kettle = 0; kettle < 6; kettle++) {
            most.then("kettle " + kettle / 4 + " " + (kettle + 1) + " 9; set " + kettle + " " + kettle);
        }
        check.runs(most, "off 0;off 1;off 2;off 3;off 4;off 5;lid 0-;lid 1-;lid 2-", 9);
        check.due("kettles on stoves", most.account(1), 0);
        check.due("lids on", most.account(3), 3);
    }

    @Sentence(in = "Terms", says = "\"own \", a member, a blank, and a pitch")
    static void orderOwn(Check check) {
        dueAsCall(check, "own 0 12", "own 2 1");
        dueAsCall(check, "own 0 12", "own 3 11");
        dueAsCall(check, "own 0 12", "own 0 05");
    }

    @Sentence(in = "Terms", says = "\"kettle \", a member, a blank, a pitch, a blank, and water")
    static void orderKettle(Check check) {
        dueAsCall(check, "own 0 1; own 3 12", "kettle 0 1 0");
        dueAsCall(check, "own 0 1; own 3 12", "kettle 3 12 20");
        dueAsCall(check, "own 0 1; own 3 12", "kettle 0 01 05");
        dueAsCall(check, "own 0 1; own 3 12", "kettle 3 12 9");
    }

    @Sentence(in = "Terms", says = "\"set \", a kettle, a blank, and a stove")
    static void orderSet(Check check) {
        dueAsCall(check, TEN_KETTLES + "; off 8; off 9", "set 0 5");
        dueAsCall(check, TEN_KETTLES + "; off 8; off 9", "set 9 0");
    }

    @Sentence(in = "Terms", says = "\"off \" and a kettle")
    static void orderOff(Check check) {
        dueAsCall(check, TEN_KETTLES, "off 9");
        dueAsCall(check, TEN_KETTLES + "; off 8; set 0 0", "off 0");
    }

    @Sentence(in = "Terms", says = "\"heat \", a stove, a blank, and a heat")
    static void orderHeat(Check check) {
        dueAsCall(check, "heat 5 4; heat 0 1", "heat 0 5");
        dueAsCall(check, "heat 5 4; heat 0 1", "heat 5 0");
    }

    @Sentence(in = "Terms", says = "\"fill \", a kettle, a blank, and water")
    static void orderFill(Check check) {
        dueAsCall(check, TEN_KETTLES, "fill 0 1");
        dueAsCall(check, TEN_KETTLES, "fill 9 20");
        dueAsCall(check, TEN_KETTLES, "fill 9 01");
    }

    @Sentence(in = "Terms", says = "\"lid \", a kettle, and \"+\" to put it on or \"-\" to take it off")
    static void orderLid(Check check) {
        dueAsCall(check, TEN_KETTLES, "lid 0-");
        dueAsCall(check, TEN_KETTLES, "lid 9+");
        Guild guild = Guild.after(TEN_KETTLES);
        guild.run("lid 0-;lid 9+");
        check.due("the lid that is taken off", guild.kettleOf(0, 4), 0);
        check.due("the lid that is put on", guild.kettleOf(9, 4), 1);
    }

    @Sentence(in = "Terms", says = "\"appeal \", a member, a blank, and a kettle")
    static void orderAppeal(Check check) {
        dueAsCall(check, TEN_KETTLES, "appeal 3 0");
        dueAsCall(check, TEN_KETTLES + "; lid 9+", "appeal 0 9");
        dueAsCall(check, TEN_KETTLES + "; appeal 3 8", "appeal 1 8");
    }

    @Sentence(in = "Terms", says = "or \"minute \" and how many.")
    static void orderMinute(Check check) {
        dueAsCall(check, TEN_KETTLES + "; heat 5 5", "minute 1");
        dueAsCall(check, TEN_KETTLES + "; heat 5 5", "minute 9");
    }

    /** The order does as a text what it does as a call. */
    private static void dueAsCall(Check check, String before, String order) {
        Guild guild = Guild.after(before);
        Guild called = Guild.after(before);
        String old = Picture.state(guild);
        check.runs(guild, order, 1);
        called.call(order);
        String now = Picture.state(guild);
        check.due("behind \"" + order + "\"", now, Picture.state(called));
        check.holds("something is different behind \"" + order + "\"", !now.equals(old));
        check.due("changes", guild.account(12), called.account(12));
    }

    @Sentence(in = "Terms", says = "Pitches and water have one or two digits, all else one.")
    static void pitchesAndWaterHaveOneOrTwoDigits(Check check) {
        check.runs(new Guild(), "own 0 2;own 1 03;own 2 12", 3);
        check.runs(Guild.after("own 0 1"), "kettle 0 1 5;kettle 0 01 05;kettle 0 1 20", 3);
        check.runs(Guild.after("own 0 1; kettle 0 1 0"), "fill 0 1;fill 0 01;fill 0 18", 3);
        check.runs(new Guild(), "own 0 001", -2008);
        check.runs(new Guild(), "own 0 123", -2008);
        check.runs(new Guild(), "kettle 0 001 5", -2011);
        check.runs(new Guild(), "kettle 0 1 005", -2013);
        check.runs(new Guild(), "fill 0 001", -2009);
        check.runs(new Guild(), "own 00 1", -2005);
        check.runs(new Guild(), "kettle 00 1 1", -2008);
        check.runs(new Guild(), "set 00 1", -2005);
        check.runs(new Guild(), "set 0 01", -2007);
        check.runs(new Guild(), "off 00", -2005);
        check.runs(new Guild(), "heat 00 1", -2006);
        check.runs(new Guild(), "heat 0 01", -2008);
        check.runs(new Guild(), "fill 00 1", -2006);
        check.runs(new Guild(), "lid 00+", -2005);
        check.runs(new Guild(), "appeal 01 0", -2008);
        check.runs(new Guild(), "appeal 1 00", -2010);
        check.runs(new Guild(), "minute 01", -2008);
    }

    @Sentence(in = "Terms", says = "The fault position of a text is the index of its first character with which no such text can continue, or its length if it ends too early")
    @Sentence(in = "Promise 25: run", says = "-2000 minus the fault position if the text is wrong")
    static void faultPositionBehindTheNumbers(Check check) {
        for (String ahead : new String[] {"", "off 0;", "own 0 1;lid 0+;"}) {
            dueNext(check, ahead, "own 0", " ");
            dueNext(check, ahead, "own 0 ", DIGITS);
            dueNext(check, ahead, "own 0 1", DIGITS + ";");
            dueNext(check, ahead, "own 9 99", ";");
            dueNext(check, ahead, "kettle 0", " ");
            dueNext(check, ahead, "kettle 0 ", DIGITS);
            dueNext(check, ahead, "kettle 0 1", DIGITS + " ");
            dueNext(check, ahead, "kettle 0 12", " ");
            dueNext(check, ahead, "kettle 0 1 ", DIGITS);
            dueNext(check, ahead, "kettle 0 12 5", DIGITS + ";");
            dueNext(check, ahead, "kettle 9 99 99", ";");
            dueNext(check, ahead, "set 9", " ");
            dueNext(check, ahead, "set 9 ", DIGITS);
            dueNext(check, ahead, "set 9 9", ";");
            dueNext(check, ahead, "off 9", ";");
            dueNext(check, ahead, "heat 9", " ");
            dueNext(check, ahead, "heat 9 ", DIGITS);
            dueNext(check, ahead, "heat 9 9", ";");
            dueNext(check, ahead, "fill 9", " ");
            dueNext(check, ahead, "fill 9 ", DIGITS);
            dueNext(check, ahead, "fill 9 9", DIGITS + ";");
            dueNext(check, ahead, "fill 9 99", ";");
            dueNext(check, ahead, "lid 9", "+-");
            dueNext(check, ahead, "lid 9+", ";");
            dueNext(check, ahead, "lid 9-", ";");
            dueNext(check, ahead, "appeal 9", " ");
            dueNext(check, ahead, "appeal 9 ", DIGITS);
            dueNext(check, ahead, "appeal 9 9", ";");
            dueNext(check, ahead, "minute 0", ";");
        }
    }

    @Sentence(in = "Terms", says = "words are looked at letter by letter.")
    static void wordsAreLookedAtLetterByLetter(Check check) {
        for (String word : WORDS) {
            for (int length = 0; length <= word.length(); length++) {
                String start = word.substring(0, length);
                dueNext(check, "", start, nextOf(start));
                dueNext(check, "minute 5;", start, nextOf(start));
            }
        }
    }

    private static String nextOf(String start) {
        StringBuilder next = new StringBuilder();
        for (String word : WORDS) {
            if (word.equals(start)) {
                return DIGITS;
            }
            if (word.startsWith(start)) {
                next.append(word.charAt(start.length()));
            }
        }
        return next.toString();
    }

    /** Behind the start, which stands behind whole orders, just these characters can continue the text. */
    private static void dueNext(Check check, String ahead, String start, String next) {
        String text = ahead + start;
        if (next.indexOf(';') < 0) {
            check.runs(new Guild(), text, -2000 - text.length());
        }
        for (char sign = 32; sign <= 126; sign++) {
            int answer = new Guild().run(text + sign);
            if (next.indexOf(sign) < 0) {
                check.due("run of \"" + text + sign + "\"", answer, -2000 - text.length());
            } else {
                check.holds("the fault of \"" + text + sign + "\" is not this sign", answer != -2000 - text.length());
                check.holds("the fault of \"" + text + sign + "\" is not ahead of its end", answer > -2000 || answer == -2001 - text.length());
            }
        }
    }

    @Sentence(in = "Terms", says = "or its length if it ends too early")
    @Sentence(in = "Promise 25: run", says = "-2000 minus the fault position if the text is wrong")
    static void faultPositionsFrom0To60(Check check) {
        check.due("length of the longest", LONGEST.length(), 60);
        check.runs(Guild.after("own 0 1; kettle 0 1 9; set 0 0"), LONGEST, 5);
        check.runs(new Guild(), LONGEST.substring(0, 59) + "x", -2059);
        check.runs(new Guild(), LONGEST.substring(0, 55) + "own 0", -2060);
        check.runs(new Guild(), "off 0;off 0;off 0;off 0;off 0;off 0;off 0;off 0;off 0;off 0;", -2060);
        check.runs(new Guild(), "off 0;off 0;off 0;off 0;off 0;off 0;off 0;off 0;off 0;off 0 ", -2059);
        check.runs(new Guild(), "own 0 1;own 0 2;own 0 3;own 0 4;own 1 5;own 1 6;own 1 7;ow 1", -2058);
        check.runs(new Guild(), "kettle 0 1 20;kettle 0 1 20;kettle 0 1 20;kettle 0 1 20;kett", -2060);
        check.runs(new Guild(), "x" + LONGEST.substring(1), -2000);
        check.runs(new Guild(), "x", -2000);
        check.runs(new Guild(), "o", -2001);
    }

    @Sentence(in = "Terms", says = "The orders are carried out one after the other, all or none.")
    @Sentence(in = "Promise 25: run", says = "carries them out, all or none.")
    static void ordersAllOrNone(Check check) {
        Guild guild = new Guild();
        check.runs(guild, "own 0 1;kettle 0 1 0;heat 5 5;set 0 5;minute 5;fill 0 3", 6);
        check.tells(guild, 0, "0:0p1w3t95x6");
        String[] texts = {"own 1 3;own 1 3", "kettle 0 1 5;off 0", "kettle 0 1 5;set 1 0;off 0", "set 1 1;off 1;off 1", "off 2;off 2",
            "heat 0 5;heat 0 5", "fill 0 1;fill 0 20", "lid 1-;lid 1-", "appeal 1 1;appeal 1 1", "appeal 1 1;appeal 2 1;lid 1+",
            "minute 9;off 0", "minute 6;minute 0", "fill 0 5;own 4 2"};
        for (String text : texts) {
            Guild before = Guild.after("own 0 1; own 0 2; kettle 0 1 9; kettle 0 1 9; kettle 0 2 0; heat 3 5; set 2 3");
            String state = Picture.state(before);
            int changes = before.account(12);
            check.runs(before, text, REFUSED);
            check.due("state behind \"" + text + "\"", Picture.state(before), state);
            check.due("changes behind \"" + text + "\"", before.account(12), changes);
        }
        Guild wrong = Guild.after("own 0 1");
        String state = Picture.state(wrong);
        check.runs(wrong, "own 1 2;minute 5;heat 0 5;own 1 3;x", -2034);
        check.due("state behind a fault", Picture.state(wrong), state);
    }

    @Sentence(in = "Terms", says = "Numbers of orders are asked for their range ahead of reasons.")
    static void rangesOfOrdersAheadOfReasons(Check check) {
        String before = "own 0 1; own 0 2; own 0 3; own 0 4; own 1 5; kettle 0 1 20; kettle 0 1 9; set 0 0; lid 1-; minute 1";
        String[] texts = {"own 4 1", "own 9 5", "own 0 0", "own 0 13", "own 0 99", "kettle 4 1 1", "kettle 9 5 1", "kettle 0 0 1",
            "kettle 0 13 1", "kettle 0 5 21", "kettle 0 5 99", "set 0 6", "set 0 9", "set 2 0", "off 2", "off 9", "heat 6 0", "heat 9 0",
            "heat 0 6", "heat 0 9", "fill 2 20", "fill 0 0", "fill 0 21", "fill 0 99", "lid 2+", "lid 9-", "appeal 4 1", "appeal 9 1",
            "appeal 0 2", "appeal 0 9", "minute 0"};
        for (String text : texts) {
            check.refusesText(Guild.after(before), text, 16, 0);
            check.refusesText(Guild.after(before), "minute 2;" + text, 16, 1);
        }
        check.refusesText(Guild.after(before), "own 1 1;own 9 1", 16, 0, 2, 0);
        check.refusesText(Guild.after(before), "own 9 1;own 1 1", 16, 0);
    }

    // ---- Promise 24

    @Sentence(in = "Promise 24: append", says = "`code`: the code of the character, 32 to 126")
    @Sentence(in = "Promise 24: append", says = "BAD if the code is out of range")
    static void appendOf32To126(Check check) {
        Guild guild = new Guild();
        check.each("append(?)", BAD, guild::append, Check.outside(32, 126));
        check.due("append(65536 + 65)", guild.append(65536 + 65), BAD);
        check.due("characters", guild.account(11), 0);
        check.due("append(32)", guild.append(32), 1);
        check.due("append(126)", guild.append(126), 2);
        Guild full = new Guild();
        full.write(LONGEST);
        check.each("append(?) with 60, listed ahead of FULL", BAD, full::append, Check.outside(32, 126));
    }

    @Sentence(in = "Promise 24: append", says = "Returns the length of the text")
    @Sentence(in = "Promise 24: append", says = "FULL if the text has 60 characters.")
    static void sixtyFirstCharacterBehindSixty(Check check) {
        Guild guild = new Guild();
        for (int length = 1; length <= 60; length++) {
            check.due("append", guild.append(length % 2 == 0 ? 32 : 126), length);
        }
        check.due("the sixty-first", guild.append(65), FULL);
        check.due("the sixty-first again", guild.append(32), FULL);
        check.due("characters", guild.account(11), 60);
        check.due("none was lost", guild.run(), -2000);
        check.due("behind run", guild.append(65), 1);
        Guild kept = Guild.after("own 0 1; kettle 0 1 9; set 0 0");
        kept.write(LONGEST);
        check.due("the sixty-first", kept.append('0'), FULL);
        check.due("the sixty are as they were", kept.run(), 5);
    }

    // ---- Promise 25

    @Sentence(in = "Promise 25: run", says = "Returns how many orders")
    static void runReturnsHowManyOrders(Check check) {
        Guild guild = Guild.after("own 0 1; kettle 0 1 9");
        check.runs(guild, "lid 0-", 1);
        check.runs(guild, "lid 0+;lid 0-", 2);
        check.runs(guild, "lid 0+;lid 0-;lid 0+;lid 0-;lid 0+;lid 0-;lid 0+;lid 0-", 8);
        check.due("characters behind it", guild.account(11), 0);
        check.runs(guild, "", -2000);
    }

    @Sentence(in = "Promise 25: run", says = "REFUSED for the reason 16.")
    static void runIsRefusedFor16(Check check) {
        Guild guild = Guild.after("own 0 1; kettle 0 1 9");
        check.refusesText(guild, "off 0", 16, 0, 10, 0);
        check.refusesText(guild, "lid 0-;lid 0-", 16, 1, 9, 0);
        check.refusesText(guild, "off 1", 16, 0);
        check.due("a fault is listed ahead of it", guild.run("off 0;x"), -2006);
        check.reasons("the fault leaves the reason", guild, 16, 0);
    }

    // ---- Promise 26

    @Sentence(in = "Promise 26: tell", says = "its number, \":\" and its member, \"p\" and its pitch, \"w\" and its water, \"t\" and its temperature")
    @Sentence(in = "Promise 26: tell", says = "Returns the length of the line")
    static void tellWritesNumberMemberPitchWaterTemperature(Check check) {
        Guild guild = Guild.after(TEN_KETTLES + "; off 8; off 9; lid 9+");
        check.tells(guild, 0, "0:0p1w0t20");
        check.tells(guild, 1, "1:0p1w9t20");
        check.tells(guild, 9, "9:3p12w0t20");
        guild.then("fill 9 20; heat 0 5; set 9 0; minute 3; off 9");
        check.tells(guild, 9, "9:3p12w20t95");
    }

    @Sentence(in = "Promise 26: tell", says = "\"_\" if its lid is off, \"#\" behind that if it is barred")
    static void tellWritesWhetherTheLidIsOffOrBarred(Check check) {
        Guild guild = Guild.after("own 0 1; kettle 0 1 9; kettle 0 1 9; lid 0-; appeal 1 1; appeal 2 1; set 1 5");
        check.tells(guild, 0, "0:0p1w9t20_");
        check.tells(guild, 1, "1:0p1w9t20_#@5");
        guild.then("lid 0+; minute 6");
        check.tells(guild, 0, "0:0p1w9t20");
        check.tells(guild, 1, "1:0p1w9t20_@5");
    }

    @Sentence(in = "Promise 26: tell", says = "\"@\" and its stove if it is on one, \"!\" if it whistles")
    @Sentence(in = "Promise 26: tell", says = "as in \"3:1p7w12t100@4!\".")
    static void tellWritesTheStoveAndWhetherItWhistles(Check check) {
        Guild guild = Guild.after("own 0 1; own 1 7; kettle 0 1 9; kettle 0 1 9; kettle 0 1 9; kettle 1 7 12");
        guild.then("heat 4 5; heat 0 5; set 3 4; set 0 0; minute 3");
        check.tells(guild, 0, "0:0p1w9t95@0");
        guild.minute(1);
        check.tells(guild, 0, "0:0p1w9t100@0!");
        check.tells(guild, 3, "3:1p7w12t100@4!");
        guild.lid(3, 0);
        check.tells(guild, 3, "3:1p7w12t100_@4");
        guild.then("lid 3+; heat 4 0");
        check.tells(guild, 3, "3:1p7w12t100@4");
        guild.off(3);
        check.tells(guild, 3, "3:1p7w12t100");
    }

    @Sentence(in = "Promise 26: tell", says = "and \"x\" and the minutes if it is banned")
    static void tellWritesTheBan(Check check) {
        Guild guild = Guild.after("own 0 1; kettle 0 1 0; heat 0 5; set 0 0; minute 5");
        for (int ban = 6; ban >= 1; ban--) {
            check.tells(guild, 0, "0:0p1w0t" + (65 + 5 * ban) + "x" + ban);
            guild.minute(1);
        }
        check.tells(guild, 0, "0:0p1w0t65");
        Guild barred = Guild.after("own 0 1; kettle 0 1 0; heat 0 5; set 0 0; minute 5; appeal 1 0; appeal 2 0");
        check.tells(barred, 0, "0:0p1w0t95_#x6");
    }

    @Sentence(in = "Promise 26: tell", says = "Writes a kettle, in place of the line before")
    static void tellWritesInPlaceOfTheLineBefore(Check check) {
        Guild guild = Guild.after("own 0 1; own 3 12; kettle 0 1 9; kettle 3 12 20");
        check.tells(guild, 1, "1:3p12w20t20");
        check.tells(guild, 0, "0:0p1w9t20");
        check.tells(guild, 1, "1:3p12w20t20");
    }

    @Sentence(in = "Promise 26: tell", says = "NONE if there is no such kettle.")
    static void tellWithoutSuchAKettle(Check check) {
        Guild guild = Guild.after("own 0 1; kettle 0 1 9; kettle 0 1 8");
        check.tells(guild, 1, "1:0p1w8t20");
        check.each("tell(?)", NONE, guild::tell, Check.outside(0, 1));
        check.due("the line stays", guild.line(), "1:0p1w8t20");
    }

    // ---- Promise 27

    @Sentence(in = "Promise 27: tellStoves", says = "for each its heat, and \"(\", its kettle and \")\" if there is one; as in \"03(1)005(0)0\".")
    @Sentence(in = "Promise 27: tellStoves", says = "Returns the length of the line.")
    static void tellStovesWritesHeatsAndKettles(Check check) {
        Guild guild = Guild.after("own 0 1; own 0 2; kettle 0 1 9; kettle 0 2 9; heat 1 3; heat 4 5; set 1 1; set 0 4");
        check.tellsStoves(guild, "03(1)005(0)0");
        guild.then("off 0; off 1; set 0 0; set 1 5");
        check.tellsStoves(guild, "0(0)30050(1)");
        guild.off(0);
        check.tellsStoves(guild, "030050(1)");
        guild.off(1);
        check.tellsStoves(guild, "030050");
        check.tellsStoves(Guild.after(TEN_KETTLES + "; heat 0 1; heat 5 5"), "1(8)00005(9)");
        check.tellsStoves(new Guild(), "000000");
        check.tellsStoves(Guild.whistling(1, 2, 3, 4, 5, 6), "5(0)5(1)5(2)5(3)5(4)5(5)");
    }

    @Sentence(in = "Promise 27: tellStoves", says = "Writes the stoves, in place of the line before")
    static void tellStovesWritesInPlaceOfTheLineBefore(Check check) {
        Guild guild = Guild.after("own 0 1; kettle 0 1 9");
        check.tells(guild, 0, "0:0p1w9t20");
        check.tellsStoves(guild, "000000");
        check.tells(guild, 0, "0:0p1w9t20");
    }

    // ---- Promise 28

    @Sentence(in = "Promise 28: character", says = "Returns a character of the line, which is empty at first.")
    static void characterOfALineThatIsEmptyAtFirst(Check check) {
        Guild guild = Guild.after("own 0 1; kettle 0 1 9");
        check.each("character(?) at first", NONE, guild::character, -1, 0, 1, Integer.MIN_VALUE, Integer.MAX_VALUE);
        guild.write("own");
        check.due("character(0) behind append", guild.character(0), NONE);
        guild.tell(5);
        check.due("character(0) behind a code", guild.character(0), NONE);
        guild.tell(0);
        check.due("character(0) behind tell", guild.character(0), '0');
    }

    @Sentence(in = "Promise 28: character", says = "`index`: the index, from 0")
    @Sentence(in = "Promise 28: character", says = "Returns the code of the character; NONE if there is none.")
    static void characterFrom0ToTheEnd(Check check) {
        Guild guild = Guild.after("own 0 1; kettle 0 1 9");
        String line = "0:0p1w9t20";
        check.due("tell(0)", guild.tell(0), line.length());
        for (int index = 0; index < line.length(); index++) {
            check.due("character(" + index + ")", guild.character(index), line.charAt(index));
        }
        check.each("character(?)", NONE, guild::character, Check.outside(0, line.length() - 1));
        guild.tellStoves();
        check.due("the last of a shorter line", guild.character(5), '0');
        check.each("character(?) of a shorter line", NONE, guild::character, 6, 7, 8, 9, 10);
    }
}
