/** Promises 24 to 28: texts, lines. */
public final class TextsTest {
    private static final int NONE = KettleGuild.NONE;
    private static final int BAD = KettleGuild.BAD;
    private static final int FULL = KettleGuild.FULL;
    private static final int[] FAR = {Integer.MIN_VALUE, -1000000, -1, 1000000, Integer.MAX_VALUE};
    private static final Check CHECK = new Check();

    public static void main(String[] args) {
        promise24();
        promise25Orders();
        promise25Faults();
        promise25LongTexts();
        promise25AllOrNone();
        promise25Reasons();
        promise25Ranges();
        promise26();
        promise27();
        promise28();
        CHECK.end("TextsTest");
    }

    private static void promise24() {
        KettleGuild guild = new KettleGuild();
        for (int far : FAR) {
            CHECK.due("append(" + far + ")", guild.append(far), BAD);
        }
        CHECK.due("append(31)", guild.append(31), BAD);
        CHECK.due("append(127)", guild.append(127), BAD);
        CHECK.due("append(65536 + 65)", guild.append(65536 + 65), BAD);
        for (int length = 1; length <= 60; length++) {
            CHECK.due("append", guild.append(length % 2 == 0 ? 32 : 126), length);
        }
        CHECK.due("append the sixty-first", guild.append(65), FULL);
        CHECK.due("append a bad sixty-first", guild.append(31), BAD);
        CHECK.due("characters of the text", guild.account(11), 60);
        guild.run();
        CHECK.due("run empties the text", guild.account(11), 0);
        CHECK.due("append behind run", guild.append(65), 1);
    }

    private static void promise25Orders() {
        KettleGuild guild = new KettleGuild();
        CHECK.runs(guild, "own 3 12", 1);
        CHECK.due("owner(12)", guild.owner(12), 3);
        CHECK.runs(guild, "own 0 01;own 0 4", 2);
        CHECK.due("owner(1)", guild.owner(1), 0);
        CHECK.runs(guild, "kettle 3 12 7;kettle 0 01 20;kettle 0 4 05", 3);
        CHECK.tells(guild, 0, "0:3p12w7t20");
        CHECK.tells(guild, 1, "1:0p1w20t20");
        CHECK.tells(guild, 2, "2:0p4w5t20");
        CHECK.runs(guild, "set 1 5;heat 5 3", 2);
        CHECK.tellsStoves(guild, "000003(1)");
        CHECK.runs(guild, "fill 0 13", 1);
        CHECK.due("water of 0", guild.kettleOf(0, 2), 20);
        CHECK.runs(guild, "lid 0-", 1);
        CHECK.due("lid of 0", guild.kettleOf(0, 4), 0);
        CHECK.runs(guild, "lid 0+", 1);
        CHECK.due("lid of 0", guild.kettleOf(0, 4), 1);
        CHECK.runs(guild, "appeal 1 0", 1);
        CHECK.due("appeals against 0", guild.kettleOf(0, 9), 1);
        CHECK.runs(guild, "minute 9", 1);
        CHECK.due("minutes", guild.account(5), 9);
        CHECK.runs(guild, "off 1", 1);
        CHECK.tellsStoves(guild, "000003");
        CHECK.due("each run is one change, and 8 are kept", guild.account(12), 8);
    }

    private static void promise25Faults() {
        fault("", 0);
        fault(";", 0);
        fault(" own 0 1", 0);
        fault("x", 0);
        fault("Own 0 1", 0);
        fault("o", 1);
        fault("ox", 1);
        fault("ow", 2);
        fault("own", 3);
        fault("own0", 3);
        fault("own ", 4);
        fault("own  0 1", 4);
        fault("own x", 4);
        fault("own 0", 5);
        fault("own 00 1", 5);
        fault("own 0 ", 6);
        fault("own 0 x", 6);
        fault("own 0 123", 8);
        fault("own 0 1 ", 7);
        fault("own 0 1x", 7);
        fault("own 0 1;", 8);
        fault("own 0 1;;", 8);
        fault("own 0 1; own 0 2", 8);
        fault("own 0 1;of", 10);
        fault("of 1", 2);
        fault("off", 3);
        fault("off 0 ", 5);
        fault("off 00", 5);
        fault("ket", 3);
        fault("kettle 0 7", 10);
        fault("kettle 0 7;", 10);
        fault("kettle 0 07", 11);
        fault("kettle 0 077", 11);
        fault("kettle 0 7 ", 11);
        fault("kettle 0 7 5 ", 12);
        fault("kettle 0 7 555", 13);
        fault("set 0", 5);
        fault("set 0 55", 7);
        fault("sot", 1);
        fault("heat 0 12", 8);
        fault("heal", 3);
        fault("fill 0 x", 7);
        fault("fall", 1);
        fault("lid 0", 5);
        fault("lid 0 +", 5);
        fault("lid 0*", 5);
        fault("lid 0++", 6);
        fault("lod", 1);
        fault("appeal 1", 8);
        fault("appeal 1 22", 10);
        fault("ape", 2);
        fault("minute", 6);
        fault("minute 12", 8);
        fault("minute -", 7);
        fault("minuet", 4);
        fault("minute 1.", 8);
        fault("own 0 1;own 0 2;own 0 3;x", 24);
    }

    private static void fault(String text, int position) {
        KettleGuild guild = new KettleGuild();
        guild.own(9, 9);
        CHECK.runs(guild, text, -2000 - position);
        CHECK.due("text behind \"" + text + "\"", guild.account(11), 0);
        CHECK.due("changes behind \"" + text + "\"", guild.account(12), 0);
        CHECK.due("owner(1) behind \"" + text + "\"", guild.owner(1), KettleGuild.NOTHING);
        CHECK.due("reasons behind \"" + text + "\"", guild.reason(0, false), KettleGuild.NOTHING);
    }

    private static void promise25LongTexts() {
        KettleGuild guild = Check.guild("own 0 1;kettle 0 1 1");
        CHECK.runs(guild, "lid 0-;lid 0+;lid 0-;lid 0+;lid 0-;lid 0+;lid 0-;lid 0+", 8);
        CHECK.runs(guild, "set 0 0;off 0;set 0 1;off 0;set 0 2;off 0;set 0 3;off 0", 8);
        CHECK.refused("ten orders", guild, Check.run(guild, "off 0;off 0;off 0;off 0;off 0;off 0;off 0;off 0;off 0;off 0"), 16, 0, 10, 0);
        CHECK.runs(guild, "off 0;off 0;off 0;off 0;off 0;off 0;off 0;off 0;off 0;off 0;", -2060);
        KettleGuild guild60 = new KettleGuild();
        CHECK.runs(guild60, "own 0 1;own 0 2;own 0 3;own 0 4;own 1 5;own 1 6;own 1 7;ow 1", -2058);
        CHECK.runs(guild60, "kettle 0 1 20;kettle 0 1 20;kettle 0 1 20;kettle 0 1 20;kett", -2060);
    }

    private static void promise25AllOrNone() {
        KettleGuild guild = Check.guild("own 0 1;kettle 0 1 9");
        guild.save();
        CHECK.refused("the third of three", guild, Check.run(guild, "own 1 2;minute 9;off 0"), 16, 2, 10, 0);
        CHECK.due("none was carried out: owner(2)", guild.owner(2), KettleGuild.NOTHING);
        CHECK.due("none was carried out: minutes", guild.account(5), 0);
        CHECK.due("no change more", guild.account(12), 1);
        CHECK.due("text is empty", guild.account(11), 0);
        CHECK.runs(guild, "set 0 0;heat 0 5;minute 4", 3);
        CHECK.due("one change more", guild.account(12), 2);
        CHECK.due("undo of all three", guild.undo(), 1);
        CHECK.due("on no stove", guild.account(1), 0);
        CHECK.due("minutes", guild.account(5), 0);
        for (int call = 0; call < 8; call++) {
            guild.own(1, 2 + call);
        }
        for (int change = guild.account(12); change < 8; change++) {
            guild.minute(1);
        }
        CHECK.due("full of changes", guild.account(12), 8);
        CHECK.due("a refused run", Check.run(guild, "minute 1;off 0"), KettleGuild.REFUSED);
        CHECK.due("still full", guild.account(12), 8);
        for (int left = 7; left >= 0; left--) {
            CHECK.due("undo behind a refused run", guild.undo(), left);
        }
    }

    private static void promise25Reasons() {
        KettleGuild guild = Check.guild("own 0 1;own 1 2;kettle 0 1 20;kettle 0 1 0;set 0 4");
        CHECK.refused("own", guild, Check.run(guild, "own 2 1"), 16, 0, 2, 0);
        CHECK.refused("kettle", guild, Check.run(guild, "minute 1;kettle 0 2 5"), 16, 1, 3, 1);
        CHECK.refused("set 5", guild, Check.run(guild, "set 0 5"), 16, 0, 4, 0, 5, 4);
        CHECK.refused("set 6", guild, Check.run(guild, "minute 1;minute 1;set 1 4"), 16, 2, 4, 1, 6, 0);
        CHECK.refused("set 7", guild, Check.run(guild, "set 1 5"), 16, 0, 4, 1, 7, 4);
        CHECK.refused("set 8", guild, Check.run(guild, "heat 0 5;off 0;set 1 0;minute 5;set 1 0"), 16, 4, 4, 1, 8, 6);
        CHECK.refused("off", guild, Check.run(guild, "off 1"), 16, 0, 10, 1);
        CHECK.refused("heat", guild, Check.run(guild, "heat 2 0"), 16, 0, 9, 0);
        CHECK.refused("fill", guild, Check.run(guild, "fill 0 20"), 16, 0, 11, 40);
        CHECK.refused("lid", guild, Check.run(guild, "lid 0+"), 16, 0, 9, 1);
        CHECK.refused("lid barred", guild, Check.run(guild, "minute 4;appeal 2 0;appeal 3 0;lid 0+"), 16, 3, 12, 2);
        CHECK.refused("appeal", guild, Check.run(guild, "appeal 0 0"), 16, 0, 13, 0);
        CHECK.refused("appeal of a lid off", guild, Check.run(guild, "lid 0-;appeal 1 0"), 16, 1, 15, 1);
        CHECK.refused("appeal again", guild, Check.run(guild, "appeal 1 0;appeal 1 0"), 16, 1, 14, 1);
        CHECK.runs(guild, "own", -2003);
        CHECK.refused("a fault leaves the reasons", guild, KettleGuild.REFUSED, 16, 1, 14, 1);
    }

    private static void promise25Ranges() {
        String[] texts = {"own 4 1", "own 0 0", "own 0 13", "own 0 99", "kettle 9 1 1", "kettle 0 0 1", "kettle 0 1 21",
            "set 5 0", "set 0 6", "off 5", "heat 6 1", "heat 0 6", "fill 5 1", "fill 0 0", "fill 0 21", "lid 5+", "lid 5-",
            "appeal 4 0", "appeal 1 5", "minute 0"};
        for (String text : texts) {
            KettleGuild guild = Check.guild("own 0 1;kettle 0 1 5");
            CHECK.refused("a reason ahead", guild, guild.own(1, 1), 2, 0);
            CHECK.refused("\"" + text + "\"", guild, Check.run(guild, text), 16, 0);
            CHECK.refused("a reason ahead", guild, guild.set(guild.kettle(0, 1, 1), 0) == 1 ? guild.set(0, 0) : 0, 4, 0, 6, 1);
            CHECK.refused("\"" + text + "\" behind another", guild, Check.run(guild, "minute 1;" + text), 16, 1);
        }
        KettleGuild guild = Check.guild("own 0 1");
        CHECK.refused("the first order that fails", guild, Check.run(guild, "own 1 1;own 9 1"), 16, 0, 2, 0);
        CHECK.runs(guild, "kettle 0 1 1;off 0", KettleGuild.REFUSED);
        CHECK.runs(guild, "kettle 0 1 1;set 0 0;off 0", 3);
    }

    private static void promise26() {
        KettleGuild guild = Check.guild("own 1 7;own 0 10;kettle 1 7 20;kettle 0 10 3;kettle 1 7 0", "heat 4 5;heat 3 1;set 0 4;set 1 3;minute 4");
        CHECK.tells(guild, 0, "0:1p7w20t100@4!");
        CHECK.tells(guild, 1, "1:0p10w3t40@3");
        CHECK.tells(guild, 2, "2:1p7w0t20");
        guild.lid(0, 0);
        guild.appeal(2, 1);
        guild.appeal(3, 1);
        CHECK.tells(guild, 0, "0:1p7w20t100_@4");
        CHECK.tells(guild, 1, "1:0p10w3t40_#@3");
        guild.off(1);
        CHECK.tells(guild, 1, "1:0p10w3t40_#");
        guild.off(0);
        Check.run(guild, "set 2 4;minute 5");
        CHECK.tells(guild, 2, "2:1p7w0t95x6");
        guild.lid(2, 0);
        CHECK.tells(guild, 2, "2:1p7w0t95_x6");
        guild.minute(5);
        CHECK.tells(guild, 2, "2:1p7w0t70_x1");
        guild.minute(1);
        CHECK.tells(guild, 2, "2:1p7w0t65_");
        CHECK.due("tell(3)", guild.tell(3), NONE);
        for (int far : FAR) {
            CHECK.due("tell(" + far + ")", guild.tell(far), NONE);
        }
        CHECK.due("a code leaves the line", Check.line(guild), "2:1p7w0t65_");
    }

    private static void promise27() {
        KettleGuild guild = Check.guild("own 0 1;own 0 2;kettle 0 1 9;kettle 0 2 9", "heat 1 3;heat 3 5;set 1 1;set 0 4");
        CHECK.tellsStoves(guild, "03(1)050(0)0");
        guild.off(1);
        CHECK.tellsStoves(guild, "03050(0)0");
        CHECK.tells(guild, 0, "0:0p1w9t20@4");
        CHECK.tellsStoves(guild, "03050(0)0");
        CHECK.tellsStoves(new KettleGuild(), "000000");
    }

    private static void promise28() {
        KettleGuild guild = new KettleGuild();
        CHECK.due("character(0) of no line", guild.character(0), NONE);
        Check.run(guild, "own 0 1;kettle 0 1 9;heat 5 3");
        guild.tellStoves();
        CHECK.due("character(0)", guild.character(0), '0');
        CHECK.due("character(5)", guild.character(5), '3');
        CHECK.due("character(6)", guild.character(6), NONE);
        for (int far : FAR) {
            CHECK.due("character(" + far + ")", guild.character(far), NONE);
        }
        guild.undo();
        CHECK.due("the line is not undone", guild.character(5), '3');
        guild.tell(0);
        CHECK.due("a code leaves the line", Check.line(guild), "000003");
    }
}
