/** Promises 7 to 12: stoves, lids. */
public final class StovesTest {
    private static final int NONE = KettleGuild.NONE;
    private static final int BAD = KettleGuild.BAD;
    private static final int NOTHING = KettleGuild.NOTHING;
    private static final int[] FAR = {Integer.MIN_VALUE, -1000000, -1, 1000000, Integer.MAX_VALUE};
    private static final Check CHECK = new Check();

    public static void main(String[] args) {
        promise7();
        promise8();
        promise9();
        promise10();
        promise11();
        promise11Lids();
        promise12();
        CHECK.end("StovesTest");
    }

    private static void promise7() {
        KettleGuild guild = Check.guild("own 0 1;own 0 2;kettle 0 1 0;kettle 0 1 9;kettle 0 2 9");
        for (int far : FAR) {
            CHECK.due("set of no kettle", guild.set(far, 0), NONE);
            CHECK.due("set on no stove", guild.set(0, far), NONE);
        }
        CHECK.due("set(3, 0)", guild.set(3, 0), NONE);
        CHECK.due("set(0, 6)", guild.set(0, 6), NONE);
        CHECK.due("set(0, 5)", guild.set(0, 5), 1);
        CHECK.refused("set(0, 1)", guild, guild.set(0, 1), 4, 0, 5, 5);
        CHECK.refused("set(0, 5), 5 ahead of 6 and 7", guild, guild.set(0, 5), 4, 0, 5, 5);
        CHECK.refused("set(1, 5), 6 ahead of 7", guild, guild.set(1, 5), 4, 1, 6, 0);
        CHECK.refused("set(1, 0)", guild, guild.set(1, 0), 4, 1, 7, 5);
        CHECK.due("set(2, 0)", guild.set(2, 0), 2);
        guild.heat(5, 5);
        CHECK.due("the empty kettle boils dry", guild.minute(5), 1);
        CHECK.refused("set(0, 5)", guild, guild.set(0, 5), 4, 0, 8, 6);
        CHECK.refused("set(0, 0), 6 ahead of 8", guild, guild.set(0, 0), 4, 0, 6, 2);
        CHECK.due("set(1, 5)", guild.set(1, 5), 2);
        CHECK.refused("set(0, 4), 7 ahead of 8", guild, guild.set(0, 4), 4, 0, 7, 5);
        guild.off(1);
        guild.minute(5);
        CHECK.refused("set(0, 5) in the last minute of the ban", guild, guild.set(0, 5), 4, 0, 8, 1);
        guild.minute(1);
        CHECK.due("set(0, 5) behind the ban", guild.set(0, 5), 2);
    }

    private static void promise8() {
        KettleGuild guild = Check.guild("own 0 1;own 0 2;kettle 0 1 9;kettle 0 2 9;set 0 3;set 1 5");
        for (int far : FAR) {
            CHECK.due("off of no kettle", guild.off(far), NONE);
        }
        CHECK.due("off(2)", guild.off(2), NONE);
        CHECK.due("off(0)", guild.off(0), 3);
        CHECK.refused("off(0)", guild, guild.off(0), 10, 1);
        CHECK.due("off(1)", guild.off(1), 5);
        CHECK.refused("off(1)", guild, guild.off(1), 10, 0);
        CHECK.due("the stove is free", guild.stoveOf(3, false), NOTHING);
    }

    private static void promise9() {
        KettleGuild guild = new KettleGuild();
        for (int far : FAR) {
            CHECK.due("heat of no stove", guild.heat(far, 1), NONE);
            CHECK.due("heat of no stove and heat", guild.heat(far, far), NONE);
            CHECK.due("heat out of range", guild.heat(0, far), BAD);
        }
        CHECK.due("heat(6, 1)", guild.heat(6, 1), NONE);
        CHECK.due("heat(0, 6)", guild.heat(0, 6), BAD);
        CHECK.refused("heat(0, 0)", guild, guild.heat(0, 0), 9, 0);
        CHECK.due("heat(0, 5)", guild.heat(0, 5), 0);
        CHECK.refused("heat(0, 5)", guild, guild.heat(0, 5), 9, 5);
        CHECK.due("heat(0, 2)", guild.heat(0, 2), 5);
        CHECK.due("heat(5, 1)", guild.heat(5, 1), 0);
        CHECK.due("heat(0, 0)", guild.heat(0, 0), 2);
        CHECK.tellsStoves(guild, "000001");
    }

    private static void promise10() {
        KettleGuild guild = Check.guild("own 0 1;kettle 0 1 0;kettle 0 1 9;kettle 0 1 9");
        for (int far : FAR) {
            CHECK.due("lid of no kettle", guild.lid(far, 1), NONE);
            CHECK.due("lid of no kettle, neither", guild.lid(far, far), NONE);
            CHECK.due("lid, neither", guild.lid(0, far), BAD);
        }
        CHECK.due("lid(3, 0)", guild.lid(3, 0), NONE);
        CHECK.due("lid(0, 2)", guild.lid(0, 2), BAD);
        CHECK.refused("lid(0, 1)", guild, guild.lid(0, 1), 9, 1);
        CHECK.due("lid(0, 0)", guild.lid(0, 0), 2);
        CHECK.refused("lid(0, 0)", guild, guild.lid(0, 0), 9, 0);
        CHECK.due("lid(1, 0)", guild.lid(1, 0), 1);
        CHECK.due("lid(0, 1)", guild.lid(0, 1), 2);
        guild.minute(2);
        guild.appeal(1, 2);
        guild.appeal(2, 2);
        CHECK.refused("lid(2, 1), barred", guild, guild.lid(2, 1), 12, 4);
        CHECK.refused("lid(2, 0), barred", guild, guild.lid(2, 0), 9, 0);
        CHECK.due("lid(2, 2), barred", guild.lid(2, 2), BAD);
        guild.minute(3);
        CHECK.refused("lid(2, 1), ahead of the harmony", guild, guild.lid(2, 1), 12, 1);
        guild.minute(1);
        CHECK.due("a lid that is barred stays off", guild.kettleOf(2, 4), 0);
        CHECK.due("no lid is barred", guild.account(4), 0);
        CHECK.due("lid(2, 1) behind the harmony", guild.lid(2, 1), 2);
        guild.appeal(1, 2);
        guild.appeal(2, 2);
        CHECK.refused("lid(2, 1), as the next harmony is 6 ahead", guild, guild.lid(2, 1), 12, 6);
    }

    private static void promise11() {
        KettleGuild guild = Check.guild("own 0 1;kettle 0 1 0;kettle 0 1 9;kettle 0 1 9");
        for (int far : FAR) {
            CHECK.due("appeal of no member", guild.appeal(far, 0), NONE);
            CHECK.due("appeal against no kettle", guild.appeal(1, far), NONE);
        }
        CHECK.due("appeal(4, 0)", guild.appeal(4, 0), NONE);
        CHECK.due("appeal(1, 3)", guild.appeal(1, 3), NONE);
        CHECK.refused("appeal(0, 0)", guild, guild.appeal(0, 0), 13, 0);
        CHECK.due("appeal(1, 0)", guild.appeal(1, 0), 0);
        CHECK.refused("appeal(1, 0) again", guild, guild.appeal(1, 0), 14, 1);
        CHECK.due("the lid stays on", guild.kettleOf(0, 4), 1);
        guild.lid(0, 0);
        CHECK.refused("appeal(1, 0), 15 ahead of 14", guild, guild.appeal(1, 0), 15, 2);
        CHECK.refused("appeal(2, 0), the lid is off", guild, guild.appeal(2, 0), 15, 2);
        CHECK.refused("appeal(0, 0), 13 ahead of 15", guild, guild.appeal(0, 0), 13, 0);
        CHECK.due("appeals stay", guild.kettleOf(0, 9), 1);
        guild.lid(0, 1);
        CHECK.due("appeal(3, 0)", guild.appeal(3, 0), 1);
    }

    private static void promise11Lids() {
        KettleGuild guild = Check.guild("own 0 1;kettle 0 1 0;appeal 1 0;appeal 3 0");
        CHECK.tells(guild, 0, "0:0p1w0t20_#");
        CHECK.due("appeals are gone", guild.kettleOf(0, 9), 0);
        CHECK.due("lids barred", guild.account(4), 1);
        CHECK.refused("appeal(2, 0), barred", guild, guild.appeal(2, 0), 15, 0);
        guild.minute(6);
        guild.lid(0, 1);
        CHECK.due("appeal(1, 0) anew", guild.appeal(1, 0), 0);
        guild.minute(6);
        CHECK.due("a harmony leaves appeals", guild.kettleOf(0, 9), 1);
        CHECK.due("appeal(2, 0)", guild.appeal(2, 0), 1);
        CHECK.due("appeals made by 1", guild.memberOf(1, 5), 2);
        CHECK.due("appeals made by 2", guild.memberOf(2, 5), 1);
        CHECK.due("appeals made by 3", guild.memberOf(3, 5), 1);
        CHECK.due("appeals made by 0", guild.memberOf(0, 5), 0);
    }

    private static void promise12() {
        KettleGuild guild = Check.guild("own 0 1;kettle 0 1 0;kettle 0 1 0;set 1 5;heat 5 3;heat 0 4");
        CHECK.due("stoveOf(5, true)", guild.stoveOf(5, true), 3);
        CHECK.due("stoveOf(5, false)", guild.stoveOf(5, false), 1);
        CHECK.due("stoveOf(0, true)", guild.stoveOf(0, true), 4);
        CHECK.due("stoveOf(0, false)", guild.stoveOf(0, false), NOTHING);
        CHECK.due("stoveOf(6, true)", guild.stoveOf(6, true), NONE);
        CHECK.due("stoveOf(6, false)", guild.stoveOf(6, false), NONE);
        for (int far : FAR) {
            CHECK.due("stoveOf(" + far + ", true)", guild.stoveOf(far, true), NONE);
            CHECK.due("stoveOf(" + far + ", false)", guild.stoveOf(far, false), NONE);
        }
    }
}
