/** Promises 29 to 36: reasons, accounts, undo and the snapshot. */
public final class AccountsTest {
    private static final int BAD = KettleGuild.BAD;
    private static final int NOTHING = KettleGuild.NOTHING;
    private static final int[] FAR = {Integer.MIN_VALUE, -1000000, -1, 1000000, Integer.MAX_VALUE};
    private static final Check CHECK = new Check();

    public static void main(String[] args) {
        promise29();
        promise30();
        promise31();
        promise32();
        promise33();
        promise34();
        promise34AllChanges();
        promise34EachCall();
        promise35And36();
        promise35And36OtherKettles();
        CHECK.end("AccountsTest");
    }

    private static void promise29() {
        KettleGuild guild = new KettleGuild();
        for (int depth = 0; depth < 3; depth++) {
            CHECK.due("nothing was refused", guild.reason(depth, false), NOTHING);
            CHECK.due("nothing was refused", guild.reason(depth, true), NOTHING);
        }
        dueBadDepths(guild);
        Check.run(guild, "own 0 1;kettle 0 1 9;set 0 3");
        CHECK.refused("set in a text", guild, Check.run(guild, "set 0 3"), 16, 0, 4, 0, 5, 3);
        dueBadDepths(guild);
        guild.own(9, 9);
        guild.minute(0);
        guild.own(1, 2);
        guild.undo();
        guild.save();
        guild.own(1, 2);
        guild.restore();
        CHECK.refused("reasons stay", guild, KettleGuild.REFUSED, 16, 0, 4, 0, 5, 3);
        CHECK.refused("a later one is alone", guild, guild.heat(0, 0), 9, 0);
        CHECK.refused("a detail below 0", guild, guild.kettle(0, 2, 2), 3, -1);
    }

    private static void dueBadDepths(KettleGuild guild) {
        CHECK.due("reason(3, false)", guild.reason(3, false), BAD);
        CHECK.due("reason(3, true)", guild.reason(3, true), BAD);
        for (int far : FAR) {
            CHECK.due("reason(" + far + ", false)", guild.reason(far, false), BAD);
            CHECK.due("reason(" + far + ", true)", guild.reason(far, true), BAD);
        }
    }

    private static void promise30() {
        KettleGuild guild = Check.guild("own 0 1;own 1 4;kettle 0 1 9;kettle 1 4 0;kettle 0 1 4", "heat 0 5;heat 1 5;heat 2 5;set 0 0;set 1 1", "appeal 1 2;appeal 2 2;lid 0-");
        dueAccounts("at first", guild, 3, 2, 0, 1, 1, 0, 13, 13, 0, 0, 0, 0, 3);
        guild.minute(4);
        guild.append('x');
        dueAccounts("hot", guild, 3, 2, 2, 1, 1, 4, 13, 13, 0, 0, 0, 1, 4);
        guild.minute(3);
        dueAccounts("later", guild, 3, 1, 1, 1, 0, 7, 10, 13, 3, 1, -2, 1, 5);
        guild.fill(1, 20);
        dueAccounts("filled", guild, 3, 1, 1, 1, 0, 7, 30, 33, 3, 1, -2, 1, 6);
        CHECK.due("account(13)", guild.account(13), BAD);
        for (int far : FAR) {
            CHECK.due("account(" + far + ")", guild.account(far), BAD);
        }
    }

    private static void dueAccounts(String when, KettleGuild guild, int... numbers) {
        for (int what = 0; what < numbers.length; what++) {
            CHECK.due(when + ": account(" + what + ")", guild.account(what), numbers[what]);
        }
    }

    private static void promise31() {
        KettleGuild guild = Check.guild("own 0 1;own 1 4;own 2 6;kettle 0 1 9;kettle 1 4 3", "kettle 2 6 0;heat 0 5;heat 1 3;heat 2 4;set 0 0;set 1 1", "set 2 2");
        for (int minute = 0; minute < 20; minute++) {
            CHECK.due("isBalanced()", guild.isBalanced(), 1);
            guild.minute(1);
        }
        guild.fill(0, 5);
        CHECK.due("isBalanced() behind fill", guild.isBalanced(), 1);
        guild.undo();
        CHECK.due("isBalanced() behind undo", guild.isBalanced(), 1);
    }

    private static void promise32() {
        CHECK.due("meanWater() without kettles", new KettleGuild().meanWater(), 0.0);
        KettleGuild guild = Check.guild("own 0 1;kettle 0 1 9");
        CHECK.due("meanWater() of one", guild.meanWater(), 9.0);
        guild.kettle(0, 1, 0);
        CHECK.due("meanWater() of two", guild.meanWater(), 4.5);
        guild.kettle(0, 1, 1);
        CHECK.due("meanWater() of three", guild.meanWater(), 10.0 / 3.0);
    }

    private static void promise33() {
        CHECK.due("whistleShare() without kettles", (double) new KettleGuild().whistleShare(), 0.0);
        KettleGuild guild = Check.guild("own 0 1;own 1 4;own 2 6;kettle 0 1 9;kettle 1 4 9", "kettle 2 6 9;heat 0 5;heat 1 1");
        CHECK.due("whistleShare() without any on stoves", (double) guild.whistleShare(), 0.0);
        Check.run(guild, "set 0 0;set 1 1;set 2 2");
        CHECK.due("whistleShare() without whistles", (double) guild.whistleShare(), 0.0);
        guild.minute(4);
        CHECK.due("whistleShare() of three", (double) guild.whistleShare(), (double) (1.0f / 3.0f));
        guild.off(2);
        CHECK.due("whistleShare() of two", (double) guild.whistleShare(), 0.5);
        guild.off(1);
        CHECK.due("whistleShare() of one", (double) guild.whistleShare(), 1.0);
    }

    private static void promise34() {
        KettleGuild guild = new KettleGuild();
        CHECK.due("undo of nothing", guild.undo(), NOTHING);
        for (int minute = 1; minute <= 12; minute++) {
            guild.minute(1);
            CHECK.due("changes", guild.account(12), Math.min(8, minute));
            guild.minute(0);
            guild.heat(0, 0);
            guild.own(9, 1);
            CHECK.due("a code is no change", guild.account(12), Math.min(8, minute));
        }
        for (int left = 7; left >= 0; left--) {
            CHECK.due("undo", guild.undo(), left);
            CHECK.due("minutes", guild.account(5), 4 + left);
        }
        CHECK.due("undo of the ninth", guild.undo(), NOTHING);
        CHECK.due("minutes", guild.account(5), 4);
        guild.minute(2);
        CHECK.due("undo of a new one", guild.undo(), 0);
        CHECK.due("minutes", guild.account(5), 4);
    }

    private static void promise34AllChanges() {
        KettleGuild guild = Check.guild("own 0 1;own 1 4;kettle 0 1 9;kettle 1 4 1;kettle 0 1 4", "heat 0 5;heat 1 5;set 0 0;set 1 1;appeal 1 0;minute 4");
        String[] changes = {"own 2 5", "kettle 1 4 7", "set 2 3", "off 0", "heat 1 2", "fill 2 3", "lid 2-", "appeal 2 0",
            "minute 2", "minute 9", "own 3 9;lid 1-;minute 1"};
        if (guild.set(2, 3) == 3) {
            CHECK.fault("two kettles of one pitch were on stoves");
        }
        for (String change : changes) {
            String before = all(guild);
            int got = Check.run(guild, change);
            if (change.equals("set 2 3")) {
                CHECK.due(change, got, KettleGuild.REFUSED);
                continue;
            }
            CHECK.due(change, got, change.contains(";") ? 3 : 1);
            if (all(guild).equals(before)) {
                CHECK.fault(change + " makes nothing different");
            }
            guild.undo();
            CHECK.due("undo of " + change, all(guild), before);
        }
        String before = all(guild);
        guild.off(0);
        guild.set(2, 3);
        guild.undo();
        guild.undo();
        CHECK.due("undo of off and set", all(guild), before);
    }

    private static void promise34EachCall() {
        for (int call = 0; call < 9; call++) {
            KettleGuild guild = Check.guild("own 0 1;own 1 4;kettle 0 1 9;kettle 1 4 1;kettle 0 1 4", "heat 0 5;set 0 0;appeal 1 0;minute 4");
            String before = all(guild);
            holds(change(guild, call) >= 0, "the call " + call + " goes well");
            CHECK.due("changes behind the call " + call, guild.account(12), 3);
            holds(!all(guild).equals(before), "the call " + call + " makes something different");
            CHECK.due("undo of the call " + call, guild.undo(), 2);
            CHECK.due("undone call " + call, all(guild), before);
        }
    }

    private static int change(KettleGuild guild, int call) {
        switch (call) {
            case 0: return guild.own(2, 5);
            case 1: return guild.kettle(1, 4, 7);
            case 2: return guild.set(1, 3);
            case 3: return guild.off(0);
            case 4: return guild.heat(0, 2);
            case 5: return guild.fill(2, 3);
            case 6: return guild.lid(2, 0);
            case 7: return guild.appeal(2, 0);
            default: return guild.minute(2);
        }
    }

    private static void holds(boolean isSo, String what) {
        if (!isSo) {
            CHECK.fault("not so: " + what);
        }
    }

    /** All that changes can change, but for how many can be undone. */
    private static String all(KettleGuild guild) {
        StringBuilder all = new StringBuilder();
        for (int what = 0; what <= 10; what++) {
            all.append(guild.account(what)).append(' ');
        }
        for (int pitch = 1; pitch <= 12; pitch++) {
            all.append(guild.owner(pitch)).append(' ');
        }
        for (int member = 0; member < 4; member++) {
            for (int what = 0; what <= 5; what++) {
                all.append(guild.memberOf(member, what)).append(' ');
            }
        }
        for (int kettle = 0; kettle < 10; kettle++) {
            for (int what = 0; what <= 9; what++) {
                all.append(guild.kettleOf(kettle, what)).append(' ');
            }
            guild.tell(kettle);
            all.append(Check.line(guild)).append(' ');
        }
        guild.tellStoves();
        return all.append(Check.line(guild)).toString();
    }

    private static void promise35And36() {
        KettleGuild guild = new KettleGuild();
        CHECK.due("restore without a snapshot", guild.restore(), NOTHING);
        CHECK.due("save of a new guild", guild.save(), 0);
        Check.run(guild, "own 0 1;own 1 4;kettle 0 1 9;kettle 1 4 1;kettle 0 1 4");
        Check.run(guild, "heat 0 5;heat 1 5;set 0 0;set 1 1;appeal 1 0;minute 4");
        CHECK.due("save is no change", guild.account(12), 2);
        CHECK.due("save in place of the earlier", guild.save(), 3);
        CHECK.due("save leaves what can be undone", guild.account(12), 2);
        String saved = all(guild);
        Check.run(guild, "own 3 9;kettle 3 9 2;appeal 2 0;heat 2 3");
        Check.run(guild, "minute 5;lid 1-;fill 2 9;off 0;set 2 4");
        Check.run(guild, "ow");
        guild.append('o');
        guild.tellStoves();
        String line = Check.line(guild);
        guild.heat(3, 0);
        CHECK.due("restore", guild.restore(), 3);
        CHECK.due("the line stays", Check.line(guild), line);
        CHECK.due("the text stays", guild.account(11), 1);
        CHECK.refused("the reasons stay", guild, KettleGuild.REFUSED, 9, 0);
        CHECK.due("restored", all(guild), saved);
        CHECK.due("nothing can be undone", guild.account(12), 0);
        CHECK.due("undo behind restore", guild.undo(), NOTHING);
        guild.minute(9);
        CHECK.due("what changes behind restore can be undone", guild.undo(), 0);
        guild.minute(9);
        CHECK.due("restore again", guild.restore(), 3);
        CHECK.due("the snapshot stays", all(guild), saved);
        guild.minute(1);
        guild.save();
        guild.undo();
        CHECK.due("undo leaves the snapshot", guild.restore(), 3);
        CHECK.due("minutes of the snapshot", guild.account(5), 5);
    }

    private static void promise35And36OtherKettles() {
        KettleGuild guild = Check.guild("own 0 1;own 1 4", "kettle 1 4 3");
        guild.save();
        String saved = all(guild);
        guild.undo();
        guild.kettle(0, 1, 5);
        CHECK.tells(guild, 0, "0:0p1w5t20");
        guild.restore();
        CHECK.tells(guild, 0, "0:1p4w3t20");
        CHECK.due("restored", all(guild), saved);
    }
}
