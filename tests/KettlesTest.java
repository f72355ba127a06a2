/** Promises 1 to 6: a new object, pitches, kettles. */
public final class KettlesTest {
    private static final int NONE = KettleGuild.NONE;
    private static final int BAD = KettleGuild.BAD;
    private static final int NOTHING = KettleGuild.NOTHING;
    private static final int[] FAR = {Integer.MIN_VALUE, -1000000, -1, 1000000, Integer.MAX_VALUE};
    private static final Check CHECK = new Check();

    public static void main(String[] args) {
        promise1();
        promise2();
        promise3();
        promise4();
        promise5();
        promise6();
        CHECK.end("KettlesTest");
    }

    private static void promise1() {
        KettleGuild guild = new KettleGuild();
        for (int what = 0; what <= 12; what++) {
            CHECK.due("new: account(" + what + ")", guild.account(what), 0);
        }
        for (int pitch = 1; pitch <= 12; pitch++) {
            CHECK.due("new: owner(" + pitch + ")", guild.owner(pitch), NOTHING);
        }
        for (int member = 0; member < 4; member++) {
            for (int what = 0; what <= 5; what++) {
                CHECK.due("new: memberOf(" + member + ", " + what + ")", guild.memberOf(member, what), 0);
            }
            CHECK.due("new: ranked(" + member + ")", guild.ranked(member), member);
        }
        for (int stove = 0; stove < 6; stove++) {
            CHECK.due("new: heat of " + stove, guild.stoveOf(stove, true), 0);
            CHECK.due("new: kettle of " + stove, guild.stoveOf(stove, false), NOTHING);
        }
        CHECK.due("new: kettleOf(0, 0)", guild.kettleOf(0, 0), NONE);
        CHECK.due("new: hottest(0)", guild.hottest(0), NONE);
        CHECK.due("new: character(0)", guild.character(0), NONE);
        CHECK.due("new: reason(0, false)", guild.reason(0, false), NOTHING);
        CHECK.due("new: undo()", guild.undo(), NOTHING);
        CHECK.due("new: restore()", guild.restore(), NOTHING);
        CHECK.due("new: isBalanced()", guild.isBalanced(), 1);
        CHECK.tellsStoves(guild, "000000");
        KettleGuild other = Check.guild("own 0 1;kettle 0 1 5");
        CHECK.due("objects share nothing", guild.account(0) * 10 + other.account(0), 1);
    }

    private static void promise2() {
        KettleGuild guild = new KettleGuild();
        for (int far : FAR) {
            CHECK.due("own of no member", guild.own(far, 1), NONE);
            CHECK.due("own of no member and pitch", guild.own(far, far), NONE);
            CHECK.due("own of no pitch", guild.own(0, far), BAD);
        }
        CHECK.due("own(4, 1)", guild.own(4, 1), NONE);
        CHECK.due("own(4, 0)", guild.own(4, 0), NONE);
        CHECK.due("own(0, 0)", guild.own(0, 0), BAD);
        CHECK.due("own(0, 13)", guild.own(0, 13), BAD);
        CHECK.due("own(3, 12)", guild.own(3, 12), 1);
        CHECK.due("own(3, 1)", guild.own(3, 1), 2);
        CHECK.due("own(0, 2)", guild.own(0, 2), 1);
        CHECK.refused("own(1, 2)", guild, guild.own(1, 2), 2, 0);
        CHECK.refused("own(3, 12), by whom it is owned", guild, guild.own(3, 12), 2, 3);
        CHECK.due("own(3, 5)", guild.own(3, 5), 3);
        CHECK.due("own(3, 6)", guild.own(3, 6), 4);
        CHECK.refused("own(3, 7)", guild, guild.own(3, 7), 1, 4);
        CHECK.refused("own(3, 2), owned ahead of 4", guild, guild.own(3, 2), 2, 0);
        CHECK.refused("own(3, 6), its own ahead of 4", guild, guild.own(3, 6), 2, 3);
        CHECK.due("own(3, 13) with 4", guild.own(3, 13), BAD);
        CHECK.due("memberOf(3, 1)", guild.memberOf(3, 1), 4);
        CHECK.due("codes are no changes", guild.account(12), 5);
    }

    private static void promise3() {
        KettleGuild guild = Check.guild("own 0 1;own 3 12");
        CHECK.due("owner(1)", guild.owner(1), 0);
        CHECK.due("owner(12)", guild.owner(12), 3);
        CHECK.due("owner(2)", guild.owner(2), NOTHING);
        CHECK.due("owner(0)", guild.owner(0), BAD);
        CHECK.due("owner(13)", guild.owner(13), BAD);
        for (int far : FAR) {
            CHECK.due("owner(" + far + ")", guild.owner(far), BAD);
        }
    }

    private static void promise4() {
        KettleGuild guild = Check.guild("own 0 1;own 3 12");
        for (int far : FAR) {
            CHECK.due("kettle of no member", guild.kettle(far, 1, 1), NONE);
            CHECK.due("kettle of no member at all", guild.kettle(far, far, far), NONE);
            CHECK.due("kettle of no pitch", guild.kettle(0, far, 1), BAD);
            CHECK.due("kettle of too much water", guild.kettle(0, 1, far), BAD);
        }
        CHECK.due("kettle(4, 1, 1)", guild.kettle(4, 1, 1), NONE);
        CHECK.due("kettle(0, 0, 1)", guild.kettle(0, 0, 1), BAD);
        CHECK.due("kettle(0, 13, 1)", guild.kettle(0, 13, 1), BAD);
        CHECK.due("kettle(0, 1, 21)", guild.kettle(0, 1, 21), BAD);
        CHECK.due("kettle(0, 2, 21), bad ahead of the reason", guild.kettle(0, 2, 21), BAD);
        CHECK.refused("kettle(0, 2, 1)", guild, guild.kettle(0, 2, 1), 3, -1);
        CHECK.refused("kettle(0, 12, 1)", guild, guild.kettle(0, 12, 1), 3, 3);
        CHECK.due("kettle(0, 1, 0)", guild.kettle(0, 1, 0), 0);
        CHECK.due("kettle(3, 12, 20)", guild.kettle(3, 12, 20), 1);
        CHECK.tells(guild, 0, "0:0p1w0t20");
        CHECK.tells(guild, 1, "1:3p12w20t20");
        for (int kettle = 2; kettle < 10; kettle++) {
            CHECK.due("kettle " + kettle, guild.kettle(0, 1, 1), kettle);
        }
        CHECK.refused("kettle the eleventh", guild, guild.kettle(0, 1, 1), 1, 10);
        CHECK.refused("kettle not owned ahead of 10", guild, guild.kettle(0, 12, 1), 3, 3);
        CHECK.due("water that came", guild.account(7), 28);
    }

    private static void promise5() {
        KettleGuild guild = Check.guild("own 0 1;kettle 0 1 5;kettle 0 1 20");
        for (int far : FAR) {
            CHECK.due("fill of no kettle", guild.fill(far, 1), NONE);
            CHECK.due("fill of no kettle and water", guild.fill(far, far), NONE);
            CHECK.due("fill of no such water", guild.fill(0, far), BAD);
        }
        CHECK.due("fill(2, 1)", guild.fill(2, 1), NONE);
        CHECK.due("fill(0, 0)", guild.fill(0, 0), BAD);
        CHECK.due("fill(0, 21)", guild.fill(0, 21), BAD);
        CHECK.due("fill(0, 1)", guild.fill(0, 1), 6);
        CHECK.refused("fill(0, 15)", guild, guild.fill(0, 15), 11, 21);
        CHECK.refused("fill(1, 20)", guild, guild.fill(1, 20), 11, 40);
        CHECK.due("fill(0, 14)", guild.fill(0, 14), 20);
        CHECK.refused("fill(0, 1)", guild, guild.fill(0, 1), 11, 21);
        CHECK.due("water that came", guild.account(7), 40);
        KettleGuild empty = Check.guild("own 0 1;kettle 0 1 0;heat 0 5;set 0 0;minute 3");
        CHECK.due("fill(0, 20)", empty.fill(0, 20), 20);
        CHECK.due("a filled kettle stays as warm", empty.kettleOf(0, 3), 95);
    }

    private static void promise6() {
        KettleGuild guild = Check.guild("own 1 7;own 2 11;kettle 2 11 3;kettle 1 7 0;heat 4 5;set 0 4", "appeal 0 0");
        int[] first = {2, 11, 3, 20, 1, 4, 0, 0, 0, 1};
        int[] second = {1, 7, 0, 20, 1, NOTHING, 0, 0, 0, 0};
        dueOf("at first", guild, 0, first);
        dueOf("at first", guild, 1, second);
        guild.minute(4);
        dueOf("hot", guild, 0, 2, 11, 3, 100, 1, 4, 1, 1, 0, 1);
        guild.lid(0, 0);
        dueOf("without lid", guild, 0, 2, 11, 3, 100, 0, 4, 1, 0, 0, 1);
        guild.lid(0, 1);
        guild.heat(4, 0);
        dueOf("without heat", guild, 0, 2, 11, 3, 100, 1, 4, 0, 0, 0, 1);
        guild.heat(4, 1);
        guild.minute(4);
        dueOf("dry", guild, 0, 2, 11, 0, 90, 1, NOTHING, 0, 0, 5, 1);
        guild.set(1, 3);
        guild.heat(3, 5);
        guild.minute(4);
        dueOf("hot without water", guild, 1, 1, 7, 0, 100, 1, 3, 1, 0, 0, 0);
        guild.appeal(0, 1);
        guild.appeal(3, 1);
        dueOf("barred", guild, 1, 1, 7, 0, 100, 0, 3, 1, 0, 0, 0);
        for (int far : FAR) {
            CHECK.due("kettleOf no kettle", guild.kettleOf(far, 0), NONE);
            CHECK.due("kettleOf no kettle and what", guild.kettleOf(far, far), NONE);
            CHECK.due("kettleOf no such what", guild.kettleOf(0, far), BAD);
        }
        CHECK.due("kettleOf(2, 0)", guild.kettleOf(2, 0), NONE);
        CHECK.due("kettleOf(0, 10)", guild.kettleOf(0, 10), BAD);
    }

    private static void dueOf(String when, KettleGuild guild, int kettle, int... numbers) {
        for (int what = 0; what < numbers.length; what++) {
            CHECK.due(when + ": kettleOf(" + kettle + ", " + what + ")", guild.kettleOf(kettle, what), numbers[what]);
        }
    }
}
