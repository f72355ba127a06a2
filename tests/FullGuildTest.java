/** A guild with all that there is room for, in which each call of the face goes over the last member, kettle and stove. */
public final class FullGuildTest {
    private static final Check CHECK = new Check();

    public static void main(String[] args) {
        Check.mustEnd("FullGuildTest");
        Guild guild = full();
        counts(guild);
        changes(guild);
        CHECK.end("FullGuildTest");
    }

    /** Each member owns three pitches; the kettles 4 to 9 whistle on the stoves 0 to 5. */
    private static Guild full() {
        Guild guild = new Guild();
        for (int pitch = 1; pitch <= 12; pitch++) {
            CHECK.due("own", guild.own(pitch % 4, pitch), (pitch - 1) / 4 + 1);
        }
        for (int kettle = 0; kettle < 10; kettle++) {
            CHECK.due("kettle", guild.kettle((kettle + 1) % 4, kettle + 1, 20), kettle);
        }
        for (int stove = 0; stove < 6; stove++) {
            CHECK.due("heat", guild.heat(stove, 5), 0);
            CHECK.due("set", guild.set(4 + stove, stove), stove + 1);
        }
        CHECK.due("minute", guild.minute(4), 0);
        return guild;
    }

    private static void counts(Guild guild) {
        CHECK.due("whistling", guild.whistling(), 0x3f0);
        CHECK.due("harmony", guild.harmony(), -3);
        CHECK.due("harmonyAgain", guild.harmonyAgain(), -3);
        CHECK.due("bestPitch", guild.bestPitch(), 1);
        int[] accounts = {10, 6, 6, 10, 0, 4, 200, 200, 0, 0, 0, 0, 8};
        for (int what = 0; what < accounts.length; what++) {
            CHECK.due("account(" + what + ")", guild.account(what), accounts[what]);
        }
        CHECK.due("isBalanced", guild.isBalanced(), 1);
        CHECK.due("meanWater", guild.meanWater(), 20.0);
        CHECK.due("whistleShare", (double) guild.whistleShare(), 1.0);
        for (int place = 0; place < 10; place++) {
            CHECK.due("hottest", guild.hottest(place), (place + 4) % 10);
        }
        int[] kettles = {2, 3, 3, 2};
        int[] whistling = {1, 2, 2, 1};
        for (int member = 0; member < 4; member++) {
            CHECK.due("kettles of " + member, guild.memberOf(member, 2), kettles[member]);
            CHECK.due("whistling of " + member, guild.memberOf(member, 3), whistling[member]);
        }
        CHECK.tellsStoves(guild, "5(4)5(5)5(6)5(7)5(8)5(9)");
    }

    private static void changes(Guild guild) {
        CHECK.refused("kettle", guild, guild.kettle(0, 12, 1), 1, 10);
        CHECK.refused("set on a taken stove", guild, guild.set(3, 5), 4, 3, 6, 9);
        CHECK.due("off", guild.off(9), 5);
        CHECK.refused("off", guild, guild.off(9), 10, 5);
        CHECK.due("set", guild.set(3, 5), 6);
        CHECK.due("lid", guild.lid(9, 0), 9);
        CHECK.refused("lid", guild, guild.lid(9, 0), 9, 0);
        CHECK.refused("appeal", guild, guild.appeal(1, 9), 15, 9);
        CHECK.due("lid", guild.lid(9, 1), 10);
        CHECK.due("appeal", guild.appeal(3, 9), 0);
        CHECK.due("appeal", guild.appeal(0, 9), 1);
        CHECK.due("lids barred", guild.account(4), 1);
        CHECK.due("minute", guild.minute(2), 0);
        CHECK.due("lids barred", guild.account(4), 0);
        CHECK.due("points of all", guild.account(10), 2 * guild.harmony());
        CHECK.due("dryIn", guild.dryIn(8), 18);
        CHECK.due("minute", guild.minute(9) + guild.minute(9), 5);
        CHECK.due("undo", guild.undo(), 7);
        CHECK.due("save", guild.save(), 10);
        CHECK.due("restore", guild.restore(), 10);
        CHECK.due("isBalanced", guild.isBalanced(), 1);
    }
}
