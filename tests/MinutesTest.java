/** Promises 13 to 23: minutes, harmonies, orders of members and kettles. */
public final class MinutesTest {
    private static final int NONE = KettleGuild.NONE;
    private static final int BAD = KettleGuild.BAD;
    private static final int NOTHING = KettleGuild.NOTHING;
    private static final int[] FAR = {Integer.MIN_VALUE, -1000000, -1, 1000000, Integer.MAX_VALUE};
    private static final Check CHECK = new Check();

    public static void main(String[] args) {
        promise13();
        promise13Temperatures();
        promise13Dry();
        promise13Bans();
        promise13Harmonies();
        promise14();
        promise15And16();
        promise15To16AllDifferences();
        promise17And18();
        promise19();
        promise20();
        promise21();
        promise22();
        promise23();
        CHECK.end("MinutesTest");
    }

    private static void promise13() {
        KettleGuild guild = new KettleGuild();
        for (int far : FAR) {
            CHECK.due("minute(" + far + ")", guild.minute(far), BAD);
        }
        CHECK.due("minute(0)", guild.minute(0), BAD);
        CHECK.due("minute(10)", guild.minute(10), BAD);
        CHECK.due("no minute has gone", guild.account(5), 0);
        CHECK.due("minute(9)", guild.minute(9), 0);
        CHECK.due("minute(1)", guild.minute(1), 0);
        CHECK.due("minutes", guild.account(5), 10);
    }

    private static void promise13Temperatures() {
        for (int heat = 0; heat <= 5; heat++) {
            KettleGuild guild = Check.guild("own 0 1;kettle 0 1 20;set 0 2");
            if (heat > 0) {
                guild.heat(2, heat);
            }
            for (int minutes = 1; minutes <= 18; minutes++) {
                guild.minute(1);
                CHECK.due("warm by " + heat, guild.kettleOf(0, 3), Math.min(100, 20 + 5 * heat * minutes));
            }
            int before = guild.kettleOf(0, 3);
            guild.off(0);
            for (int minutes = 1; minutes <= 17; minutes++) {
                guild.minute(1);
                CHECK.due("colder again", guild.kettleOf(0, 3), Math.max(20, before - 5 * minutes));
            }
        }
        KettleGuild hot = Check.guild("own 0 1;kettle 0 1 20;heat 0 5;set 0 0", "minute 4;heat 0 0;minute 9");
        CHECK.due("stays as warm without heat", hot.kettleOf(0, 3), 100);
        CHECK.due("loses none without heat", hot.kettleOf(0, 2), 20);
        hot.heat(0, 1);
        hot.lid(0, 0);
        hot.minute(2);
        CHECK.due("loses water without lid", hot.kettleOf(0, 2), 18);
        CHECK.due("water boiled away", hot.account(8), 2);
    }

    private static void promise13Dry() {
        KettleGuild guild = Check.guild("own 1 1;own 2 2;kettle 1 1 2;kettle 2 2 0", "heat 0 5;heat 1 5;set 0 0;set 1 1");
        CHECK.due("none boils in the first minutes", guild.minute(4), 0);
        CHECK.due("the one without water", guild.minute(1), 1);
        CHECK.tells(guild, 1, "1:2p2w0t95x6");
        CHECK.tells(guild, 0, "0:1p1w1t100@0!");
        CHECK.due("water boiled away", guild.account(8), 1);
        CHECK.due("points of 2", guild.memberOf(2, 0), -2);
        CHECK.due("the last water", guild.minute(1), 1);
        CHECK.tells(guild, 0, "0:1p1w0t95x6");
        CHECK.tells(guild, 1, "1:2p2w0t90x5");
        CHECK.due("points of 1", guild.memberOf(1, 0), -2);
        CHECK.due("water boiled away", guild.account(8), 2);
        CHECK.due("kettles boiled dry", guild.account(9), 2);
        CHECK.due("points of all", guild.account(10), -4);
        KettleGuild both = Check.guild("own 1 1;own 2 2;kettle 1 1 3;kettle 2 2 0", "heat 0 5;heat 1 5;set 0 0;set 1 1");
        CHECK.due("both in nine minutes", both.minute(9), 2);
    }

    private static void promise13Bans() {
        KettleGuild guild = Check.guild("own 1 1;kettle 1 1 1;heat 0 5;set 0 0;minute 5");
        for (int ban = 6; ban >= 0; ban--) {
            CHECK.due("ban", guild.kettleOf(0, 8), ban);
            guild.minute(1);
        }
        CHECK.due("ban", guild.kettleOf(0, 8), 0);
        CHECK.due("colder by 5 in each minute of the ban and one more", guild.kettleOf(0, 3), 60);
        guild.set(0, 0);
        guild.minute(2);
        CHECK.due("hot anew", guild.minute(1), 1);
        CHECK.due("banned anew", guild.kettleOf(0, 8), 6);
        CHECK.due("twice dry", guild.memberOf(1, 4), 2);
        CHECK.due("points", guild.memberOf(1, 0), -4);
    }

    private static void promise13Harmonies() {
        KettleGuild guild = Check.guild("own 0 1;own 0 4;own 1 8;kettle 0 1 20;kettle 0 4 20", "kettle 1 8 20;heat 0 5;heat 1 5;heat 2 5;set 0 0", "set 1 1;set 2 2");
        guild.minute(5);
        duePoints("no harmony yet", guild, 0, 0, 0, 0);
        guild.minute(1);
        duePoints("3, 7 and 4 sound well, two of one member count twice", guild, 4, 2, 0, 0);
        guild.lid(1, 0);
        guild.minute(6);
        duePoints("without the lid it does not whistle", guild, 5, 3, 0, 0);
        guild.minute(5);
        guild.lid(1, 1);
        guild.appeal(2, 0);
        guild.appeal(3, 0);
        guild.minute(1);
        duePoints("4 sounds well", guild, 6, 4, 0, 0);
        CHECK.due("no longer barred", guild.account(4), 0);
        KettleGuild late = Check.guild("own 0 1;own 1 2;kettle 0 1 20;kettle 1 2 20", "minute 2;heat 0 5;heat 1 5;set 0 0;set 1 1");
        late.minute(4);
        duePoints("what whistles behind the minute, badly", late, -1, -1, 0, 0);
        KettleGuild dry = Check.guild("own 0 1;own 1 4;kettle 0 1 20;kettle 1 4 1", "minute 1;heat 0 5;heat 1 5;set 0 0;set 1 1");
        dry.minute(5);
        duePoints("what boils dry in the minute does not whistle", dry, 0, -2, 0, 0);
        KettleGuild long9 = Check.guild("own 0 1;own 1 4;kettle 0 1 20;kettle 1 4 20", "heat 0 5;heat 1 5;set 0 0;set 1 1;minute 4");
        long9.minute(9);
        duePoints("two harmonies in one call", long9, 2, 2, 0, 0);
    }

    private static void duePoints(String when, KettleGuild guild, int... points) {
        for (int member = 0; member < 4; member++) {
            CHECK.due(when + ": points of " + member, guild.memberOf(member, 0), points[member]);
        }
    }

    private static void promise14() {
        KettleGuild guild = whistlers(1, 4, 6, 11);
        CHECK.due("whistling", guild.whistling(), 15);
        guild.lid(0, 0);
        CHECK.due("without the first", guild.whistling(), 14);
        guild.off(2);
        CHECK.due("without the third", guild.whistling(), 10);
        guild.heat(3, 0);
        CHECK.due("without the fourth", guild.whistling(), 2);
        CHECK.due("none without kettles", new KettleGuild().whistling(), 0);
        KettleGuild empty = Check.guild("own 0 1;kettle 0 1 0;heat 0 5;set 0 0;minute 4");
        CHECK.due("none without water", empty.whistling(), 0);
        empty.fill(0, 1);
        CHECK.due("with water", empty.whistling(), 1);
    }

    /** Kettles of these pitches whistle, on the stoves from 0, with much water. */
    private static KettleGuild whistlers(int... pitches) {
        KettleGuild guild = new KettleGuild();
        for (int index = 0; index < pitches.length; index++) {
            guild.own((pitches[index] - 1) / 4, pitches[index]);
            int kettle = guild.kettle((pitches[index] - 1) / 4, pitches[index], 20);
            guild.heat(index, 5);
            guild.set(kettle, index);
        }
        guild.minute(4);
        return guild;
    }

    private static void promise15And16() {
        dueHarmony(0);
        dueHarmony(0, 5);
        dueHarmony(1, 1, 4);
        dueHarmony(1, 4, 1);
        dueHarmony(-1, 1, 2);
        dueHarmony(3, 1, 4, 8);
        dueHarmony(-3, 1, 2, 3);
        dueHarmony(2, 1, 4, 6, 11);
        dueHarmony(0, 1, 4, 6, 11, 12);
        dueHarmony(-3, 1, 2, 3, 4, 5, 6);
        KettleGuild guild = whistlers(1, 4, 8);
        guild.lid(1, 0);
        CHECK.due("harmony of whistles alone", guild.harmony(), 1);
        CHECK.due("harmonyAgain of whistles alone", guild.harmonyAgain(), 1);
    }

    private static void dueHarmony(int want, int... pitches) {
        KettleGuild guild = whistlers(pitches);
        CHECK.due("harmony", guild.harmony(), want);
        CHECK.due("harmonyAgain", guild.harmonyAgain(), want);
    }

    private static void promise15To16AllDifferences() {
        int[] sounds = {0, -1, -1, 1, 1, 1, -1, 1, 1, 1, -1, -1};
        for (int difference = 1; difference <= 11; difference++) {
            dueHarmony(sounds[difference], 1, 1 + difference);
            dueHarmony(sounds[difference], 12, 12 - difference);
        }
    }

    private static void promise17And18() {
        for (int heat = 1; heat <= 5; heat++) {
            KettleGuild guild = Check.guild("own 0 1;kettle 0 1 0;kettle 0 1 20;set 0 0");
            guild.heat(0, heat);
            int due = (80 + 5 * heat - 1) / (5 * heat);
            for (int left = due; left >= 0; left--) {
                CHECK.due("boilsIn at the heat " + heat, guild.boilsIn(0), left);
                CHECK.due("boilsInAgain at the heat " + heat, guild.boilsInAgain(0), left);
                guild.minute(1);
            }
            dueNever("boiled dry", guild, 0);
            dueNever("on no stove", guild, 1);
        }
        KettleGuild guild = Check.guild("own 0 1;kettle 0 1 20;set 0 0");
        dueNever("without heat", guild, 0);
        guild.heat(0, 5);
        guild.minute(4);
        guild.heat(0, 0);
        dueNever("hot, without heat", guild, 0);
        guild.off(0);
        dueNever("hot, on no stove", guild, 0);
        CHECK.due("boilsIn(1)", guild.boilsIn(1), NONE);
        CHECK.due("boilsInAgain(1)", guild.boilsInAgain(1), NONE);
        for (int far : FAR) {
            CHECK.due("boilsIn(" + far + ")", guild.boilsIn(far), NONE);
            CHECK.due("boilsInAgain(" + far + ")", guild.boilsInAgain(far), NONE);
        }
    }

    private static void dueNever(String when, KettleGuild guild, int kettle) {
        CHECK.due(when + ": boilsIn", guild.boilsIn(kettle), NOTHING);
        CHECK.due(when + ": boilsInAgain", guild.boilsInAgain(kettle), NOTHING);
        CHECK.due(when + ": dryIn", guild.dryIn(kettle), NOTHING);
    }

    private static void promise19() {
        for (int water = 0; water <= 20; water++) {
            KettleGuild guild = new KettleGuild();
            guild.own(0, 1);
            guild.kettle(0, 1, water);
            guild.set(0, 0);
            guild.heat(0, 3);
            int due = 6 + Math.max(1, water);
            for (int left = due; left >= 1; left--) {
                CHECK.due("dryIn with water " + water, guild.dryIn(0), left);
                CHECK.due("boils dry at last", guild.minute(1), left == 1 ? 1 : 0);
            }
            CHECK.due("dryIn of a kettle that has", guild.dryIn(0), NOTHING);
        }
        KettleGuild guild = Check.guild("own 0 1;kettle 0 1 1");
        CHECK.due("dryIn(1)", guild.dryIn(1), NONE);
        for (int far : FAR) {
            CHECK.due("dryIn(" + far + ")", guild.dryIn(far), NONE);
        }
    }

    private static void promise20() {
        CHECK.due("bestPitch of a new guild", new KettleGuild().bestPitch(), 1);
        CHECK.due("with 1", whistlers(1).bestPitch(), 4);
        CHECK.due("with 4, of several the lowest", whistlers(4).bestPitch(), 1);
        CHECK.due("with 12", whistlers(12).bestPitch(), 3);
        CHECK.due("with 1 and 4", whistlers(1, 4).bestPitch(), 8);
        CHECK.due("with 1, 4 and 8", whistlers(1, 4, 8).bestPitch(), 5);
        KettleGuild quiet = whistlers(1, 4);
        quiet.lid(0, 0);
        CHECK.due("one that does not whistle counts not, and may fit", quiet.bestPitch(), 1);
        quiet.lid(1, 0);
        CHECK.due("without whistles", quiet.bestPitch(), 1);
        for (int mask = 0; mask < 4096; mask += 7) {
            if (Integer.bitCount(mask) <= 6) {
                dueBestPitch(mask);
            }
        }
    }

    private static void dueBestPitch(int mask) {
        int[] pitches = new int[Integer.bitCount(mask)];
        int found = 0;
        for (int bit = 0; bit < 12; bit++) {
            if ((mask >> bit & 1) == 1) {
                pitches[found++] = bit + 1;
            }
        }
        int best = 0;
        int bestFit = -100;
        for (int pitch = 1; pitch <= 12; pitch++) {
            int fit = 0;
            for (int other : pitches) {
                String difference = " " + Math.abs(pitch - other) + " ";
                fit += " 3 4 5 7 8 9 ".contains(difference) ? 1 : " 1 2 6 10 11 ".contains(difference) ? -1 : -1000;
            }
            if (fit > bestFit) {
                best = pitch;
                bestFit = fit;
            }
        }
        CHECK.due("bestPitch of the pitches in " + mask, whistlers(pitches).bestPitch(), best);
    }

    private static void promise21() {
        KettleGuild guild = Check.guild("own 1 1;own 1 2;own 2 5;kettle 1 1 9;kettle 1 2 0", "kettle 2 5 9;kettle 1 1 9;appeal 2 0;appeal 3 2", "heat 0 5;heat 1 5;heat 2 5;set 0 0;set 1 1;set 2 2");
        guild.minute(4);
        dueMember("hot", guild, 1, 0, 2, 3, 1, 0, 0);
        dueMember("hot", guild, 2, 0, 1, 1, 1, 0, 1);
        guild.minute(2);
        dueMember("later", guild, 1, -1, 2, 3, 1, 1, 0);
        dueMember("later", guild, 2, 1, 1, 1, 1, 0, 1);
        dueMember("later", guild, 3, 0, 0, 0, 0, 0, 1);
        dueMember("later", guild, 0, 0, 0, 0, 0, 0, 0);
        for (int far : FAR) {
            CHECK.due("memberOf no member", guild.memberOf(far, 0), NONE);
            CHECK.due("memberOf no member and what", guild.memberOf(far, far), NONE);
            CHECK.due("memberOf no such what", guild.memberOf(0, far), BAD);
        }
        CHECK.due("memberOf(4, 0)", guild.memberOf(4, 0), NONE);
        CHECK.due("memberOf(0, 6)", guild.memberOf(0, 6), BAD);
    }

    private static void dueMember(String when, KettleGuild guild, int member, int... numbers) {
        for (int what = 0; what < numbers.length; what++) {
            CHECK.due(when + ": memberOf(" + member + ", " + what + ")", guild.memberOf(member, what), numbers[what]);
        }
    }

    private static void promise22() {
        KettleGuild guild = Check.guild("own 3 1;own 1 2;own 1 3;kettle 1 2 0;heat 0 5;set 0 0");
        dueRanks("by pitches, then the lowest", guild, 1, 3, 0, 2);
        guild.minute(5);
        dueRanks("by points first", guild, 3, 0, 2, 1);
        guild.own(2, 7);
        dueRanks("of several with as many pitches the lowest", guild, 2, 3, 0, 1);
        CHECK.due("ranked(4)", guild.ranked(4), NONE);
        for (int far : FAR) {
            CHECK.due("ranked(" + far + ")", guild.ranked(far), NONE);
        }
    }

    private static void dueRanks(String when, KettleGuild guild, int... members) {
        for (int place = 0; place < 4; place++) {
            CHECK.due(when + ": ranked(" + place + ")", guild.ranked(place), members[place]);
        }
    }

    private static void promise23() {
        KettleGuild guild = Check.guild("own 0 1;own 0 2;kettle 0 1 9;kettle 0 2 5;kettle 0 2 9", "kettle 0 1 5;kettle 0 2 0");
        dueHottest("by water, then the lowest", guild, 4, 1, 3, 0, 2);
        Check.run(guild, "heat 0 1;heat 1 2;set 2 0;set 0 1;minute 1");
        dueHottest("by temperature first", guild, 0, 2, 4, 1, 3);
        CHECK.due("hottest(5)", guild.hottest(5), NONE);
        for (int far : FAR) {
            CHECK.due("hottest(" + far + ")", guild.hottest(far), NONE);
        }
    }

    private static void dueHottest(String when, KettleGuild guild, int... kettles) {
        for (int place = 0; place < kettles.length; place++) {
            CHECK.due(when + ": hottest(" + place + ")", guild.hottest(place), kettles[place]);
        }
    }
}
