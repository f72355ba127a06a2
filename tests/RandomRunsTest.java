/** Long runs of calls, always the same ones, each answer against GuildModel. */
public final class RandomRunsTest {
    private static final int RUNS = 3000;
    /** The most calls of one step, a text that is written and run. */
    private static final int MOST_OF_A_STEP = 64;
    private static final int MOST_OF_A_QUESTION = 3;
    private static final int[] FAR = {Integer.MIN_VALUE, Integer.MAX_VALUE, -1, -2, 100, 1 << 16, 1 << 31 | 3};
    private static final String[] WORDS = {"own", "kettle", "set", "off", "heat", "fill", "lid", "appeal", "minute"};
    private static final Check CHECK = new Check();
    private static long seed = 20;

    private static Guild guild;
    private static GuildModel model;
    private static int run;

    public static void main(String[] args) {
        Check.mustEnd("RandomRunsTest");
        for (run = 0; run < RUNS; run++) {
            guild = new Guild();
            model = new GuildModel();
            while (guild.calls() + MOST_OF_A_STEP <= Guild.MOST_CALLS) {
                if (any(3) == 0) {
                    ask();
                } else {
                    change();
                }
            }
            while (guild.calls() + MOST_OF_A_QUESTION <= Guild.MOST_CALLS) {
                ask();
            }
        }
        CHECK.end("RandomRunsTest");
    }

    /** The same numbers in each run of the test. */
    private static int any(int bound) {
        seed = seed * 6364136223846793005L + 1442695040888963407L;
        return (int) ((seed >>> 33) % bound);
    }

    /** Mostly a number from least to most, at times one beside them or far from them. */
    private static int near(int least, int most) {
        int chance = any(60);
        if (chance == 0) {
            return FAR[any(FAR.length)];
        }
        if (chance == 1) {
            return any(2) == 0 ? least - 1 : most + 1;
        }
        return least + any(most - least + 1);
    }

    private static void due(String name, long got, long want) {
        CHECK.due("run " + run + ", call " + guild.calls() + ": " + name, got, want);
    }

    private static int someKettle() {
        int kettles = model.account(0);
        return near(0, Math.max(0, kettles - 1));
    }

    /** A pitch, mostly one that the member owns. */
    private static int somePitch(int member) {
        int start = any(12);
        for (int step = 0; step < 12 && any(10) > 0; step++) {
            int pitch = 1 + (start + step) % 12;
            if (model.owner(pitch) == member) {
                return pitch;
            }
        }
        return near(1, 12);
    }

    private static void change() {
        int member = near(0, 3);
        int kettle = someKettle();
        int stove = near(0, 5);
        switch (any(22)) {
            case 0: changed("own", member, near(1, 12)); break;
            case 1: case 2: changed("kettle", member, somePitch(member), near(0, 20)); break;
            case 3: case 4: case 5: changed("set", kettle, stove); break;
            case 6: changed("off", kettle); break;
            case 7: case 8: changed("heat", stove, near(0, 5)); break;
            case 9: case 10: changed("fill", kettle, near(1, 20)); break;
            case 11: changed("lid", kettle, near(0, 1)); break;
            case 12: case 13: changed("appeal", member, kettle); break;
            case 14: case 15: case 16: changed("minute", near(1, any(4) == 0 ? 9 : 3)); break;
            case 17: runText(); break;
            case 18: due("undo", guild.undo(), model.undo()); break;
            case 19: if (any(4) == 0) due("save", guild.save(), model.save()); break;
            case 20: if (any(8) == 0) due("restore", guild.restore(), model.restore()); break;
            default: append(near(32, 126)); break;
        }
    }

    private static void changed(String name, int... numbers) {
        due(name + java.util.Arrays.toString(numbers), call(name, numbers), model.change(name, numbers));
    }

    private static int call(String name, int... n) {
        switch (name) {
            case "own": return guild.own(n[0], n[1]);
            case "kettle": return guild.kettle(n[0], n[1], n[2]);
            case "set": return guild.set(n[0], n[1]);
            case "off": return guild.off(n[0]);
            case "heat": return guild.heat(n[0], n[1]);
            case "fill": return guild.fill(n[0], n[1]);
            case "lid": return guild.lid(n[0], n[1]);
            case "appeal": return guild.appeal(n[0], n[1]);
            default: return guild.minute(n[0]);
        }
    }

    private static void append(int code) {
        due("append", guild.append(code), model.append(code));
    }

    private static void runText() {
        if (any(4) > 0 && model.account(11) > 0) {
            due("run of what is there", guild.run(), model.change("run"));
        }
        StringBuilder text = new StringBuilder();
        int orders = any(20) == 0 ? 0 : 1 + any(4);
        for (int index = 0; index < orders; index++) {
            text.append(index == 0 ? "" : ";").append(someOrder());
        }
        if (any(4) == 0 && text.length() > 0) {
            damage(text);
        }
        for (int index = 0; index < text.length(); index++) {
            append(text.charAt(index));
        }
        due("run of " + text, guild.run(), model.change("run"));
    }

    private static String someOrder() {
        int member = any(20) == 0 ? any(10) : any(4);
        int kettle = any(20) == 0 ? any(10) : any(Math.max(1, model.account(0)));
        String stove = " " + (any(20) == 0 ? any(10) : any(6));
        String word = WORDS[any(WORDS.length)];
        switch (word) {
            case "own": return word + " " + member + twoDigits(1 + any(12));
            case "kettle": return word + " " + member + twoDigits(Math.floorMod(somePitch(member), 100)) + twoDigits(any(21));
            case "set": return word + " " + kettle + stove;
            case "off": return word + " " + kettle;
            case "heat": return word + stove + " " + any(6);
            case "fill": return word + " " + kettle + twoDigits(any(12));
            case "lid": return word + " " + kettle + (any(2) == 0 ? "+" : "-");
            case "appeal": return word + " " + member + " " + kettle;
            default: return word + " " + any(10);
        }
    }

    private static String twoDigits(int number) {
        return " " + (number < 10 && any(3) == 0 ? "0" : "") + number;
    }

    private static void damage(StringBuilder text) {
        String signs = "; 0123456789+-ownketlsfhiapmu";
        int index = any(text.length());
        switch (any(4)) {
            case 0: text.setCharAt(index, signs.charAt(any(signs.length()))); break;
            case 1: text.deleteCharAt(index); break;
            case 2: text.insert(index, signs.charAt(any(signs.length()))); break;
            default: text.setLength(index); break;
        }
    }

    private static void ask() {
        int kettle = someKettle();
        switch (any(20)) {
            case 0: int pitch = near(1, 12); due("owner", guild.owner(pitch), model.owner(pitch)); break;
            case 1: case 2: askKettle(kettle, near(0, 9)); break;
            case 3: askStove(near(0, 5), any(2) == 0); break;
            case 4: due("whistling", guild.whistling(), model.whistling()); break;
            case 5: due("harmony", guild.harmony(), model.harmony()); break;
            case 6: due("harmonyAgain", guild.harmonyAgain(), model.harmony()); break;
            case 7: due("boilsIn", guild.boilsIn(kettle), model.boilsIn(kettle)); break;
            case 8: due("boilsInAgain", guild.boilsInAgain(kettle), model.boilsIn(kettle)); break;
            case 9: due("dryIn", guild.dryIn(kettle), model.dryIn(kettle)); break;
            case 10: due("bestPitch", guild.bestPitch(), model.bestPitch()); break;
            case 11: askMember(near(0, 3), near(0, 5)); break;
            case 12: int place = near(0, 3); due("ranked", guild.ranked(place), model.ranked(place)); break;
            case 13: due("hottest", guild.hottest(kettle), model.hottest(kettle)); break;
            case 14: due("tell", guild.tell(kettle), model.tell(kettle)); break;
            case 15: due("tellStoves", guild.tellStoves(), model.tellStoves()); break;
            case 16: int index = near(0, 20); due("character", guild.character(index), model.character(index)); break;
            case 17: askReason(near(0, 2), any(2) == 0); break;
            case 18: int what = near(0, 12); due("account " + what, guild.account(what), model.account(what)); break;
            default: askShares(); break;
        }
    }

    private static void askKettle(int kettle, int what) {
        due("kettleOf " + kettle + " " + what, guild.kettleOf(kettle, what), model.kettleOf(kettle, what));
    }

    private static void askStove(int stove, boolean isHeat) {
        due("stoveOf " + stove, guild.stoveOf(stove, isHeat), model.stoveOf(stove, isHeat));
    }

    private static void askMember(int member, int what) {
        due("memberOf " + member + " " + what, guild.memberOf(member, what), model.memberOf(member, what));
    }

    private static void askReason(int depth, boolean isDetail) {
        due("reason " + depth + " " + isDetail, guild.reason(depth, isDetail), model.reason(depth, isDetail));
    }

    private static void askShares() {
        due("isBalanced", guild.isBalanced(), 1);
        CHECK.due("meanWater", guild.meanWater(), model.meanWater());
        CHECK.due("whistleShare", (double) guild.whistleShare(), (double) model.whistleShare());
    }
}
