import java.util.function.IntUnaryOperator;

/** What the tests of this project share: told answers, counted faults. Has no main, so .ci/run does not run it. */
final class Check {
    /** Of one thing that is checked, so that each is told that has a fault. */
    private static final int MOST_TOLD = 5;
    /** Some hundred times what a test needs. */
    private static final int MOST_SECONDS = 300;
    private String about = "";
    private int made;
    private int told;
    private int wrong;

    /** Fails the test by itself if a call does not end, which would let it run for ever. */
    static void mustEnd(String test) {
        Thread watch = new Thread(() -> {
            try {
                Thread.sleep(MOST_SECONDS * 1000L);
            } catch (InterruptedException interrupted) {
                return;
            }
            System.out.println(test + ": a call has not ended within " + MOST_SECONDS + " seconds");
            Runtime.getRuntime().halt(1);
        });
        watch.setDaemon(true);
        watch.start();
    }

    /** What is checked from here on, told with each fault. */
    void about(String what) {
        about = what + ": ";
        made = 0;
        told = 0;
    }

    /** How many answers were looked at since it was told what they are about. */
    int made() {
        return made;
    }

    int wrong() {
        return wrong;
    }

    void due(String call, long got, long want) {
        made++;
        if (got != want) {
            fault(call + " answered " + got + ", due is " + want);
        }
    }

    void due(String call, double got, double want) {
        made++;
        if (Double.compare(got, want) != 0) {
            fault(call + " answered " + got + ", due is " + want);
        }
    }

    void due(String call, String got, String want) {
        made++;
        if (!got.equals(want)) {
            fault(call + " answered \"" + got + "\", due is \"" + want + "\"");
        }
    }

    void holds(String what, boolean isSo) {
        made++;
        if (!isSo) {
            fault("not so: " + what);
        }
    }

    void fault(String text) {
        wrong++;
        told++;
        if (told <= MOST_TOLD) {
            System.out.println(about + text);
        }
    }

    /** The same answer for each of the numbers; in the name of the call "?" stands for the number. */
    void each(String call, long want, IntUnaryOperator numbered, int... numbers) {
        for (int number : numbers) {
            due(call.replace("?", "" + number), numbered.applyAsInt(number), want);
        }
    }

    /** The numbers beside a range, far from it, and those that a narrower or an added number would wrap into it. */
    static int[] outside(int least, int most) {
        return new int[] {least - 1, most + 1, -1000, 1000, 256 + least, 256 + most, (1 << 16) + least, (1 << 16) + most,
            Integer.MIN_VALUE, Integer.MIN_VALUE + most, Integer.MAX_VALUE - most, Integer.MAX_VALUE};
    }

    /** The latest call was refused; the chain holds the reasons with their details, from the front. */
    void refused(String call, Guild guild, int got, int... chain) {
        due(call, got, KettleGuild.REFUSED);
        reasons(call, guild, chain);
    }

    void reasons(String call, Guild guild, int... chain) {
        for (int depth = 0; depth < 3; depth++) {
            boolean isThere = 2 * depth < chain.length;
            due(call + ", reason(" + depth + ", false)", guild.reason(depth, false), isThere ? chain[2 * depth] : KettleGuild.NOTHING);
            due(call + ", reason(" + depth + ", true)", guild.reason(depth, true), isThere ? chain[2 * depth + 1] : KettleGuild.NOTHING);
        }
    }

    void runs(Guild guild, String text, int want) {
        due("run of \"" + text + "\"", guild.run(text), want);
    }

    /** The text is refused in one of its orders; the chain holds the reasons with their details, from the front. */
    void refusesText(Guild guild, String text, int... chain) {
        refused("run of \"" + text + "\"", guild, guild.run(text), chain);
    }

    void tells(Guild guild, int kettle, String want) {
        due("tell(" + kettle + ")", guild.tell(kettle), want.length());
        due("line of tell(" + kettle + ")", guild.line(), want);
    }

    void tellsStoves(Guild guild, String want) {
        due("tellStoves()", guild.tellStoves(), want.length());
        due("line of tellStoves()", guild.line(), want);
    }

    /** The numbers that kettleOf tells of a kettle, from 0 on. */
    void kettle(String when, Guild guild, int kettle, int... numbers) {
        for (int what = 0; what < numbers.length; what++) {
            due(when + ", kettleOf(" + kettle + ", " + what + ")", guild.kettleOf(kettle, what), numbers[what]);
        }
    }

    /** The numbers that memberOf tells of a member, from 0 on. */
    void member(String when, Guild guild, int member, int... numbers) {
        for (int what = 0; what < numbers.length; what++) {
            due(when + ", memberOf(" + member + ", " + what + ")", guild.memberOf(member, what), numbers[what]);
        }
    }

    void points(String when, Guild guild, int... points) {
        for (int member = 0; member < points.length; member++) {
            due(when + ", memberOf(" + member + ", 0)", guild.memberOf(member, 0), points[member]);
        }
    }

    void end(String test) {
        System.out.println(test + ": " + (wrong == 0 ? "all answers are as due" : wrong + " answers are not as due"));
        if (wrong != 0) {
            System.exit(1);
        }
    }
}
