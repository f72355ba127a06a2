/** What the tests of this project share: told answers, counted faults. Has no main, so .ci/run does not run it. */
final class Check {
    private static final int MOST_TOLD = 30;
    private int wrong;

    void due(String call, long got, long want) {
        if (got != want) {
            fault(call + " answered " + got + ", due is " + want);
        }
    }

    void due(String call, double got, double want) {
        if (Double.compare(got, want) != 0) {
            fault(call + " answered " + got + ", due is " + want);
        }
    }

    void due(String call, String got, String want) {
        if (!got.equals(want)) {
            fault(call + " answered \"" + got + "\", due is \"" + want + "\"");
        }
    }

    void fault(String text) {
        wrong++;
        if (wrong <= MOST_TOLD) {
            System.out.println(text);
        }
    }

    /** The latest call was refused; the chain holds the reasons with their details, from the front. */
    void refused(String call, KettleGuild guild, int got, int... chain) {
        due(call, got, KettleGuild.REFUSED);
        for (int depth = 0; depth < 3; depth++) {
            boolean isThere = 2 * depth < chain.length;
            due(call + ", reason(" + depth + ", false)", guild.reason(depth, false), isThere ? chain[2 * depth] : KettleGuild.NOTHING);
            due(call + ", reason(" + depth + ", true)", guild.reason(depth, true), isThere ? chain[2 * depth + 1] : KettleGuild.NOTHING);
        }
    }

    void runs(KettleGuild guild, String text, int want) {
        due("run of \"" + text + "\"", run(guild, text), want);
    }

    static int run(KettleGuild guild, String text) {
        for (int index = 0; index < text.length(); index++) {
            guild.append(text.charAt(index));
        }
        return guild.run();
    }

    /** A guild in which texts were run that must all go well. */
    static KettleGuild guild(String... texts) {
        KettleGuild guild = new KettleGuild();
        for (String text : texts) {
            if (run(guild, text) < 1) {
                throw new IllegalArgumentException("does not run: " + text);
            }
        }
        return guild;
    }

    static String line(KettleGuild guild) {
        StringBuilder line = new StringBuilder();
        for (int index = 0; guild.character(index) != KettleGuild.NONE; index++) {
            line.append((char) guild.character(index));
        }
        return line.toString();
    }

    void tells(KettleGuild guild, int kettle, String want) {
        due("tell(" + kettle + ")", guild.tell(kettle), want.length());
        due("line of tell(" + kettle + ")", line(guild), want);
    }

    void tellsStoves(KettleGuild guild, String want) {
        due("tellStoves()", guild.tellStoves(), want.length());
        due("line of tellStoves()", line(guild), want);
    }

    void end(String test) {
        System.out.println(test + ": " + (wrong == 0 ? "all answers are as due" : wrong + " answers are not as due"));
        if (wrong != 0) {
            System.exit(1);
        }
    }
}
