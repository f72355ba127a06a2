/**
 * A KettleGuild that counts its calls: what later calls answer than the 512th is free, so no test may ask for them.
 * Has no main, so .ci/run does not run it.
 */
final class Guild {
    static final int MOST_CALLS = 512;
    private final KettleGuild guild = new KettleGuild();
    private int calls;

    /** A new guild behind these orders, as in a text, but with a call each, which must all go well. */
    static Guild after(String orders) {
        Guild guild = new Guild();
        guild.then(orders);
        return guild;
    }

    /** Kettles of these pitches, numbered from 0, whistle in the minute 4 on the stoves from 0, each with water 20. */
    static Guild whistling(int... pitches) {
        Guild guild = new Guild();
        for (int kettle = 0; kettle < pitches.length; kettle++) {
            int member = (pitches[kettle] - 1) / 4;
            guild.then("own " + member + " " + pitches[kettle] + "; kettle " + member + " " + pitches[kettle] + " 20");
            guild.then("heat " + kettle + " 5; set " + kettle + " " + kettle);
        }
        guild.then("minute 4");
        return guild;
    }

    Guild then(String orders) {
        for (String order : orders.split("; ")) {
            if (call(order) < 0) {
                throw new IllegalStateException("this does not go well: " + order);
            }
        }
        return this;
    }

    /** One order as a call of its own. */
    int call(String order) {
        String[] words = order.split("[ +-]");
        int[] n = new int[4];
        for (int index = 1; index < words.length; index++) {
            n[index] = Integer.parseInt(words[index]);
        }
        switch (words[0]) {
            case "own": return own(n[1], n[2]);
            case "kettle": return kettle(n[1], n[2], n[3]);
            case "set": return set(n[1], n[2]);
            case "off": return off(n[1]);
            case "heat": return heat(n[1], n[2]);
            case "fill": return fill(n[1], n[2]);
            case "lid": return lid(n[1], order.endsWith("+") ? 1 : 0);
            case "appeal": return appeal(n[1], n[2]);
            case "minute": return minute(n[1]);
            default: throw new IllegalArgumentException(order);
        }
    }

    void write(String text) {
        for (int index = 0; index < text.length(); index++) {
            append(text.charAt(index));
        }
    }

    /** Appends the text and runs it. */
    int run(String text) {
        write(text);
        return run();
    }

    String line() {
        StringBuilder line = new StringBuilder();
        for (int code = character(0); code != KettleGuild.NONE; code = character(line.length())) {
            line.append((char) code);
        }
        return line.toString();
    }

    int calls() {
        return calls;
    }

    private KettleGuild next() {
        calls++;
        if (calls > MOST_CALLS) {
            throw new IllegalStateException("the test makes more than 512 calls on one object");
        }
        return guild;
    }

    int own(int member, int pitch) {
        return next().own(member, pitch);
    }

    int owner(int pitch) {
        return next().owner(pitch);
    }

    int kettle(int member, int pitch, int water) {
        return next().kettle(member, pitch, water);
    }

    int fill(int kettle, int water) {
        return next().fill(kettle, water);
    }

    int kettleOf(int kettle, int what) {
        return next().kettleOf(kettle, what);
    }

    int set(int kettle, int stove) {
        return next().set(kettle, stove);
    }

    int off(int kettle) {
        return next().off(kettle);
    }

    int heat(int stove, int heat) {
        return next().heat(stove, heat);
    }

    int lid(int kettle, int isOn) {
        return next().lid(kettle, isOn);
    }

    int appeal(int member, int kettle) {
        return next().appeal(member, kettle);
    }

    int stoveOf(int stove, boolean isHeat) {
        return next().stoveOf(stove, isHeat);
    }

    int minute(int minutes) {
        return next().minute(minutes);
    }

    int whistling() {
        return next().whistling();
    }

    int harmony() {
        return next().harmony();
    }

    int harmonyAgain() {
        return next().harmonyAgain();
    }

    int boilsIn(int kettle) {
        return next().boilsIn(kettle);
    }

    int boilsInAgain(int kettle) {
        return next().boilsInAgain(kettle);
    }

    int dryIn(int kettle) {
        return next().dryIn(kettle);
    }

    int bestPitch() {
        return next().bestPitch();
    }

    int memberOf(int member, int what) {
        return next().memberOf(member, what);
    }

    int ranked(int place) {
        return next().ranked(place);
    }

    int hottest(int place) {
        return next().hottest(place);
    }

    int append(int code) {
        return next().append(code);
    }

    int run() {
        return next().run();
    }

    int tell(int kettle) {
        return next().tell(kettle);
    }

    int tellStoves() {
        return next().tellStoves();
    }

    int character(int index) {
        return next().character(index);
    }

    int reason(int depth, boolean isDetail) {
        return next().reason(depth, isDetail);
    }

    int account(int what) {
        return next().account(what);
    }

    int isBalanced() {
        return next().isBalanced();
    }

    double meanWater() {
        return next().meanWater();
    }

    float whistleShare() {
        return next().whistleShare();
    }

    int undo() {
        return next().undo();
    }

    int save() {
        return next().save();
    }

    int restore() {
        return next().restore();
    }
}
