import java.util.ArrayList;
import java.util.List;
import java.util.regex.Matcher;
import java.util.regex.Pattern;

/**
 * The document once more, written in another way than the program, for RandomRunsTest: objects and lists, a copy of
 * the whole guild ahead of each call, texts read by a regular expression. Has no main, so .ci/run does not run it.
 */
final class GuildModel {
    static final int NONE = -1011;
    static final int BAD = -1012;
    static final int FULL = -1013;
    static final int REFUSED = -1014;
    static final int NOTHING = -1015;
    private static final Pattern TEXT = text();

    private static Pattern text() {
        String d = "[0-9]";
        String dd = "[0-9][0-9]?";
        String order = "(?:own " + d + " " + dd + "|kettle " + d + " " + dd + " " + dd + "|set " + d + " " + d + "|off " + d
            + "|heat " + d + " " + d + "|fill " + d + " " + dd + "|lid " + d + "[+-]|appeal " + d + " " + d + "|minute " + d + ")";
        return Pattern.compile(order + "(?:;" + order + ")*");
    }

    private static final class Kettle {
        int number;
        int member;
        int pitch;
        int water;
        int temperature = 20;
        boolean isLidOn = true;
        boolean isBarred;
        Integer stove;
        int ban;
        List<Integer> appeals = new ArrayList<>();

        Kettle copy() {
            Kettle copy = new Kettle();
            copy.number = number;
            copy.member = member;
            copy.pitch = pitch;
            copy.water = water;
            copy.temperature = temperature;
            copy.isLidOn = isLidOn;
            copy.isBarred = isBarred;
            copy.stove = stove;
            copy.ban = ban;
            copy.appeals = new ArrayList<>(appeals);
            return copy;
        }
    }

    private static final class Guild {
        Integer[] owners = new Integer[13];
        int[] points = new int[4];
        int[] dried = new int[4];
        int[] appealed = new int[4];
        int[] heats = new int[6];
        List<Kettle> kettles = new ArrayList<>();
        int minutes;
        int came;
        int away;

        Guild copy() {
            Guild copy = new Guild();
            copy.owners = owners.clone();
            copy.points = points.clone();
            copy.dried = dried.clone();
            copy.appealed = appealed.clone();
            copy.heats = heats.clone();
            for (Kettle kettle : kettles) {
                copy.kettles.add(kettle.copy());
            }
            copy.minutes = minutes;
            copy.came = came;
            copy.away = away;
            return copy;
        }
    }

    private Guild guild = new Guild();
    private Guild saved;
    private final List<Guild> past = new ArrayList<>();
    private String text = "";
    private String line = "";
    private List<int[]> reasons = new ArrayList<>();

    private int refused(int... pairs) {
        reasons = new ArrayList<>();
        for (int index = 0; index < pairs.length; index += 2) {
            reasons.add(new int[] {pairs[index], pairs[index + 1]});
        }
        return REFUSED;
    }

    private boolean has(int kettle) {
        return 0 <= kettle && kettle < guild.kettles.size();
    }

    private static boolean in(int number, int least, int most) {
        return least <= number && number <= most;
    }

    private boolean boils(Kettle kettle) {
        return kettle.stove != null && guild.heats[kettle.stove] > 0 && kettle.temperature == 100;
    }

    private boolean whistles(Kettle kettle) {
        return boils(kettle) && kettle.water > 0 && kettle.isLidOn;
    }

    private static int sound(int one, int other) {
        switch (Math.abs(one - other)) {
            case 3: case 4: case 5: case 7: case 8: case 9: return 1;
            case 1: case 2: case 6: case 10: case 11: return -1;
            default: return 0;
        }
    }

    private int onStoves() {
        return (int) guild.kettles.stream().filter(kettle -> kettle.stove != null).count();
    }

    private int lidsOn() {
        return (int) guild.kettles.stream().filter(kettle -> kettle.isLidOn).count();
    }

    private int pitchesOf(int member) {
        int count = 0;
        for (Integer owner : guild.owners) {
            count += owner != null && owner == member ? 1 : 0;
        }
        return count;
    }

    /** A change by the name of its call; the numbers are those of the call. */
    int change(String name, int... numbers) {
        Guild before = guild.copy();
        int answer = name.equals("run") ? run() : carryOut(name, numbers);
        if (answer >= 0) {
            past.add(before);
            if (past.size() > 8) {
                past.remove(0);
            }
        } else {
            guild = before;
        }
        return answer;
    }

    private int carryOut(String name, int... n) {
        switch (name) {
            case "own": return own(n[0], n[1]);
            case "kettle": return kettle(n[0], n[1], n[2]);
            case "set": return set(n[0], n[1]);
            case "off": return off(n[0]);
            case "heat": return heat(n[0], n[1]);
            case "fill": return fill(n[0], n[1]);
            case "lid": return lid(n[0], n[1]);
            case "appeal": return appeal(n[0], n[1]);
            case "minute": return minute(n[0]);
            default: throw new IllegalArgumentException(name);
        }
    }

    private int own(int member, int pitch) {
        if (!in(member, 0, 3)) return NONE;
        if (!in(pitch, 1, 12)) return BAD;
        if (guild.owners[pitch] != null) return refused(2, guild.owners[pitch]);
        if (pitchesOf(member) == 4) return refused(1, 4);
        guild.owners[pitch] = member;
        return pitchesOf(member);
    }

    private int kettle(int member, int pitch, int water) {
        if (!in(member, 0, 3)) return NONE;
        if (!in(pitch, 1, 12) || !in(water, 0, 20)) return BAD;
        Integer owner = guild.owners[pitch];
        if (owner == null || owner != member) return refused(3, owner == null ? -1 : owner);
        if (guild.kettles.size() == 10) return refused(1, 10);
        Kettle kettle = new Kettle();
        kettle.number = guild.kettles.size();
        kettle.member = member;
        kettle.pitch = pitch;
        kettle.water = water;
        guild.kettles.add(kettle);
        guild.came += water;
        return kettle.number;
    }

    private int fill(int number, int water) {
        if (!has(number)) return NONE;
        if (!in(water, 1, 20)) return BAD;
        Kettle kettle = guild.kettles.get(number);
        if (kettle.water + water > 20) return refused(11, kettle.water + water);
        guild.came += water;
        return kettle.water += water;
    }

    private int set(int number, int stove) {
        if (!has(number) || !in(stove, 0, 5)) return NONE;
        Kettle kettle = guild.kettles.get(number);
        if (kettle.stove != null) return refused(4, number, 5, kettle.stove);
        for (Kettle other : guild.kettles) {
            if (other.stove != null && other.stove == stove) return refused(4, number, 6, other.number);
        }
        for (Kettle other : guild.kettles) {
            if (other.stove != null && other.pitch == kettle.pitch) return refused(4, number, 7, other.stove);
        }
        if (kettle.ban > 0) return refused(4, number, 8, kettle.ban);
        kettle.stove = stove;
        return onStoves();
    }

    private int off(int number) {
        if (!has(number)) return NONE;
        Integer stove = guild.kettles.get(number).stove;
        if (stove == null) return refused(10, onStoves());
        guild.kettles.get(number).stove = null;
        return stove;
    }

    private int heat(int stove, int heat) {
        if (!in(stove, 0, 5)) return NONE;
        if (!in(heat, 0, 5)) return BAD;
        if (guild.heats[stove] == heat) return refused(9, heat);
        int before = guild.heats[stove];
        guild.heats[stove] = heat;
        return before;
    }

    private int lid(int number, int isOn) {
        if (!has(number)) return NONE;
        if (!in(isOn, 0, 1)) return BAD;
        Kettle kettle = guild.kettles.get(number);
        if (kettle.isLidOn == (isOn == 1)) return refused(9, isOn);
        if (isOn == 1 && kettle.isBarred) {
            int ahead = 1;
            while ((guild.minutes + ahead) % 6 != 0) ahead++;
            return refused(12, ahead);
        }
        kettle.isLidOn = isOn == 1;
        return lidsOn();
    }

    private int appeal(int member, int number) {
        if (!in(member, 0, 3) || !has(number)) return NONE;
        Kettle kettle = guild.kettles.get(number);
        if (kettle.member == member) return refused(13, member);
        if (!kettle.isLidOn) return refused(15, lidsOn());
        if (kettle.appeals.contains(member)) return refused(14, kettle.appeals.size());
        kettle.appeals.add(member);
        guild.appealed[member]++;
        if (kettle.appeals.size() < 2) return 0;
        kettle.appeals.clear();
        kettle.isLidOn = false;
        kettle.isBarred = true;
        return 1;
    }

    private int minute(int minutes) {
        if (!in(minutes, 1, 9)) return BAD;
        int dry = 0;
        for (int minute = 0; minute < minutes; minute++) {
            dry += oneMinute();
        }
        return dry;
    }

    private int oneMinute() {
        List<Kettle> boiling = new ArrayList<>();
        for (Kettle kettle : guild.kettles) {
            if (boils(kettle)) boiling.add(kettle);
        }
        for (Kettle kettle : boiling) {
            if (kettle.water > 0) {
                kettle.water--;
                guild.away++;
            }
        }
        List<Kettle> dry = new ArrayList<>();
        for (Kettle kettle : boiling) {
            if (kettle.water == 0) {
                dry.add(kettle);
                kettle.stove = null;
                guild.points[kettle.member] -= 2;
                guild.dried[kettle.member]++;
            }
        }
        for (Kettle kettle : guild.kettles) {
            int warmer = kettle.stove != null ? 5 * guild.heats[kettle.stove] : -5;
            kettle.temperature = Math.max(20, Math.min(100, kettle.temperature + warmer));
        }
        for (Kettle kettle : guild.kettles) {
            kettle.ban = dry.contains(kettle) ? 6 : Math.max(0, kettle.ban - 1);
        }
        guild.minutes++;
        if (guild.minutes % 6 == 0) {
            harmonise();
        }
        return dry.size();
    }

    private void harmonise() {
        for (Kettle one : guild.kettles) {
            for (Kettle other : guild.kettles) {
                if (one != other && whistles(one) && whistles(other)) {
                    guild.points[one.member] += sound(one.pitch, other.pitch);
                }
            }
        }
        for (Kettle kettle : guild.kettles) {
            kettle.isBarred = false;
        }
    }

    private int run() {
        String orders = text;
        text = "";
        if (!TEXT.matcher(orders).matches()) {
            return -2000 - faultOf(orders);
        }
        String[] parts = orders.split(";");
        for (int index = 0; index < parts.length; index++) {
            int answer = carryOutText(parts[index]);
            if (answer < 0) {
                List<int[]> behind = answer == REFUSED ? reasons : new ArrayList<>();
                refused(16, index);
                reasons.addAll(behind);
                return REFUSED;
            }
        }
        return parts.length;
    }

    /** The first sign behind which the text is no beginning of any text: one that more signs could still make right. */
    private static int faultOf(String text) {
        for (int length = 1; length <= text.length(); length++) {
            Matcher matcher = TEXT.matcher(text.substring(0, length));
            if (!matcher.matches() && !matcher.hitEnd()) {
                return length - 1;
            }
        }
        return text.length();
    }

    private int carryOutText(String order) {
        String[] words = order.split(" ");
        if (words[0].equals("lid")) {
            return lid(words[1].charAt(0) - '0', words[1].charAt(1) == '+' ? 1 : 0);
        }
        int[] numbers = new int[words.length - 1];
        for (int index = 0; index < numbers.length; index++) {
            numbers[index] = Integer.parseInt(words[index + 1]);
        }
        return carryOut(words[0], numbers);
    }

    int owner(int pitch) {
        if (!in(pitch, 1, 12)) return BAD;
        return guild.owners[pitch] == null ? NOTHING : guild.owners[pitch];
    }

    int kettleOf(int number, int what) {
        if (!has(number)) return NONE;
        Kettle kettle = guild.kettles.get(number);
        int[] numbers = {kettle.member, kettle.pitch, kettle.water, kettle.temperature, kettle.isLidOn ? 1 : 0,
            kettle.stove == null ? NOTHING : kettle.stove, boils(kettle) ? 1 : 0, whistles(kettle) ? 1 : 0, kettle.ban,
            kettle.appeals.size()};
        return in(what, 0, 9) ? numbers[what] : BAD;
    }

    int stoveOf(int stove, boolean isHeat) {
        if (!in(stove, 0, 5)) return NONE;
        if (isHeat) return guild.heats[stove];
        for (Kettle kettle : guild.kettles) {
            if (kettle.stove != null && kettle.stove == stove) return kettle.number;
        }
        return NOTHING;
    }

    int whistling() {
        int set = 0;
        for (Kettle kettle : guild.kettles) {
            set += whistles(kettle) ? 1 << kettle.number : 0;
        }
        return set;
    }

    int harmony() {
        int twice = 0;
        for (Kettle one : guild.kettles) {
            for (Kettle other : guild.kettles) {
                twice += one != other && whistles(one) && whistles(other) ? sound(one.pitch, other.pitch) : 0;
            }
        }
        return twice / 2;
    }

    int boilsIn(int number) {
        return whenFirst(number, false);
    }

    int dryIn(int number) {
        return whenFirst(number, true);
    }

    /** Lets minutes go by in a copy of the whole guild, and looks. */
    private int whenFirst(int number, boolean isDry) {
        if (!has(number)) return NONE;
        Guild kept = guild;
        guild = guild.copy();
        int answer = NOTHING;
        for (int minutes = 0; minutes <= 100 && answer == NOTHING; minutes++) {
            Kettle kettle = guild.kettles.get(number);
            if (!isDry && boils(kettle)) answer = minutes;
            boolean wasOn = kettle.stove != null;
            oneMinute();
            if (isDry && wasOn && kettle.stove == null) answer = minutes + 1;
        }
        guild = kept;
        return answer;
    }

    int bestPitch() {
        int best = 0;
        int most = 0;
        for (int pitch = 1; pitch <= 12; pitch++) {
            boolean isFree = true;
            int fit = 0;
            for (Kettle kettle : guild.kettles) {
                if (whistles(kettle)) {
                    isFree &= kettle.pitch != pitch;
                    fit += sound(pitch, kettle.pitch);
                }
            }
            if (isFree && (best == 0 || fit > most)) {
                best = pitch;
                most = fit;
            }
        }
        return best;
    }

    int memberOf(int member, int what) {
        if (!in(member, 0, 3)) return NONE;
        int kettles = 0;
        int whistling = 0;
        for (Kettle kettle : guild.kettles) {
            if (kettle.member == member) {
                kettles++;
                whistling += whistles(kettle) ? 1 : 0;
            }
        }
        int[] numbers = {guild.points[member], pitchesOf(member), kettles, whistling, guild.dried[member], guild.appealed[member]};
        return in(what, 0, 5) ? numbers[what] : BAD;
    }

    int ranked(int place) {
        List<Integer> members = new ArrayList<>(List.of(0, 1, 2, 3));
        members.sort((one, other) -> guild.points[one] != guild.points[other]
            ? guild.points[other] - guild.points[one] : pitchesOf(other) - pitchesOf(one));
        return in(place, 0, 3) ? members.get(place) : NONE;
    }

    int hottest(int place) {
        List<Kettle> kettles = new ArrayList<>(guild.kettles);
        kettles.sort((one, other) -> one.temperature != other.temperature
            ? other.temperature - one.temperature : one.water - other.water);
        return has(place) ? kettles.get(place).number : NONE;
    }

    int append(int code) {
        if (!in(code, 32, 126)) return BAD;
        if (text.length() == 60) return FULL;
        text += (char) code;
        return text.length();
    }

    int tell(int number) {
        if (!has(number)) return NONE;
        Kettle kettle = guild.kettles.get(number);
        line = number + ":" + kettle.member + "p" + kettle.pitch + "w" + kettle.water + "t" + kettle.temperature
            + (kettle.isLidOn ? "" : "_" + (kettle.isBarred ? "#" : "")) + (kettle.stove == null ? "" : "@" + kettle.stove)
            + (whistles(kettle) ? "!" : "") + (kettle.ban > 0 ? "x" + kettle.ban : "");
        return line.length();
    }

    int tellStoves() {
        line = "";
        for (int stove = 0; stove < 6; stove++) {
            line += guild.heats[stove] + (stoveOf(stove, false) == NOTHING ? "" : "(" + stoveOf(stove, false) + ")");
        }
        return line.length();
    }

    int character(int index) {
        return in(index, 0, line.length() - 1) ? line.charAt(index) : NONE;
    }

    int reason(int depth, boolean isDetail) {
        if (!in(depth, 0, 2)) return BAD;
        return depth < reasons.size() ? reasons.get(depth)[isDetail ? 1 : 0] : NOTHING;
    }

    int account(int what) {
        int boiling = 0;
        int barred = 0;
        int water = 0;
        for (Kettle kettle : guild.kettles) {
            boiling += boils(kettle) ? 1 : 0;
            barred += kettle.isBarred ? 1 : 0;
            water += kettle.water;
        }
        int[] p = guild.points;
        int[] d = guild.dried;
        int[] numbers = {guild.kettles.size(), onStoves(), boiling, lidsOn(), barred, guild.minutes, water, guild.came, guild.away,
            d[0] + d[1] + d[2] + d[3], p[0] + p[1] + p[2] + p[3], text.length(), past.size()};
        return in(what, 0, 12) ? numbers[what] : BAD;
    }

    double meanWater() {
        return guild.kettles.isEmpty() ? 0.0 : (double) account(6) / (double) guild.kettles.size();
    }

    float whistleShare() {
        return onStoves() == 0 ? 0.0f : (float) Integer.bitCount(whistling()) / (float) onStoves();
    }

    int undo() {
        if (past.isEmpty()) return NOTHING;
        guild = past.remove(past.size() - 1);
        return past.size();
    }

    int save() {
        saved = guild.copy();
        return saved.kettles.size();
    }

    int restore() {
        if (saved == null) return NOTHING;
        guild = saved.copy();
        past.clear();
        return guild.kettles.size();
    }
}
