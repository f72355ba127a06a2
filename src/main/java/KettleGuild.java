import java.util.Arrays;

/** A guild of whistling kettles. README.md tells how to use it, the document what it promises. */
public final class KettleGuild {
    public static final int NONE = -1011;
    public static final int BAD = -1012;
    public static final int FULL = -1013;
    public static final int REFUSED = -1014;
    public static final int NOTHING = -1015;

    private static final int MEMBERS = 4;
    private static final int PITCHES = 12;
    private static final int MOST_OWNED = 4;
    private static final int MOST_KETTLES = 10;
    private static final int MOST_WATER = 20;
    private static final int STOVES = 6;
    private static final int MOST_HEAT = 5;
    private static final int COLDEST = 20;
    private static final int HOTTEST = 100;
    private static final int DEGREES = 5;
    private static final int BAN_MINUTES = 6;
    private static final int DRY_POINTS = 2;
    private static final int HARMONY_MINUTES = 6;
    private static final int MOST_MINUTES = 9;
    private static final int FURTHEST_MINUTE = 100;
    private static final int APPEALS_NEEDED = 2;
    private static final int MOST_UNDONE = 8;
    private static final int MOST_REASONS = 3;
    private static final int MOST_CHARACTERS = 60;
    private static final int FIRST_CHARACTER = 32;
    private static final int LAST_CHARACTER = 126;
    private static final int FAULT_BASE = -2000;

    /** No member, no kettle, no stove: -1, for that is what reason 3 tells where none owns a pitch. */
    private static final int NO_ONE = -1;

    private static final int MEMBER_OR_GUILD_HAS_MOST = 1;
    private static final int PITCH_IS_OWNED = 2;
    private static final int PITCH_IS_NOT_OWNED = 3;
    private static final int CANNOT_BE_SET = 4;
    private static final int IS_ON_A_STOVE = 5;
    private static final int STOVE_HAS_A_KETTLE = 6;
    private static final int PITCH_IS_ON_A_STOVE = 7;
    private static final int IS_BANNED = 8;
    private static final int IS_SO_ALREADY = 9;
    private static final int IS_ON_NO_STOVE = 10;
    private static final int TOO_MUCH_WATER = 11;
    private static final int LID_IS_BARRED = 12;
    private static final int KETTLE_IS_OWN = 13;
    private static final int APPEALED_ALREADY = 14;
    private static final int LID_IS_OFF = 15;
    private static final int ORDER_FAILS = 16;

    private static final int OWN_ORDER = 0;
    private static final int KETTLE_ORDER = 1;
    private static final int SET_ORDER = 2;
    private static final int OFF_ORDER = 3;
    private static final int HEAT_ORDER = 4;
    private static final int FILL_ORDER = 5;
    private static final int LID_ORDER = 6;
    private static final int APPEAL_ORDER = 7;
    private static final int MINUTE_ORDER = 8;
    private static final int ORDER_KINDS = 9;

    /** In the form of an order: one digit, one or two digits, "+" or "-". */
    private static final char ONE_DIGIT = '#';
    private static final char TWO_DIGITS = '%';
    private static final char PLUS_OR_MINUS = '?';

    /** By the difference of two pitches: 1 if they sound well together, -1 if badly. */
    private static final int[] SOUNDS = {0, -1, -1, 1, 1, 1, -1, 1, 1, 1, -1, -1};

    private final State now = new State();
    private final State snapshot = new State();
    private final History history = new History();
    private final Reasons reasons = new Reasons();
    private final Orders orders = new Orders();
    private final StringBuilder line = new StringBuilder();
    private boolean isSaved;

    public KettleGuild() {
    }

    // ---- pitches, kettles

    public int own(int member, int pitch) {
        history.begin(now);
        return settle(takePitch(member, pitch));
    }

    public int owner(int pitch) {
        if (!isPitch(pitch)) {
            return BAD;
        }
        return orNothing(now.owners[pitch]);
    }

    public int kettle(int member, int pitch, int water) {
        history.begin(now);
        return settle(bringKettle(member, pitch, water));
    }

    public int fill(int kettle, int water) {
        history.begin(now);
        return settle(pourWater(kettle, water));
    }

    public int kettleOf(int kettle, int what) {
        if (!isKettle(kettle)) {
            return NONE;
        }
        switch (what) {
            case 0: return now.members[kettle];
            case 1: return now.pitches[kettle];
            case 2: return now.waters[kettle];
            case 3: return now.temperatures[kettle];
            case 4: return now.lids[kettle];
            case 5: return orNothing(now.stoves[kettle]);
            case 6: return now.boils(kettle) ? 1 : 0;
            case 7: return now.whistles(kettle) ? 1 : 0;
            case 8: return now.bans[kettle];
            case 9: return Integer.bitCount(now.appealers[kettle]);
            default: return BAD;
        }
    }

    // ---- stoves, lids

    public int set(int kettle, int stove) {
        history.begin(now);
        return settle(putOnStove(kettle, stove));
    }

    public int off(int kettle) {
        history.begin(now);
        return settle(takeOffStove(kettle));
    }

    public int heat(int stove, int heat) {
        history.begin(now);
        return settle(turnStove(stove, heat));
    }

    public int lid(int kettle, int isOn) {
        history.begin(now);
        return settle(moveLid(kettle, isOn));
    }

    public int appeal(int member, int kettle) {
        history.begin(now);
        return settle(makeAppeal(member, kettle));
    }

    public int stoveOf(int stove, boolean isHeat) {
        if (!isStove(stove)) {
            return NONE;
        }
        return isHeat ? now.heats[stove] : orNothing(now.kettleOn(stove));
    }

    // ---- minutes, harmonies

    public int minute(int minutes) {
        history.begin(now);
        return settle(passMinutes(minutes));
    }

    public int whistling() {
        return now.whistlers();
    }

    public int harmony() {
        int whistlers = now.whistlers();
        int sum = 0;
        for (int first = 0; first < now.kettles; first++) {
            for (int second = first + 1; second < now.kettles; second++) {
                if (isIn(whistlers, first) && isIn(whistlers, second)) {
                    sum += soundOf(now.pitches[first], now.pitches[second]);
                }
            }
        }
        return sum;
    }

    public int harmonyAgain() {
        int pitches = now.whistledPitches();
        int sum = 0;
        for (int difference = 1; difference < SOUNDS.length; difference++) {
            int standSoFar = Integer.bitCount(pitches & (pitches >> difference));
            sum += SOUNDS[difference] * standSoFar;
        }
        return sum;
    }

    public int boilsIn(int kettle) {
        if (!isKettle(kettle)) {
            return NONE;
        }
        int heat = now.heatUnder(kettle);
        int temperature = now.temperatures[kettle];
        for (int minutes = 0; minutes <= FURTHEST_MINUTE; minutes++) {
            if (heat > 0 && temperature == HOTTEST) {
                return minutes;
            }
            temperature = Math.min(HOTTEST, temperature + DEGREES * heat);
        }
        return NOTHING;
    }

    public int boilsInAgain(int kettle) {
        if (!isKettle(kettle)) {
            return NONE;
        }
        int warmth = DEGREES * now.heatUnder(kettle);
        if (warmth <= 0) {
            return NOTHING;
        }
        int lacking = HOTTEST - now.temperatures[kettle];
        return (lacking + warmth - 1) / warmth;
    }

    public int dryIn(int kettle) {
        int minutes = boilsIn(kettle);
        if (minutes < 0 || !isKettle(kettle)) {
            return minutes;
        }
        // A kettle without water needs a minute of boiling too.
        return minutes + Math.max(1, now.waters[kettle]);
    }

    public int bestPitch() {
        int whistled = now.whistledPitches();
        int best = NO_ONE;
        int bestFit = 0;
        for (int pitch = 1; pitch <= PITCHES; pitch++) {
            int fit = fitOf(pitch, whistled);
            if (!isIn(whistled, pitch) && (best == NO_ONE || fit > bestFit)) {
                best = pitch;
                bestFit = fit;
            }
        }
        return best;
    }

    public int memberOf(int member, int what) {
        if (!isMember(member)) {
            return NONE;
        }
        switch (what) {
            case 0: return now.points[member];
            case 1: return now.countPitchesOf(member);
            case 2: return now.countKettlesOf(member);
            case 3: return now.countWhistlersOf(member);
            case 4: return now.boiledDry[member];
            case 5: return now.appealsMade[member];
            default: return BAD;
        }
    }

    // ---- orders

    public int ranked(int place) {
        for (int member = 0; member < MEMBERS; member++) {
            if (countAheadOfMember(member) == place) {
                return member;
            }
        }
        return NONE;
    }

    public int hottest(int place) {
        for (int kettle = 0; kettle < now.kettles; kettle++) {
            if (countAheadOfKettle(kettle) == place) {
                return kettle;
            }
        }
        return NONE;
    }

    // ---- texts, lines

    public int append(int code) {
        if (code < FIRST_CHARACTER || code > LAST_CHARACTER) {
            return BAD;
        }
        return orders.add((char) code) ? orders.length : FULL;
    }

    public int run() {
        int fault = orders.read();
        orders.empty();
        if (fault != Orders.NO_FAULT) {
            return FAULT_BASE - fault;
        }
        history.begin(now);
        for (int order = 0; order < orders.count; order++) {
            int answer = carryOut(order);
            if (answer < 0) {
                history.takeBackBegun(now);
                return refuseOrder(order, answer);
            }
        }
        return settle(orders.count);
    }

    public int tell(int kettle) {
        if (!isKettle(kettle)) {
            return NONE;
        }
        line.setLength(0);
        line.append(kettle).append(':').append(now.members[kettle]);
        line.append('p').append(now.pitches[kettle]);
        line.append('w').append(now.waters[kettle]);
        line.append('t').append(now.temperatures[kettle]);
        tellSigns(kettle);
        return line.length();
    }

    public int tellStoves() {
        line.setLength(0);
        for (int stove = 0; stove < STOVES; stove++) {
            line.append(now.heats[stove]);
            int kettle = now.kettleOn(stove);
            if (kettle != NO_ONE) {
                line.append('(').append(kettle).append(')');
            }
        }
        return line.length();
    }

    public int character(int index) {
        return index >= 0 && index < line.length() ? line.charAt(index) : NONE;
    }

    // ---- reasons, accounts, undo and the snapshot

    public int reason(int depth, boolean isDetail) {
        if (depth < 0 || depth >= MOST_REASONS) {
            return BAD;
        }
        if (depth >= reasons.count) {
            return NOTHING;
        }
        return isDetail ? reasons.details[depth] : reasons.numbers[depth];
    }

    public int account(int what) {
        switch (what) {
            case 0: return now.kettles;
            case 1: return now.countOnStoves();
            case 2: return now.countBoiling();
            case 3: return now.countLidsOn();
            case 4: return now.countLidsBarred();
            case 5: return now.minutes;
            case 6: return now.sumWater();
            case 7: return now.waterCome;
            case 8: return now.waterGone;
            case 9: return sumOf(now.boiledDry);
            case 10: return sumOf(now.points);
            case 11: return orders.length;
            case 12: return history.count;
            default: return BAD;
        }
    }

    public int isBalanced() {
        boolean isWaterThere = now.waterCome == now.sumWater() + now.waterGone;
        boolean isSameHarmony = harmony() == harmonyAgain();
        return isWaterThere && isSameHarmony && isBoilingSame() && !now.hasPitchOnTwoStoves() ? 1 : 0;
    }

    public double meanWater() {
        return now.kettles == 0 ? 0.0 : (double) now.sumWater() / (double) now.kettles;
    }

    public float whistleShare() {
        int onStoves = now.countOnStoves();
        return onStoves == 0 ? 0.0f : (float) Integer.bitCount(now.whistlers()) / (float) onStoves;
    }

    public int undo() {
        if (history.count == 0) {
            return NOTHING;
        }
        history.takeBackLatest(now);
        return history.count;
    }

    public int save() {
        snapshot.copyFrom(now);
        isSaved = true;
        return now.kettles;
    }

    public int restore() {
        if (!isSaved) {
            return NOTHING;
        }
        now.copyFrom(snapshot);
        history.count = 0;
        return now.kettles;
    }

    // ---- what is asked ahead

    private static boolean isMember(int member) {
        return member >= 0 && member < MEMBERS;
    }

    private static boolean isPitch(int pitch) {
        return pitch >= 1 && pitch <= PITCHES;
    }

    private static boolean isStove(int stove) {
        return stove >= 0 && stove < STOVES;
    }

    private boolean isKettle(int kettle) {
        return kettle >= 0 && kettle < now.kettles;
    }

    private static boolean isIn(int bits, int index) {
        return (bits >> index & 1) == 1;
    }

    private static int orNothing(int index) {
        return index == NO_ONE ? NOTHING : index;
    }

    private static int sumOf(int[] row) {
        int sum = 0;
        for (int number : row) {
            sum += number;
        }
        return sum;
    }

    private static int soundOf(int pitch, int other) {
        int difference = Math.abs(pitch - other);
        return difference >= 0 && difference < SOUNDS.length ? SOUNDS[difference] : 0;
    }

    private static int fitOf(int pitch, int whistled) {
        int fit = 0;
        for (int other = 1; other <= PITCHES; other++) {
            if (isIn(whistled, other)) {
                fit += soundOf(pitch, other);
            }
        }
        return fit;
    }

    private boolean isBoilingSame() {
        for (int kettle = 0; kettle < now.kettles; kettle++) {
            if (boilsIn(kettle) != boilsInAgain(kettle)) {
                return false;
            }
        }
        return true;
    }

    // ---- orders of members and kettles

    private int countAheadOfMember(int member) {
        int ahead = 0;
        for (int other = 0; other < MEMBERS; other++) {
            if (isMemberAhead(other, member)) {
                ahead++;
            }
        }
        return ahead;
    }

    private boolean isMemberAhead(int other, int member) {
        int byPoints = Integer.compare(now.points[other], now.points[member]);
        if (byPoints != 0) {
            return byPoints > 0;
        }
        int byPitches = Integer.compare(now.countPitchesOf(other), now.countPitchesOf(member));
        return byPitches != 0 ? byPitches > 0 : other < member;
    }

    private int countAheadOfKettle(int kettle) {
        int ahead = 0;
        for (int other = 0; other < now.kettles; other++) {
            if (isKettleAhead(other, kettle)) {
                ahead++;
            }
        }
        return ahead;
    }

    private boolean isKettleAhead(int other, int kettle) {
        int byTemperature = Integer.compare(now.temperatures[other], now.temperatures[kettle]);
        if (byTemperature != 0) {
            return byTemperature > 0;
        }
        int byWater = Integer.compare(now.waters[other], now.waters[kettle]);
        return byWater != 0 ? byWater < 0 : other < kettle;
    }

    // ---- the changes: each alters the state only when nothing speaks against it, and answers below 0 otherwise

    /** Keeps a change that went well among those that can be undone. */
    private int settle(int answer) {
        if (answer >= 0) {
            history.keepBegun();
        }
        return answer;
    }

    private int takePitch(int member, int pitch) {
        if (!isMember(member)) {
            return NONE;
        }
        if (!isPitch(pitch)) {
            return BAD;
        }
        if (now.owners[pitch] != NO_ONE) {
            return refuse(PITCH_IS_OWNED, now.owners[pitch]);
        }
        int owned = now.countPitchesOf(member);
        if (owned >= MOST_OWNED) {
            return refuse(MEMBER_OR_GUILD_HAS_MOST, owned);
        }
        now.owners[pitch] = member;
        return owned + 1;
    }

    private int bringKettle(int member, int pitch, int water) {
        if (!isMember(member)) {
            return NONE;
        }
        if (!isPitch(pitch) || water < 0 || water > MOST_WATER) {
            return BAD;
        }
        if (now.owners[pitch] != member) {
            return refuse(PITCH_IS_NOT_OWNED, now.owners[pitch]);
        }
        if (now.kettles >= MOST_KETTLES) {
            return refuse(MEMBER_OR_GUILD_HAS_MOST, now.kettles);
        }
        return now.addKettle(member, pitch, water);
    }

    private int pourWater(int kettle, int water) {
        if (!isKettle(kettle)) {
            return NONE;
        }
        if (water < 1 || water > MOST_WATER) {
            return BAD;
        }
        int sum = now.waters[kettle] + water;
        if (sum > MOST_WATER) {
            return refuse(TOO_MUCH_WATER, sum);
        }
        now.waters[kettle] = sum;
        now.waterCome += water;
        return sum;
    }

    private int putOnStove(int kettle, int stove) {
        if (!isKettle(kettle) || !isStove(stove)) {
            return NONE;
        }
        if (now.stoves[kettle] != NO_ONE) {
            return refuseStove(kettle, IS_ON_A_STOVE, now.stoves[kettle]);
        }
        int there = now.kettleOn(stove);
        if (there != NO_ONE) {
            return refuseStove(kettle, STOVE_HAS_A_KETTLE, there);
        }
        int stoveOfPitch = now.stoveWithPitch(now.pitches[kettle]);
        if (stoveOfPitch != NO_ONE) {
            return refuseStove(kettle, PITCH_IS_ON_A_STOVE, stoveOfPitch);
        }
        if (now.bans[kettle] > 0) {
            return refuseStove(kettle, IS_BANNED, now.bans[kettle]);
        }
        now.stoves[kettle] = stove;
        return now.countOnStoves();
    }

    private int takeOffStove(int kettle) {
        if (!isKettle(kettle)) {
            return NONE;
        }
        int stove = now.stoves[kettle];
        if (stove == NO_ONE) {
            return refuse(IS_ON_NO_STOVE, now.countOnStoves());
        }
        now.stoves[kettle] = NO_ONE;
        return stove;
    }

    private int turnStove(int stove, int heat) {
        if (!isStove(stove)) {
            return NONE;
        }
        if (heat < 0 || heat > MOST_HEAT) {
            return BAD;
        }
        int before = now.heats[stove];
        if (before == heat) {
            return refuse(IS_SO_ALREADY, heat);
        }
        now.heats[stove] = heat;
        return before;
    }

    private int moveLid(int kettle, int isOn) {
        if (!isKettle(kettle)) {
            return NONE;
        }
        if (isOn != 0 && isOn != 1) {
            return BAD;
        }
        if (now.lids[kettle] == isOn) {
            return refuse(IS_SO_ALREADY, isOn);
        }
        if (isOn == 1 && now.bars[kettle] == 1) {
            return refuse(LID_IS_BARRED, HARMONY_MINUTES - now.minutes % HARMONY_MINUTES);
        }
        now.lids[kettle] = isOn;
        return now.countLidsOn();
    }

    private int makeAppeal(int member, int kettle) {
        if (!isMember(member) || !isKettle(kettle)) {
            return NONE;
        }
        if (now.members[kettle] == member) {
            return refuse(KETTLE_IS_OWN, member);
        }
        if (now.lids[kettle] == 0) {
            return refuse(LID_IS_OFF, now.countLidsOn());
        }
        if (isIn(now.appealers[kettle], member)) {
            return refuse(APPEALED_ALREADY, Integer.bitCount(now.appealers[kettle]));
        }
        now.appealsMade[member]++;
        now.appealers[kettle] |= 1 << member;
        if (Integer.bitCount(now.appealers[kettle]) < APPEALS_NEEDED) {
            return 0;
        }
        now.barLid(kettle);
        return 1;
    }

    private int passMinutes(int minutes) {
        if (minutes < 1 || minutes > MOST_MINUTES) {
            return BAD;
        }
        int dry = 0;
        for (int minute = 0; minute < minutes; minute++) {
            dry += now.passMinute();
            if (now.minutes % HARMONY_MINUTES == 0) {
                now.holdHarmony();
            }
        }
        return dry;
    }

    private int carryOut(int order) {
        int first = orders.numberOf(order, 0);
        int second = orders.numberOf(order, 1);
        switch (orders.kindOf(order)) {
            case OWN_ORDER: return takePitch(first, second);
            case KETTLE_ORDER: return bringKettle(first, second, orders.numberOf(order, 2));
            case SET_ORDER: return putOnStove(first, second);
            case OFF_ORDER: return takeOffStove(first);
            case HEAT_ORDER: return turnStove(first, second);
            case FILL_ORDER: return pourWater(first, second);
            case LID_ORDER: return moveLid(first, second);
            case APPEAL_ORDER: return makeAppeal(first, second);
            case MINUTE_ORDER: return passMinutes(first);
            default: return NONE;
        }
    }

    // ---- refusals

    private int refuse(int reason, int detail) {
        reasons.count = 0;
        reasons.putAhead(reason, detail);
        return REFUSED;
    }

    private int refuseStove(int kettle, int reasonBehind, int detailBehind) {
        refuse(reasonBehind, detailBehind);
        reasons.putAhead(CANNOT_BE_SET, kettle);
        return REFUSED;
    }

    private int refuseOrder(int order, int answer) {
        // Only a refused order has told a reason; an older one must not seem to stand behind this one.
        if (answer != REFUSED) {
            reasons.count = 0;
        }
        reasons.putAhead(ORDER_FAILS, order);
        return REFUSED;
    }

    // ---- lines

    private void tellSigns(int kettle) {
        if (now.lids[kettle] == 0) {
            line.append('_');
        }
        if (now.bars[kettle] == 1) {
            line.append('#');
        }
        if (now.stoves[kettle] != NO_ONE) {
            line.append('@').append(now.stoves[kettle]);
        }
        if (now.whistles(kettle)) {
            line.append('!');
        }
        if (now.bans[kettle] > 0) {
            line.append('x').append(now.bans[kettle]);
        }
    }

    /** All that changes can change. */
    private static final class State {
        final int[] owners = new int[PITCHES + 1];
        final int[] points = new int[MEMBERS];
        final int[] boiledDry = new int[MEMBERS];
        final int[] appealsMade = new int[MEMBERS];
        final int[] heats = new int[STOVES];
        final int[] members = new int[MOST_KETTLES];
        final int[] pitches = new int[MOST_KETTLES];
        final int[] waters = new int[MOST_KETTLES];
        final int[] temperatures = new int[MOST_KETTLES];
        final int[] stoves = new int[MOST_KETTLES];
        final int[] bans = new int[MOST_KETTLES];
        /** 1 for a lid that is on, 0 for one that is off. */
        final int[] lids = new int[MOST_KETTLES];
        /** 1 for a lid that is barred, 0 otherwise. */
        final int[] bars = new int[MOST_KETTLES];
        /** The members that appealed the lid, as bits. */
        final int[] appealers = new int[MOST_KETTLES];
        int kettles;
        int minutes;
        int waterCome;
        int waterGone;

        State() {
            Arrays.fill(owners, NO_ONE);
        }

        void copyFrom(State other) {
            copyRow(other.owners, owners);
            copyRow(other.points, points);
            copyRow(other.boiledDry, boiledDry);
            copyRow(other.appealsMade, appealsMade);
            copyRow(other.heats, heats);
            copyRow(other.members, members);
            copyRow(other.pitches, pitches);
            copyRow(other.waters, waters);
            copyRow(other.temperatures, temperatures);
            copyRow(other.stoves, stoves);
            copyRow(other.bans, bans);
            copyRow(other.lids, lids);
            copyRow(other.bars, bars);
            copyRow(other.appealers, appealers);
            kettles = other.kettles;
            minutes = other.minutes;
            waterCome = other.waterCome;
            waterGone = other.waterGone;
        }

        private static void copyRow(int[] from, int[] to) {
            System.arraycopy(from, 0, to, 0, Math.min(from.length, to.length));
        }

        /** Is asked only while there is room for one more. */
        int addKettle(int member, int pitch, int water) {
            int kettle = kettles;
            members[kettle] = member;
            pitches[kettle] = pitch;
            waters[kettle] = water;
            temperatures[kettle] = COLDEST;
            stoves[kettle] = NO_ONE;
            bans[kettle] = 0;
            lids[kettle] = 1;
            bars[kettle] = 0;
            appealers[kettle] = 0;
            kettles++;
            waterCome += water;
            return kettle;
        }

        void barLid(int kettle) {
            lids[kettle] = 0;
            bars[kettle] = 1;
            appealers[kettle] = 0;
        }

        /** Answers how many kettles boil dry in the minute. */
        int passMinute() {
            int dry = 0;
            for (int kettle = 0; kettle < kettles; kettle++) {
                if (passMinuteOver(kettle)) {
                    dry++;
                }
            }
            minutes++;
            return dry;
        }

        /** Kettles do nothing to one another within a minute, so each goes through the whole of it by itself. */
        private boolean passMinuteOver(int kettle) {
            boolean isBoiling = boils(kettle);
            if (isBoiling && waters[kettle] > 0) {
                waters[kettle]--;
                waterGone++;
            }
            boolean isDry = isBoiling && waters[kettle] == 0;
            if (isDry) {
                boilDry(kettle);
            } else if (bans[kettle] > 0) {
                bans[kettle]--;
            }
            changeTemperature(kettle);
            return isDry;
        }

        private void boilDry(int kettle) {
            int member = members[kettle];
            stoves[kettle] = NO_ONE;
            bans[kettle] = BAN_MINUTES;
            points[member] -= DRY_POINTS;
            boiledDry[member]++;
        }

        private void changeTemperature(int kettle) {
            if (stoves[kettle] == NO_ONE) {
                temperatures[kettle] = Math.max(COLDEST, temperatures[kettle] - DEGREES);
            } else {
                temperatures[kettle] = Math.min(HOTTEST, temperatures[kettle] + DEGREES * heatUnder(kettle));
            }
        }

        void holdHarmony() {
            int whistlers = whistlers();
            for (int first = 0; first < kettles; first++) {
                for (int second = first + 1; second < kettles; second++) {
                    if (isIn(whistlers, first) && isIn(whistlers, second)) {
                        int sound = soundOf(pitches[first], pitches[second]);
                        points[members[first]] += sound;
                        points[members[second]] += sound;
                    }
                }
            }
            Arrays.fill(bars, 0);
        }

        /** The heat of the stove below a kettle, 0 without one. */
        int heatUnder(int kettle) {
            int stove = stoves[kettle];
            return stove >= 0 && stove < STOVES ? heats[stove] : 0;
        }

        boolean boils(int kettle) {
            return heatUnder(kettle) > 0 && temperatures[kettle] == HOTTEST;
        }

        boolean whistles(int kettle) {
            return isIn(whistlers(), kettle);
        }

        int whistlers() {
            int bits = 0;
            for (int kettle = 0; kettle < kettles; kettle++) {
                if (boils(kettle) && waters[kettle] > 0 && lids[kettle] == 1) {
                    bits |= 1 << kettle;
                }
            }
            return bits;
        }

        int whistledPitches() {
            int whistlers = whistlers();
            int bits = 0;
            for (int kettle = 0; kettle < kettles; kettle++) {
                if (isIn(whistlers, kettle)) {
                    bits |= 1 << pitches[kettle];
                }
            }
            return bits;
        }

        int kettleOn(int stove) {
            for (int kettle = 0; kettle < kettles; kettle++) {
                if (stoves[kettle] == stove) {
                    return kettle;
                }
            }
            return NO_ONE;
        }

        int stoveWithPitch(int pitch) {
            for (int kettle = 0; kettle < kettles; kettle++) {
                if (pitches[kettle] == pitch && stoves[kettle] != NO_ONE) {
                    return stoves[kettle];
                }
            }
            return NO_ONE;
        }

        boolean hasPitchOnTwoStoves() {
            int seen = 0;
            for (int kettle = 0; kettle < kettles; kettle++) {
                if (stoves[kettle] != NO_ONE) {
                    if (isIn(seen, pitches[kettle])) {
                        return true;
                    }
                    seen |= 1 << pitches[kettle];
                }
            }
            return false;
        }

        int countPitchesOf(int member) {
            int count = 0;
            for (int pitch = 1; pitch <= PITCHES; pitch++) {
                if (owners[pitch] == member) {
                    count++;
                }
            }
            return count;
        }

        int countKettlesOf(int member) {
            int count = 0;
            for (int kettle = 0; kettle < kettles; kettle++) {
                if (members[kettle] == member) {
                    count++;
                }
            }
            return count;
        }

        int countWhistlersOf(int member) {
            int whistlers = whistlers();
            int count = 0;
            for (int kettle = 0; kettle < kettles; kettle++) {
                if (members[kettle] == member && isIn(whistlers, kettle)) {
                    count++;
                }
            }
            return count;
        }

        int countOnStoves() {
            int count = 0;
            for (int kettle = 0; kettle < kettles; kettle++) {
                if (stoves[kettle] != NO_ONE) {
                    count++;
                }
            }
            return count;
        }

        int countBoiling() {
            int count = 0;
            for (int kettle = 0; kettle < kettles; kettle++) {
                if (boils(kettle)) {
                    count++;
                }
            }
            return count;
        }

        int countLidsOn() {
            int count = 0;
            for (int kettle = 0; kettle < kettles; kettle++) {
                count += lids[kettle];
            }
            return count;
        }

        int countLidsBarred() {
            int count = 0;
            for (int kettle = 0; kettle < kettles; kettle++) {
                count += bars[kettle];
            }
            return count;
        }

        int sumWater() {
            int sum = 0;
            for (int kettle = 0; kettle < kettles; kettle++) {
                sum += waters[kettle];
            }
            return sum;
        }
    }

    /** The states before the latest changes. */
    private static final class History {
        /**
         * One state more than changes can be undone: the one at begun holds what was before a call of which
         * it is not known yet whether it will be a change, so that a refused call costs no older change.
         */
        private final State[] states = new State[MOST_UNDONE + 1];
        private int begun;
        int count;

        History() {
            for (int index = 0; index < states.length; index++) {
                states[index] = new State();
            }
        }

        void begin(State now) {
            states[begun].copyFrom(now);
        }

        void keepBegun() {
            begun = (begun + 1) % (MOST_UNDONE + 1);
            count = Math.min(MOST_UNDONE, count + 1);
        }

        void takeBackBegun(State now) {
            now.copyFrom(states[begun]);
        }

        void takeBackLatest(State now) {
            begun = (begun + MOST_UNDONE) % (MOST_UNDONE + 1);
            count = Math.max(0, count - 1);
            now.copyFrom(states[begun]);
        }
    }

    /** The latest reason, and those that stand behind it. */
    private static final class Reasons {
        final int[] numbers = new int[MOST_REASONS];
        final int[] details = new int[MOST_REASONS];
        int count;

        void putAhead(int reason, int detail) {
            for (int depth = MOST_REASONS - 1; depth > 0; depth--) {
                numbers[depth] = numbers[depth - 1];
                details[depth] = details[depth - 1];
            }
            numbers[0] = reason;
            details[0] = detail;
            count = Math.min(MOST_REASONS, count + 1);
        }
    }

    /** The text, and the orders that were read in it. */
    private static final class Orders {
        /** The shortest order, with its ";", is "off 0;": no text holds more of them than this. */
        private static final int MOST_ORDERS = MOST_CHARACTERS / 6 + 1;
        private static final int MOST_NUMBERS = 3;
        private static final int NO_FAULT = -1;
        private static final int NO_NUMBER = -1;

        private final char[] text = new char[MOST_CHARACTERS];
        private final int[] kinds = new int[MOST_ORDERS];
        private final int[] numbers = new int[MOST_ORDERS * MOST_NUMBERS];
        private int place;
        int length;
        int count;

        boolean add(char sign) {
            if (length >= text.length) {
                return false;
            }
            text[length] = sign;
            length++;
            return true;
        }

        /** The orders that were read stay. */
        void empty() {
            length = 0;
        }

        int kindOf(int order) {
            return order >= 0 && order < count ? kinds[order] : NO_NUMBER;
        }

        int numberOf(int order, int index) {
            boolean isThere = order >= 0 && order < count && index >= 0 && index < MOST_NUMBERS;
            return isThere ? numbers[order * MOST_NUMBERS + index] : NO_NUMBER;
        }

        /** Answers the fault position, or NO_FAULT. */
        int read() {
            count = 0;
            place = 0;
            for (int turn = 0; turn < MOST_ORDERS; turn++) {
                if (!readOrder(turn)) {
                    return place;
                }
                count++;
                if (place == length) {
                    return NO_FAULT;
                }
                if (!isAtPlace(';')) {
                    return place;
                }
                place++;
            }
            return place;
        }

        /** Leaves the place behind the order, or at the first sign that no kind of order has there. */
        private boolean readOrder(int order) {
            int start = place;
            int furthest = start;
            for (int kind = 0; kind < ORDER_KINDS; kind++) {
                place = start;
                if (readForm(formOf(kind), order * MOST_NUMBERS)) {
                    kinds[order] = kind;
                    return true;
                }
                furthest = Math.max(furthest, place);
            }
            place = furthest;
            return false;
        }

        private static String formOf(int kind) {
            switch (kind) {
                case OWN_ORDER: return "own # %";
                case KETTLE_ORDER: return "kettle # % %";
                case SET_ORDER: return "set # #";
                case OFF_ORDER: return "off #";
                case HEAT_ORDER: return "heat # #";
                case FILL_ORDER: return "fill # %";
                case LID_ORDER: return "lid #?";
                case APPEAL_ORDER: return "appeal # #";
                default: return "minute #";
            }
        }

        private boolean readForm(String form, int firstNumber) {
            int found = firstNumber;
            for (int index = 0; index < form.length(); index++) {
                char sign = form.charAt(index);
                if (sign == ONE_DIGIT || sign == TWO_DIGITS || sign == PLUS_OR_MINUS) {
                    int number = readNumber(sign);
                    if (number < 0 || found >= numbers.length) {
                        return false;
                    }
                    numbers[found] = number;
                    found++;
                } else if (isAtPlace(sign)) {
                    place++;
                } else {
                    return false;
                }
            }
            return true;
        }

        private int readNumber(char sign) {
            int number = sign == PLUS_OR_MINUS ? signAtPlace() : digitAtPlace();
            if (number < 0) {
                return NO_NUMBER;
            }
            place++;
            int digit = digitAtPlace();
            if (sign == TWO_DIGITS && digit >= 0) {
                place++;
                return number * 10 + digit;
            }
            return number;
        }

        private boolean isAtPlace(char sign) {
            return place >= 0 && place < length && text[place] == sign;
        }

        private int digitAtPlace() {
            if (place < 0 || place >= length) {
                return NO_NUMBER;
            }
            char sign = text[place];
            return sign >= '0' && sign <= '9' ? sign - '0' : NO_NUMBER;
        }

        private int signAtPlace() {
            if (isAtPlace('+')) {
                return 1;
            }
            return isAtPlace('-') ? 0 : NO_NUMBER;
        }
    }
}
