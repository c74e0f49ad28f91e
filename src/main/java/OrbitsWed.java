import java.util.Arrays;

/** Bodies that go round in whole days, like one another or not, meet and push each other by a told law. */
public final class OrbitsWed {
    public static final int BAD = -1, NOT = -2, FULL = -3, STATE = -5, VOID = -2000000000;

    private static final int NOTHING_THERE = -11, OTHER_KIND = -12, NO_PLACE = -13, BELOW_0 = -14;
    private static final int LAST_DAY = 99999;
    private static final int MOST_BODIES = 8;
    private static final int MOST_DAYS = 999;
    private static final int MOST_PUSHED = 200;
    private static final int MOST_LIKING = 9;

    private final Sky sky;
    private final Clock clock;
    private final Tape tape;
    private final Law law;
    private final Walk walk;
    private final Foresight foresight;
    private final Deeds deeds;
    private final Changes changes;
    private final Shelves shelves;
    private final Moods moods;

    public OrbitsWed() {
        sky = new Sky();
        clock = new Clock(sky);
        tape = new Tape();
        law = new Law();
        walk = new Walk(sky, law);
        foresight = new Foresight(sky, walk);
        deeds = new Deeds(sky);
        changes = new Changes();
        shelves = new Shelves();
        moods = new Moods();
    }

    // ---- bodies in the sky

    public int orb(int round, int place) {
        if (!Sky.fitsBody(round, place, 1)) {
            return BAD;
        }
        return sky.added(round, place, 1);
    }

    public int orbs(int shelf, int i, int n) {
        if (!Shelves.isShelf(shelf) || n < 1 || n > MOST_BODIES) {
            return BAD;
        }
        if (shelves.isEmpty(shelf)) {
            return 0;
        }
        if (!shelves.isBook(shelf)) {
            return OTHER_KIND;
        }
        return bodiesFrom(shelf, i, n);
    }

    public int mend(int number, int what, int v) {
        if (!sky.hasNumber(number, what) || !sky.fitsNumber(number, what, v)) {
            return VOID;
        }
        int was = sky.told(number, what);
        if (was != v) {
            changes.add(number, what, was, v);
            sky.tell(number, what, v);
        }
        return was;
    }

    public int of(int number, int what) {
        if (what == Sky.ROUND) {
            return sky.has(number) ? sky.rounds[number] : VOID;
        }
        return sky.hasNumber(number, what) ? sky.told(number, what) : VOID;
    }

    public int feed(int letter) {
        if (letter < 0 || letter > 255) {
            return BAD;
        }
        return tape.fed(letter);
    }

    public int law() {
        boolean isText = tape.isText();
        int fault = tape.place;
        if (isText) {
            law.become(tape);
        }
        tape.length = 0;
        return isText ? 1 : -100 - fault;
    }

    // ---- by the clock

    public int at(int one, int day, int what) {
        if (!sky.has(one) || !isDay(day) || !isWhat(what)) {
            return BAD;
        }
        return what == 0 ? sky.placeOn(one, day) : sky.degreesOn(one, day);
    }

    public int apart(int ab, int day, int what) {
        if (!sky.hasPair(ab) || !isDay(day) || !isWhat(what)) {
            return BAD;
        }
        int gap = sky.gapOn(ab / 10, ab % 10, day);
        if (what == 0) {
            return gap;
        }
        return gap <= sky.near ? 1 : 0;
    }

    public int meets(int ab, int day) {
        if (!sky.hasPair(ab) || !isDay(day)) {
            return BAD;
        }
        return clock.firstMeeting(ab / 10, ab % 10, day);
    }

    public int often(int ab, int day, int n) {
        if (!sky.hasPair(ab) || !isDay(day) || !isSpan(n)) {
            return BAD;
        }
        return clock.meetingsIn(ab / 10, ab % 10, day, n);
    }

    public long together(int set) {
        return sky.hasAll(set) ? clock.togetherAgain(set) : Long.MIN_VALUE;
    }

    public long start(int set) {
        return sky.hasAll(set) ? clock.allAtStart(set) : Long.MIN_VALUE;
    }

    public int mood(int one, int day) {
        if (!sky.has(one) || !isDay(day)) {
            return VOID;
        }
        return clock.moodOn(one, day);
    }

    public int best(int one, int dn, int what) {
        if (dn < 0) {
            return VOID;
        }
        int day = dn / 1000;
        int n = dn % 1000;
        if (!sky.has(one) || day > 9999 || n < 1 || !isWhat(what)) {
            return VOID;
        }
        int bestDay = clock.bestDay(one, day, n);
        return what == 0 ? bestDay : clock.moodOn(one, bestDay);
    }

    public int sign(int set, int day, int n) {
        if (!sky.hasAll(set) || !isDay(day) || n < 0 || n > MOST_DAYS) {
            return BAD;
        }
        return n == 0 ? clock.firstFreeDay(set, day) : clock.freeDaysIn(set, day, n);
    }

    public int nudge(int ab, int day) {
        if (!sky.hasPair(ab) || !isDay(day)) {
            return VOID;
        }
        return clock.leastNudge(ab / 10, ab % 10, day);
    }

    public int never(int ab, int n, int what) {
        if (!sky.hasPair(ab) || !isSpan(n) || !isWhat(what)) {
            return BAD;
        }
        int one = ab / 10;
        int other = ab % 10;
        return what == 0 ? clock.lonelyPlaces(one, other, n) : clock.leastLonelyPlace(one, other, n);
    }

    public int scene(int ab) {
        return sky.hasPair(ab) ? clock.daysSinceScene(ab / 10, ab % 10) : BAD;
    }

    // ---- pushed

    public int later(int one, int n) {
        if (!sky.has(one) || !isPushedSpan(n)) {
            return BAD;
        }
        return foresight.placeBehind(one, n);
    }

    public int pushes(int n, int what) {
        if (!isPushedSpan(n) || !isWhat(what)) {
            return BAD;
        }
        return what == 0 ? foresight.pushesIn(n) : foresight.firstPushIn(n);
    }

    public int met(int ab, int n) {
        if (!sky.hasPair(ab) || !isPushedSpan(n)) {
            return BAD;
        }
        return foresight.meetingsIn(ab / 10, ab % 10, n);
    }

    public int again(int what) {
        return isWhat(what) ? foresight.roundAgain(what == 1) : BAD;
    }

    public int judge(int shelf, int one) {
        if (!Shelves.isShelf(shelf) || !sky.has(one)) {
            return BAD;
        }
        int refusal = shelves.bookRefusal(shelf);
        if (refusal != 0) {
            return refusal;
        }
        return foresight.firstUnlike(shelves.values[shelf], shelves.lengths[shelf], one);
    }

    public int liking(int shelf, int ab, int one, int what) {
        if (!Shelves.isShelf(shelf) || !sky.hasPair(ab) || !sky.has(one) || !isWhat(what)) {
            return VOID;
        }
        if (!shelves.isBook(shelf)) {
            return VOID;
        }
        return likings(shelf, ab, one, what == 1);
    }

    public int whose(int shelf) {
        int refusal = shelves.bookRefusal(shelf);
        if (refusal != 0) {
            return refusal;
        }
        int bits = 0;
        for (int one = 0; one < sky.size; one++) {
            if (foresight.firstUnlike(shelves.values[shelf], shelves.lengths[shelf], one) == NOT) {
                bits |= 1 << one;
            }
        }
        return bits;
    }

    public int byTurns(int ab, int day, int nw) {
        if (nw < 0) {
            return VOID;
        }
        int n = nw / 10;
        int what = nw % 10;
        if (!sky.hasPair(ab) || !isDay(day) || n < 1 || n > Clock.MOST_TURNS || !isWhat(what)) {
            return VOID;
        }
        int first = clock.firstWinningNudge(ab / 10, ab % 10, day, n);
        if (what == 0) {
            return first == NOT ? 0 : 1;
        }
        return first == NOT ? -1 : first;
    }

    public int crowd(int one, int day, int what) {
        if (!sky.has(one) || !isDay(day) || !isWhat(what)) {
            return BAD;
        }
        int bits = clock.metOn(one, day);
        return what == 0 ? Integer.bitCount(bits) : bits;
    }

    public int arc(int set, int day) {
        if (!sky.hasAll(set) || !isDay(day)) {
            return BAD;
        }
        return clock.leastArc(set, day);
    }

    public int drawn(int seed, int nms, int one) {
        if (nms < 0 || (one != -1 && !sky.has(one))) {
            return BAD;
        }
        int years = nms / 10000;
        int days = nms / 100 % 100;
        int slips = nms % 100;
        if (years < 1 || years > 30 || days < 1 || days > 60 || slips > 12) {
            return BAD;
        }
        return foresight.drawnYears(seed, years, days, slips, one);
    }

    // ---- in deed

    public int day() {
        walk.begin();
        walk.pass(0);
        walk.keepPlaces();
        deeds.days++;
        deeds.pushes += walk.pushes;
        deeds.meetings += walk.meetings;
        return walk.pushes;
    }

    public int nudged(int one, int v) {
        if (!sky.has(one) || v < -9 || v > 9) {
            return BAD;
        }
        sky.places[one] = Math.floorMod(sky.places[one] + v, sky.rounds[one]);
        deeds.nudges++;
        return sky.places[one];
    }

    public int led(int what) {
        switch (what) {
            case 0: return deeds.days;
            case 1: return deeds.pushes;
            case 2: return deeds.meetings;
            case 3: return deeds.nudges;
            default: return BAD;
        }
    }

    public int image() {
        deeds.keepImage();
        return deeds.days;
    }

    public int back() {
        if (!deeds.hasImage) {
            return STATE;
        }
        deeds.layBack();
        return deeds.days;
    }

    public int undo() {
        if (changes.done < 1) {
            return STATE;
        }
        changes.done--;
        int i = changes.done;
        sky.tell(changes.numbers[i], changes.whats[i], changes.olds[i]);
        return changes.done;
    }

    public int redo() {
        if (changes.done >= changes.size) {
            return STATE;
        }
        int i = changes.done;
        sky.tell(changes.numbers[i], changes.whats[i], changes.news[i]);
        changes.done++;
        return changes.size - changes.done;
    }

    // ---- acts, shelves

    public int body(int kind) {
        if (!Moods.isKind(kind)) {
            return BAD;
        }
        return moods.added(kind);
    }

    public int act(int body, int act, int x) {
        return moods.acted(body, act, x);
    }

    public int trace(int i) {
        if (i < 0 || i >= moods.ran || i >= Moods.MOST_TRACED) {
            return BAD;
        }
        return moods.traced[i];
    }

    public int keep(int shelf, int body) {
        if (!Shelves.isShelf(shelf) || (body != -1 && !moods.has(body))) {
            return BAD;
        }
        if (body == -1) {
            shelves.clear(shelf);
        } else {
            shelves.holdMood(shelf, body);
        }
        return 1;
    }

    public int row(int shelf, int sort, int n) {
        if (!Shelves.isShelf(shelf) || sort < 0 || sort > Shelves.BOOLEANS || n > Shelves.MOST_LONG) {
            return BAD;
        }
        if (n < 0) {
            return BELOW_0;
        }
        shelves.holdRow(shelf, sort, n);
        return 1;
    }

    public int put(int shelf, int i, long v) {
        int refusal = shelves.placeRefusal(shelf, i);
        if (refusal != 0) {
            return refusal;
        }
        shelves.values[shelf][i] = Shelves.lowest(shelves.sorts[shelf], v);
        return 1;
    }

    public long element(int shelf, int i) {
        if (shelves.placeRefusal(shelf, i) != 0) {
            return Long.MIN_VALUE;
        }
        return shelves.values[shelf][i];
    }

    public int shift(int shelf, int i, int other, int j, int n) {
        int refusal = shelves.pairRefusal(shelf, other);
        if (refusal != 0) {
            return refusal;
        }
        if (!shelves.hasSpan(shelf, i, n) || !shelves.hasSpan(other, j, n)) {
            return NO_PLACE;
        }
        System.arraycopy(shelves.values[shelf], i, shelves.values[other], j, n);
        return n;
    }

    public int taken(int shelf, int k) {
        if (!Shelves.isShelf(shelf) || !Moods.isKind(k)) {
            return BAD;
        }
        if (shelves.isEmpty(shelf)) {
            return NOTHING_THERE;
        }
        if (!shelves.isMood(shelf)) {
            return OTHER_KIND;
        }
        int kind = moods.kinds[shelves.held[shelf]];
        return Moods.isUnder(kind, k) ? kind : OTHER_KIND;
    }

    public int count(int what) {
        switch (what) {
            case 0: return sky.size;
            case 1: return tape.length;
            case 2: return changes.done;
            case 3: return moods.size;
            case 4: return moods.ran;
            default: return BAD;
        }
    }

    private static boolean isDay(int day) {
        return day >= 0 && day <= LAST_DAY;
    }

    private static boolean isWhat(int what) {
        return what == 0 || what == 1;
    }

    private static boolean isSpan(int n) {
        return n >= 1 && n <= MOST_DAYS;
    }

    private static boolean isPushedSpan(int n) {
        return n >= 0 && n <= MOST_PUSHED;
    }

    // A row has no place ahead of its first one: from there it ends at once, as behind its last one.
    private int bodiesFrom(int shelf, int from, int n) {
        long[] values = shelves.values[shelf];
        int length = shelves.lengths[shelf];
        int came = 0;
        int i = from;
        for (int k = 0; k < n && i >= 0 && i <= length - 3; k++) {
            int round = (int) values[i];
            int place = (int) values[i + 1];
            int weight = (int) values[i + 2];
            if (!Sky.fitsBody(round, place, weight) || sky.added(round, place, weight) < 0) {
                return came;
            }
            came++;
            i += 3;
        }
        return came;
    }

    // The likings are tried on the sky itself, and what was told is laid back.
    private int likings(int shelf, int ab, int one, boolean wantsLeast) {
        int was = sky.told(ab, Sky.LIKES);
        int many = 0;
        int least = -99;
        for (int like = -MOST_LIKING; like <= MOST_LIKING; like++) {
            sky.tell(ab, Sky.LIKES, like);
            if (foresight.firstUnlike(shelves.values[shelf], shelves.lengths[shelf], one) == NOT) {
                if (many == 0) {
                    least = like;
                }
                many++;
            }
        }
        sky.tell(ab, Sky.LIKES, was);
        return wantsLeast ? least : many;
    }

    /** The bodies as they stand now, with all the numbers that mend() tells. */
    private static final class Sky {
        static final int PLACE = 0, WEIGHT = 1, LIKES = 2, NEAR = 3, ROUND = 4;

        final int[] rounds;
        final int[] places;
        final int[] weights;
        final int[][] likes;
        int near;
        int size;

        Sky() {
            rounds = new int[MOST_BODIES];
            // A round of 0 must never come to divide, not even for a body that has not come yet.
            Arrays.fill(rounds, 1);
            places = new int[MOST_BODIES];
            weights = new int[MOST_BODIES];
            likes = new int[MOST_BODIES][MOST_BODIES];
            near = 10;
        }

        static boolean fitsBody(int round, int place, int weight) {
            return round >= 1 && round <= 60 && place >= 0 && place < round && weight >= 0 && weight <= 9;
        }

        int added(int round, int place, int weight) {
            if (size >= MOST_BODIES) {
                return FULL;
            }
            rounds[size] = round;
            places[size] = place;
            weights[size] = weight;
            size++;
            return size - 1;
        }

        boolean has(int one) {
            return one >= 0 && one < size;
        }

        boolean hasPair(int ab) {
            return ab >= 0 && has(ab / 10) && has(ab % 10) && ab / 10 != ab % 10;
        }

        boolean hasAll(int set) {
            return set >= 0 && set < 1 << size;
        }

        boolean hasNumber(int number, int what) {
            switch (what) {
                case PLACE: return has(number);
                case WEIGHT: return has(number);
                case LIKES: return hasPair(number);
                case NEAR: return number == 0;
                default: return false;
            }
        }

        boolean fitsNumber(int number, int what, int v) {
            switch (what) {
                case PLACE: return v >= 0 && v < rounds[number];
                case WEIGHT: return v >= 0 && v <= 9;
                case LIKES: return v >= -MOST_LIKING && v <= MOST_LIKING;
                case NEAR: return v >= 0 && v <= 90;
                default: return false;
            }
        }

        int told(int number, int what) {
            switch (what) {
                case PLACE: return places[number];
                case WEIGHT: return weights[number];
                case LIKES: return likes[number / 10][number % 10];
                default: return near;
            }
        }

        void tell(int number, int what, int v) {
            switch (what) {
                case PLACE:
                    places[number] = v;
                    break;
                case WEIGHT:
                    weights[number] = v;
                    break;
                case LIKES:
                    likes[number / 10][number % 10] = v;
                    break;
                default:
                    near = v;
                    break;
            }
        }

        int degrees(int one, int place) {
            return 360 * place / rounds[one];
        }

        static int gap(int oneDegrees, int otherDegrees) {
            int way = Math.abs(oneDegrees - otherDegrees);
            return Math.min(way, 360 - way);
        }

        int placeOn(int one, int day) {
            return Math.floorMod(places[one] + day, rounds[one]);
        }

        int degreesOn(int one, int day) {
            return degrees(one, placeOn(one, day));
        }

        int gapOn(int one, int other, int day) {
            return gap(degreesOn(one, day), degreesOn(other, day));
        }

        boolean meetOn(int one, int other, int day) {
            return gap(degreesOn(one, day), degreesOn(other, day)) <= near;
        }

        /** Whether they would meet, were the one moved on by so many places now. */
        boolean meetMoved(int one, int moved, int other, int day) {
            return gap(degreesOn(one, moved + day), degreesOn(other, day)) <= near;
        }
    }

    /** Questions on bodies that go by the clock alone. */
    private static final class Clock {
        static final int MOST_TURNS = 6;
        static final int MOST_AGO = 3600;

        final Sky sky;

        Clock(Sky sky) {
            this.sky = sky;
        }

        int firstMeeting(int one, int other, int from) {
            // Behind both their rounds all comes as it was: later days tell nothing new.
            int last = Math.min(LAST_DAY, from + sky.rounds[one] * sky.rounds[other]);
            for (int day = from; day <= last; day++) {
                if (sky.meetOn(one, other, day)) {
                    return day;
                }
            }
            return NOT;
        }

        int meetingsIn(int one, int other, int from, int n) {
            int many = 0;
            for (int day = from; day < from + n; day++) {
                if (sky.meetOn(one, other, day)) {
                    many++;
                }
            }
            return many;
        }

        long togetherAgain(int set) {
            long days = 1;
            for (int one = 0; one < sky.size; one++) {
                if ((set >> one & 1) == 1) {
                    days = leastCommon(days, sky.rounds[one]);
                }
            }
            return days;
        }

        // Body by body: the days that suit all those before lie one common round apart.
        long allAtStart(int set) {
            long day = 0;
            long step = 1;
            for (int one = 0; one < sky.size; one++) {
                if ((set >> one & 1) == 1) {
                    day = nextAtStart(one, day, step);
                    if (day < 0) {
                        return NOT;
                    }
                    step = leastCommon(step, sky.rounds[one]);
                }
            }
            return day;
        }

        private long nextAtStart(int one, long from, long step) {
            long day = from;
            for (int k = 0; k < sky.rounds[one]; k++) {
                if ((sky.places[one] + day) % sky.rounds[one] == 0) {
                    return day;
                }
                day += step;
            }
            return -1;
        }

        private static long leastCommon(long a, long b) {
            long greater = a;
            long lesser = b;
            for (int k = 0; k < 200 && lesser != 0; k++) {
                long rest = greater % lesser;
                greater = lesser;
                lesser = rest;
            }
            return greater == 0 ? 0 : a / greater * b;
        }

        int moodOn(int one, int day) {
            int mood = 0;
            for (int other = 0; other < sky.size; other++) {
                if (other != one && sky.meetOn(one, other, day)) {
                    mood += sky.likes[one][other];
                }
            }
            return mood;
        }

        int bestDay(int one, int from, int n) {
            int bestDay = from;
            int bestMood = moodOn(one, from);
            for (int day = from + 1; day < from + n; day++) {
                int mood = moodOn(one, day);
                if (mood > bestMood) {
                    bestDay = day;
                    bestMood = mood;
                }
            }
            return bestDay;
        }

        int metOn(int one, int day) {
            int bits = 0;
            for (int other = 0; other < sky.size; other++) {
                if (other != one && sky.meetOn(one, other, day)) {
                    bits |= 1 << other;
                }
            }
            return bits;
        }

        private boolean isFree(int set, int day) {
            for (int one = 0; one < sky.size; one++) {
                if ((set >> one & 1) == 1 && metOn(one, day) != 0) {
                    return false;
                }
            }
            return true;
        }

        int firstFreeDay(int set, int from) {
            // Behind the common round of all there is nothing new, as with two.
            long last = Math.min(LAST_DAY, from + togetherAgain((1 << sky.size) - 1));
            for (int day = from; day <= last; day++) {
                if (isFree(set, day)) {
                    return day;
                }
            }
            return NOT;
        }

        int freeDaysIn(int set, int from, int n) {
            int many = 0;
            for (int day = from; day < from + n; day++) {
                if (isFree(set, day)) {
                    many++;
                }
            }
            return many;
        }

        int leastNudge(int one, int other, int day) {
            for (int k = 0; k < sky.rounds[one]; k++) {
                if (sky.meetMoved(one, k, other, day)) {
                    return k;
                }
                if (sky.meetMoved(one, -k, other, day)) {
                    return -k;
                }
            }
            return -1000;
        }

        private boolean isLonely(int one, int place, int other, int n) {
            int moved = place - sky.places[one];
            for (int day = 0; day < n; day++) {
                if (sky.meetMoved(one, moved, other, day)) {
                    return false;
                }
            }
            return true;
        }

        int lonelyPlaces(int one, int other, int n) {
            int many = 0;
            for (int place = 0; place < sky.rounds[one]; place++) {
                if (isLonely(one, place, other, n)) {
                    many++;
                }
            }
            return many;
        }

        int leastLonelyPlace(int one, int other, int n) {
            for (int place = 0; place < sky.rounds[one]; place++) {
                if (isLonely(one, place, other, n)) {
                    return place;
                }
            }
            return NOT;
        }

        int daysSinceScene(int one, int other) {
            for (int ago = 1; ago <= MOST_AGO; ago++) {
                if (sky.placeOn(one, -ago) * sky.rounds[other] == sky.placeOn(other, -ago) * sky.rounds[one]) {
                    return ago;
                }
            }
            return NOT;
        }

        /** The least nudge that makes the first one sure of the meeting; NOT: none does. */
        int firstWinningNudge(int one, int other, int day, int turns) {
            // From the last nudge back to the second: the odd ones are the first one's, the even ones the other's.
            int winning = movesToMeet(one, other, day);
            for (int turn = turns; turn > 1; turn--) {
                int back = winning << 1;
                int on = winning >> 1;
                winning = turn % 2 == 1 ? winning | back | on : winning & back & on;
            }
            for (int v = -1; v <= 1; v++) {
                if ((winning >> (MOST_TURNS + v) & 1) == 1) {
                    return v;
                }
            }
            return NOT;
        }

        /** By how many places the one may be moved now to meet: bit 0 for as far back as all nudges lead. */
        private int movesToMeet(int one, int other, int day) {
            int bits = 0;
            for (int moved = -MOST_TURNS; moved <= MOST_TURNS; moved++) {
                if (sky.meetMoved(one, moved, other, day)) {
                    bits |= 1 << (MOST_TURNS + moved);
                }
            }
            return bits;
        }

        // The least arc begins at one of them: from each, the longest way on to any other.
        int leastArc(int set, int day) {
            int least = 360;
            for (int one = 0; one < sky.size; one++) {
                if ((set >> one & 1) == 1) {
                    least = Math.min(least, arcFrom(one, set, day));
                }
            }
            return set == 0 ? 0 : least;
        }

        private int arcFrom(int one, int set, int day) {
            int from = sky.degreesOn(one, day);
            int longest = 0;
            for (int other = 0; other < sky.size; other++) {
                if ((set >> other & 1) == 1) {
                    longest = Math.max(longest, Math.floorMod(sky.degreesOn(other, day) - from, 360));
                }
            }
            return longest;
        }
    }

    /** The bytes of a text for the law; reading them drafts what the law is to work out. */
    private static final class Tape {
        static final int MOST_BYTES = 120;
        static final int MOST_OPEN = 6;
        static final int END = -1;

        final int[] bytes;
        int length;
        /** Where the reading stands; where it broke off: the fault. */
        int place;
        // Each byte drafts at most one step, the end of the text one more.
        final int[] steps;
        final int[] values;
        int size;

        Tape() {
            bytes = new int[MOST_BYTES];
            steps = new int[Law.MOST_STEPS];
            values = new int[Law.MOST_STEPS];
        }

        int fed(int letter) {
            if (length >= MOST_BYTES) {
                return FULL;
            }
            bytes[length] = letter;
            length++;
            return length;
        }

        boolean isText() {
            place = 0;
            size = 0;
            if (!readsLine()) {
                return false;
            }
            for (int k = 0; k < MOST_BYTES && next() == ';'; k++) {
                place++;
                if (!readsLine()) {
                    return false;
                }
            }
            return next() == END;
        }

        private int next() {
            return place >= 0 && place < length ? bytes[place] : END;
        }

        private void draft(int step, int value) {
            if (size < Law.MOST_STEPS) {
                steps[size] = step;
                values[size] = value;
                size++;
            }
        }

        private boolean readsLine() {
            if (!readsEither(0)) {
                return false;
            }
            if (next() != '?') {
                draft(Law.GIVE, 0);
                return true;
            }
            int ask = size;
            place++;
            draft(Law.ASK, 0);
            if (!readsEither(0)) {
                return false;
            }
            draft(Law.GIVE, 0);
            if (ask < Law.MOST_STEPS) {
                values[ask] = size;
            }
            return true;
        }

        private boolean readsEither(int open) {
            if (!readsBoth(open)) {
                return false;
            }
            for (int k = 0; k < MOST_BYTES && next() == '|'; k++) {
                place++;
                if (!readsBoth(open)) {
                    return false;
                }
                draft('|', 0);
            }
            return true;
        }

        private boolean readsBoth(int open) {
            if (!readsCompared(open)) {
                return false;
            }
            for (int k = 0; k < MOST_BYTES && next() == '&'; k++) {
                place++;
                if (!readsCompared(open)) {
                    return false;
                }
                draft('&', 0);
            }
            return true;
        }

        private boolean readsCompared(int open) {
            if (!readsSum(open)) {
                return false;
            }
            int sign = next();
            if (sign != '<' && sign != '=' && sign != '>') {
                return true;
            }
            place++;
            if (!readsSum(open)) {
                return false;
            }
            draft(sign, 0);
            return true;
        }

        private boolean readsSum(int open) {
            if (!readsProduct(open)) {
                return false;
            }
            for (int k = 0; k < MOST_BYTES && (next() == '+' || next() == '-'); k++) {
                int sign = next();
                place++;
                if (!readsProduct(open)) {
                    return false;
                }
                draft(sign, 0);
            }
            return true;
        }

        private boolean readsProduct(int open) {
            if (!readsOperand(open)) {
                return false;
            }
            for (int k = 0; k < MOST_BYTES && (next() == '*' || next() == '/' || next() == '%'); k++) {
                int sign = next();
                place++;
                if (!readsOperand(open)) {
                    return false;
                }
                draft(sign, 0);
            }
            return true;
        }

        private boolean readsOperand(int open) {
            int sign = next();
            if (sign >= '0' && sign <= '9') {
                readNumber();
                return true;
            }
            int name = Law.nameOf(sign);
            if (name >= 0) {
                place++;
                draft(Law.NAME, name);
                return true;
            }
            if ((sign != '(' && sign != '!' && sign != '-') || open >= MOST_OPEN) {
                return false;
            }
            place++;
            return sign == '(' ? readsClosed(open + 1) : readsTurned(sign, open + 1);
        }

        private boolean readsClosed(int open) {
            if (!readsEither(open) || next() != ')') {
                return false;
            }
            place++;
            return true;
        }

        private boolean readsTurned(int sign, int open) {
            if (!readsOperand(open)) {
                return false;
            }
            draft(sign == '!' ? Law.DENY : Law.NEGATE, 0);
            return true;
        }

        private void readNumber() {
            int number = 0;
            for (int k = 0; k < 4 && next() >= '0' && next() <= '9'; k++) {
                number = number * 10 + next() - '0';
                place++;
            }
            draft(Law.NUMBER, number);
        }
    }

    /** What a text says, as steps over a stack; a sign between two sides is a step by its own byte. */
    private static final class Law {
        static final int NUMBER = 1, NAME = 2, DENY = 3, NEGATE = 4, ASK = 5, GIVE = 6;
        static final int MOST_STEPS = Tape.MOST_BYTES + 1;
        static final int MOST_PUSH = 9;
        static final int L = 0, W = 1, R = 2, A = 3, D = 4, P = 5;

        final int[] steps;
        final int[] values;
        int size;
        final int[] named;
        final int[] stack;

        Law() {
            steps = new int[MOST_STEPS];
            values = new int[MOST_STEPS];
            named = new int[6];
            stack = new int[MOST_STEPS];
        }

        static int nameOf(int sign) {
            switch (sign) {
                case 'l': return L;
                case 'w': return W;
                case 'r': return R;
                case 'a': return A;
                case 'd': return D;
                case 'p': return P;
                default: return -1;
            }
        }

        void become(Tape tape) {
            size = tape.size;
            for (int i = 0; i < size; i++) {
                steps[i] = tape.steps[i];
                values[i] = tape.values[i];
            }
        }

        /** What the names stand for that are of the one, whoever pushes it. */
        void turnTo(int round, int day, int place) {
            named[R] = round;
            named[D] = day;
            named[P] = place;
        }

        /** By how many places that one is pushed on by another one. */
        int push(int like, int weight, int gap) {
            named[L] = like;
            named[W] = weight;
            named[A] = gap;
            int given = size == 0 ? like * weight : workedOut();
            return Math.max(-MOST_PUSH, Math.min(MOST_PUSH, given));
        }

        // Each step tests the stack for itself, so that no draft, however made, can leave it.
        private int workedOut() {
            int top = 0;
            int i = 0;
            for (int k = 0; k < MOST_STEPS && i < size; k++) {
                int step = steps[i];
                int value = values[i];
                i++;
                if (step == NUMBER || step == NAME) {
                    if (top >= MOST_STEPS) {
                        return 0;
                    }
                    stack[top] = step == NUMBER ? value : namedBy(value);
                    top++;
                } else if (step > GIVE) {
                    if (top < 2) {
                        return 0;
                    }
                    top--;
                    stack[top - 1] = joined(step, stack[top - 1], stack[top]);
                } else if (top < 1) {
                    return 0;
                } else if (step == GIVE) {
                    return stack[top - 1];
                } else if (step == ASK) {
                    top--;
                    i = stack[top] == 0 ? value : i;
                } else {
                    stack[top - 1] = turned(step, stack[top - 1]);
                }
            }
            return 0;
        }

        private int namedBy(int name) {
            return name >= 0 && name < named.length ? named[name] : 0;
        }

        private static int turned(int step, int value) {
            if (step == NEGATE) {
                return -value;
            }
            return value == 0 ? 1 : 0;
        }

        private static int joined(int sign, int left, int right) {
            switch (sign) {
                case '|': return left != 0 || right != 0 ? 1 : 0;
                case '&': return left != 0 && right != 0 ? 1 : 0;
                case '<': return left < right ? 1 : 0;
                case '=': return left == right ? 1 : 0;
                case '>': return left > right ? 1 : 0;
                case '+': return left + right;
                case '-': return left - right;
                case '*': return left * right;
                case '/': return right == 0 ? 0 : left / right;
                case '%': return right == 0 ? 0 : left % right;
                default: return 0;
            }
        }
    }

    /** The bodies as they are pushed, day by day from now, on places of their own. */
    private static final class Walk {
        final Sky sky;
        final Law law;
        final int[] places;
        final int[] degrees;
        final int[] sums;
        /** Whom each one met as the latest day began, by bits. */
        final int[] metBits;
        int meetings;
        int pushes;

        Walk(Sky sky, Law law) {
            this.sky = sky;
            this.law = law;
            places = new int[MOST_BODIES];
            degrees = new int[MOST_BODIES];
            sums = new int[MOST_BODIES];
            metBits = new int[MOST_BODIES];
        }

        void begin() {
            for (int one = 0; one < sky.size; one++) {
                places[one] = sky.places[one];
            }
        }

        void keepPlaces() {
            for (int one = 0; one < sky.size; one++) {
                sky.places[one] = places[one];
            }
        }

        void pass(int day) {
            look();
            pushes = 0;
            for (int one = 0; one < sky.size; one++) {
                sums[one] = pushOf(one, day);
            }
            for (int one = 0; one < sky.size; one++) {
                move(one, sums[one] + 1);
            }
        }

        void move(int one, int by) {
            places[one] = Math.floorMod(places[one] + by, sky.rounds[one]);
        }

        private void look() {
            meetings = 0;
            for (int one = 0; one < sky.size; one++) {
                degrees[one] = sky.degrees(one, places[one]);
                metBits[one] = 0;
            }
            for (int one = 0; one < sky.size; one++) {
                for (int other = one + 1; other < sky.size; other++) {
                    if (Sky.gap(degrees[one], degrees[other]) <= sky.near) {
                        metBits[one] |= 1 << other;
                        metBits[other] |= 1 << one;
                        meetings++;
                    }
                }
            }
        }

        private int pushOf(int one, int day) {
            int sum = 0;
            law.turnTo(sky.rounds[one], day, places[one]);
            for (int other = 0; other < sky.size; other++) {
                if ((metBits[one] >> other & 1) == 1) {
                    int gap = Sky.gap(degrees[one], degrees[other]);
                    int push = law.push(sky.likes[one][other], sky.weights[other], gap);
                    if (push != 0) {
                        pushes++;
                    }
                    sum += push;
                }
            }
            return sum;
        }

        /** All places in one number: six bits hold a place. */
        long allPlaces() {
            long all = 0;
            for (int one = 0; one < sky.size; one++) {
                all = all << 6 | places[one];
            }
            return all;
        }

        boolean areAllAtStart() {
            return allPlaces() == 0;
        }
    }

    /** Questions on bodies that are pushed from now. */
    private static final class Foresight {
        static final int MOST_AGAIN = 300;

        final Sky sky;
        final Walk walk;
        final long[] seen;

        Foresight(Sky sky, Walk walk) {
            this.sky = sky;
            this.walk = walk;
            seen = new long[MOST_AGAIN + 1];
        }

        int placeBehind(int one, int n) {
            walk.begin();
            for (int day = 0; day < n; day++) {
                walk.pass(day);
            }
            return walk.places[one];
        }

        int pushesIn(int n) {
            int many = 0;
            walk.begin();
            for (int day = 0; day < n; day++) {
                walk.pass(day);
                many += walk.pushes;
            }
            return many;
        }

        int firstPushIn(int n) {
            walk.begin();
            for (int day = 0; day < n; day++) {
                walk.pass(day);
                if (walk.pushes > 0) {
                    return day;
                }
            }
            return NOT;
        }

        int meetingsIn(int one, int other, int n) {
            int many = 0;
            walk.begin();
            for (int day = 0; day < n; day++) {
                walk.pass(day);
                many += walk.metBits[one] >> other & 1;
            }
            return many;
        }

        int roundAgain(boolean wantsFirst) {
            walk.begin();
            seen[0] = walk.allPlaces();
            for (int days = 1; days <= MOST_AGAIN; days++) {
                walk.pass(days - 1);
                seen[days] = walk.allPlaces();
                int first = firstSeen(days);
                if (first < days) {
                    return wantsFirst ? first : days;
                }
            }
            return NOT;
        }

        private int firstSeen(int days) {
            for (int earlier = 0; earlier < days; earlier++) {
                if (seen[earlier] == seen[days]) {
                    return earlier;
                }
            }
            return days;
        }

        int firstUnlike(long[] book, int length, int one) {
            walk.begin();
            for (int i = 0; i < length; i++) {
                walk.pass(i);
                if (walk.places[one] != book[i]) {
                    return i;
                }
            }
            return NOT;
        }

        /**
         * On how many days one met anybody; for -1 on how many years' ends all stood at the start.
         * Each of the years is one from now: the bodies begin it where they are, the draws go on.
         */
        int drawnYears(int seed, int years, int days, int slips, int one) {
            int z = seed;
            int metDays = 0;
            int ends = 0;
            for (int year = 0; year < years; year++) {
                walk.begin();
                for (int day = 0; day < days; day++) {
                    walk.pass(day);
                    if (one >= 0 && walk.metBits[one] != 0) {
                        metDays++;
                    }
                    z = slipped(z, slips);
                }
                if (walk.areAllAtStart()) {
                    ends++;
                }
            }
            return one >= 0 ? metDays : ends;
        }

        // What is drawn decides on the slip alone, so it may be drawn behind all goings on, too.
        private int slipped(int drawn, int slips) {
            int z = drawn;
            for (int one = 0; one < sky.size; one++) {
                z = z * 1103515245 + 12345;
                if ((z >>> 8) % 12 < slips) {
                    walk.move(one, -1);
                }
            }
            return z;
        }
    }

    /** What the deeds led to, and the one image of it. */
    private static final class Deeds {
        final Sky sky;
        int days;
        int pushes;
        int meetings;
        int nudges;
        boolean hasImage;
        final int[] imagePlaces;
        int imageSize;
        int imageDays;
        int imagePushes;
        int imageMeetings;
        int imageNudges;

        Deeds(Sky sky) {
            this.sky = sky;
            imagePlaces = new int[MOST_BODIES];
        }

        void keepImage() {
            hasImage = true;
            imageSize = sky.size;
            for (int one = 0; one < imageSize; one++) {
                imagePlaces[one] = sky.places[one];
            }
            imageDays = days;
            imagePushes = pushes;
            imageMeetings = meetings;
            imageNudges = nudges;
        }

        void layBack() {
            for (int one = 0; one < imageSize; one++) {
                sky.places[one] = imagePlaces[one];
            }
            days = imageDays;
            pushes = imagePushes;
            meetings = imageMeetings;
            nudges = imageNudges;
        }
    }

    /** What mend() changed: the first ones still stand, those behind them are undone. */
    private static final class Changes {
        static final int MOST_KEPT = 40;

        final int[] numbers;
        final int[] whats;
        final int[] olds;
        final int[] news;
        int done;
        int size;

        Changes() {
            numbers = new int[MOST_KEPT];
            whats = new int[MOST_KEPT];
            olds = new int[MOST_KEPT];
            news = new int[MOST_KEPT];
        }

        void add(int number, int what, int was, int v) {
            if (done >= MOST_KEPT) {
                forgetOldest();
            }
            numbers[done] = number;
            whats[done] = what;
            olds[done] = was;
            news[done] = v;
            done++;
            size = done;
        }

        private void forgetOldest() {
            for (int i = 1; i < MOST_KEPT; i++) {
                numbers[i - 1] = numbers[i];
                whats[i - 1] = whats[i];
                olds[i - 1] = olds[i];
                news[i - 1] = news[i];
            }
            done = MOST_KEPT - 1;
        }
    }

    /** The shelves; a row's elements are kept as longs, cut to what its sort holds. */
    private static final class Shelves {
        static final int MOST_SHELVES = 6, MOST_LONG = 60;
        static final int BYTES = 0, SHORTS = 1, INTS = 2, LONGS = 3, BOOLEANS = 4;
        private static final int EMPTY = 0, MOOD = 1, ROW = 2;

        final int[] holds;
        final int[] held;
        final int[] sorts;
        final int[] lengths;
        final long[][] values;

        Shelves() {
            holds = new int[MOST_SHELVES];
            held = new int[MOST_SHELVES];
            sorts = new int[MOST_SHELVES];
            lengths = new int[MOST_SHELVES];
            values = new long[MOST_SHELVES][MOST_LONG];
        }

        static boolean isShelf(int shelf) {
            return shelf >= 0 && shelf < MOST_SHELVES;
        }

        boolean isEmpty(int shelf) {
            return holds[shelf] == EMPTY;
        }

        boolean isMood(int shelf) {
            return holds[shelf] == MOOD;
        }

        boolean isBook(int shelf) {
            return holds[shelf] == ROW && sorts[shelf] == BYTES;
        }

        void clear(int shelf) {
            holds[shelf] = EMPTY;
        }

        void holdMood(int shelf, int number) {
            holds[shelf] = MOOD;
            held[shelf] = number;
        }

        void holdRow(int shelf, int sort, int length) {
            holds[shelf] = ROW;
            sorts[shelf] = sort;
            lengths[shelf] = length;
            Arrays.fill(values[shelf], 0L);
        }

        /** BAD, -11 or -12 where no row is; 0 where one is. */
        int rowRefusal(int shelf) {
            if (!isShelf(shelf)) {
                return BAD;
            }
            if (isEmpty(shelf)) {
                return NOTHING_THERE;
            }
            return holds[shelf] == ROW ? 0 : OTHER_KIND;
        }

        int bookRefusal(int shelf) {
            int refusal = rowRefusal(shelf);
            if (refusal != 0) {
                return refusal;
            }
            return isBook(shelf) ? 0 : OTHER_KIND;
        }

        int placeRefusal(int shelf, int i) {
            int refusal = rowRefusal(shelf);
            if (refusal != 0) {
                return refusal;
            }
            return i >= 0 && i < lengths[shelf] ? 0 : NO_PLACE;
        }

        // Of both shelves the refusal named first counts: BAD ahead of -11, -11 ahead of -12.
        int pairRefusal(int shelf, int other) {
            if (!isShelf(shelf) || !isShelf(other)) {
                return BAD;
            }
            if (isEmpty(shelf) || isEmpty(other)) {
                return NOTHING_THERE;
            }
            if (holds[shelf] != ROW || holds[other] != ROW || sorts[shelf] != sorts[other]) {
                return OTHER_KIND;
            }
            return 0;
        }

        boolean hasSpan(int shelf, int i, int n) {
            return i >= 0 && n >= 0 && i <= lengths[shelf] && n <= lengths[shelf] - i;
        }

        static long lowest(int sort, long v) {
            switch (sort) {
                case BYTES: return (byte) v;
                case SHORTS: return (short) v;
                case INTS: return (int) v;
                case BOOLEANS: return v != 0 ? 1 : 0;
                default: return v;
            }
        }
    }

    /** Moods of kinds, and the bodies that their acts run. */
    private static final class Moods {
        static final int MOST_MOODS = 50, MOST_TRACED = 24;
        private static final int MOST_DEEP = 40;
        private static final int KINDS = 8, ACTS = 4;
        private static final int DRAWS = 0, MEETS = 1, SHUNS = 2, TELLS = 3;
        private static final int AUNT = 1, MARS = 2, SCENE = 3, LEEDS = 4, UNCLE = 5, RULE = 6, MUSTARD = 7;
        private static final int[] ABOVE = {-1, 0, 0, 2, 1, 3, 0, 4};
        // By kinds: the kind's own bodies of draws, meets, shuns, tells; 0: none.
        private static final int[] OWN = {
            1, 10, 11, 2,
            20, 0, 0, 0,
            0, 30, 0, 0,
            0, 41, 40, 0,
            0, 0, 50, 0,
            0, 0, 0, 60,
            70, 0, 0, 0,
            0, 80, 0, 81,
        };

        final int[] kinds;
        int size;
        final int[] traced;
        int ran;

        Moods() {
            kinds = new int[MOST_MOODS];
            traced = new int[MOST_TRACED];
        }

        static boolean isKind(int kind) {
            return kind >= 0 && kind < KINDS;
        }

        static boolean isUnder(int kind, int wanted) {
            int above = kind;
            for (int k = 0; k < KINDS && isKind(above); k++) {
                if (above == wanted) {
                    return true;
                }
                above = ABOVE[above];
            }
            return false;
        }

        boolean has(int number) {
            return number >= 0 && number < size;
        }

        int added(int kind) {
            if (size >= MOST_MOODS) {
                return FULL;
            }
            kinds[size] = kind;
            size++;
            return size - 1;
        }

        int acted(int number, int act, int x) {
            ran = 0;
            if (!has(number) || act < 0 || act >= ACTS) {
                return 0;
            }
            return own(number, act, x, 0);
        }

        /** The act as the mood's own kind does it. */
        private int own(int number, int act, int x, int depth) {
            return ranFrom(kinds[number], number, act, x, depth);
        }

        /** The act as the kind above the body's does it. */
        private int above(int kind, int number, int act, int x, int depth) {
            return ranFrom(ABOVE[kind], number, act, x, depth);
        }

        private int ranFrom(int kind, int number, int act, int x, int depth) {
            if (depth > MOST_DEEP) {
                return 0;
            }
            int code = codeFrom(kind, act);
            note(code);
            switch (act) {
                case DRAWS: return drawing(code, number, x, depth + 1);
                case MEETS: return meeting(code, number, x, depth + 1);
                case SHUNS: return shunning(code, number, x, depth + 1);
                default: return telling(code, number, x, depth + 1);
            }
        }

        private static int codeFrom(int kind, int act) {
            int above = kind;
            for (int k = 0; k < KINDS && isKind(above); k++) {
                int code = OWN[above * ACTS + act];
                if (code != 0) {
                    return code;
                }
                above = ABOVE[above];
            }
            return 0;
        }

        private void note(int code) {
            if (ran < MOST_TRACED) {
                traced[ran] = code;
            }
            ran++;
        }

        private int drawing(int code, int number, int x, int depth) {
            switch (code) {
                case 20: return above(AUNT, number, DRAWS, x, depth) + 3;
                case 70: return above(RULE, number, DRAWS, x, depth) * 2;
                default: return x + number;
            }
        }

        private int meeting(int code, int number, int x, int depth) {
            switch (code) {
                case 30: return -above(MARS, number, MEETS, x, depth);
                case 41: return above(SCENE, number, MEETS, x + 1, depth);
                case 80: return above(MUSTARD, number, MEETS, x, depth) + own(number, SHUNS, 2, depth);
                default: return own(number, DRAWS, x, depth) * 2;
            }
        }

        private int shunning(int code, int number, int x, int depth) {
            switch (code) {
                case 40: return above(SCENE, number, SHUNS, x, depth) * 3;
                case 50: return above(LEEDS, number, SHUNS, x, depth) - own(number, DRAWS, 2, depth);
                default: return x ^ number;
            }
        }

        private int telling(int code, int number, int x, int depth) {
            switch (code) {
                case 60: return above(UNCLE, number, TELLS, x, depth) ^ 5;
                case 81: return above(MUSTARD, number, TELLS, x, depth) - 1;
                default: return own(number, MEETS, x, depth) - own(number, SHUNS, 1, depth);
            }
        }
    }
}
