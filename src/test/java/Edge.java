import java.util.function.IntToLongFunction;

/** What the tests of the document's edges have in common: skies, rows, texts, and ranges tried at both ends. */
abstract class Edge {
    static final int BAD = -1, NOT = -2, FULL = -3, STATE = -5, VOID = -2000000000;
    static final int NOTHING = -11, OTHER = -12, NO_PLACE = -13, BELOW_0 = -14;
    static final int BYTES = 0, SHORTS = 1, INTS = 2, LONGS = 3, BOOLEANS = 4;
    static final int PLACE = 0, WEIGHT = 1, LIKES = 2, NEAR = 3, ROUND = 4;
    static final int TERMS = Sentences.TERMS;
    static final int MIN = Integer.MIN_VALUE, MAX = Integer.MAX_VALUE;
    static final long NO_LONG = Long.MIN_VALUE;

    private final Sentences sentences;

    Edge(Sentences sentences) {
        this.sentences = sentences;
    }

    abstract void run();

    final void test(int part, String words) {
        sentences.test(part, words);
    }

    final void plain(int part, String words) {
        sentences.plain(part, words);
    }

    final void due(String call, long got, long want) {
        sentences.due(call, got, want);
    }

    final void dueNot(String call, long got, long refusal) {
        sentences.dueNot(call, got, refusal);
    }

    /** Just below and just above the range, and far from it, the call is refused; at both its ends it is not. */
    final void within(String call, IntToLongFunction f, int least, int most, long refusal) {
        due(call + " of " + (least - 1), f.applyAsLong(least - 1), refusal);
        due(call + " of " + (most + 1), f.applyAsLong(most + 1), refusal);
        due(call + " of the least int", f.applyAsLong(MIN), refusal);
        due(call + " of the greatest int", f.applyAsLong(MAX), refusal);
        dueNot(call + " of " + least, f.applyAsLong(least), refusal);
        dueNot(call + " of " + most, f.applyAsLong(most), refusal);
    }

    /** Of eight bodies, all numbers around the pairs: refused, but those of one and another one. */
    final void pairs(String call, IntToLongFunction f, long refusal) {
        for (int ab = -20; ab <= 110; ab++) {
            boolean isPair = ab >= 0 && ab / 10 <= 7 && ab % 10 <= 7 && ab / 10 != ab % 10;
            if (isPair) dueNot(call + " of " + ab, f.applyAsLong(ab), refusal);
            else due(call + " of " + ab, f.applyAsLong(ab), refusal);
        }
        for (int ab : new int[] {MIN, MAX, -77, 1 << 30}) due(call + " of " + ab, f.applyAsLong(ab), refusal);
    }

    static OrbitsWed sky(int... roundsAndPlaces) {
        OrbitsWed x = new OrbitsWed();
        for (int i = 0; i < roundsAndPlaces.length; i += 2) x.orb(roundsAndPlaces[i], roundsAndPlaces[i + 1]);
        return x;
    }

    /** So many bodies of one round, all at one place. */
    static OrbitsWed crowdOf(int bodies, int round, int place) {
        OrbitsWed x = new OrbitsWed();
        for (int one = 0; one < bodies; one++) x.orb(round, place);
        return x;
    }

    static OrbitsWed rowOf(OrbitsWed x, int shelf, int sort, long... values) {
        x.row(shelf, sort, values.length);
        for (int i = 0; i < values.length; i++) x.put(shelf, i, values[i]);
        return x;
    }

    static OrbitsWed fed(OrbitsWed x, String text) {
        for (int i = 0; i < text.length(); i++) x.feed(text.charAt(i));
        return x;
    }

    static int lawOf(OrbitsWed x, String text) {
        return fed(x, text).law();
    }

    static OrbitsWed ruled(OrbitsWed x, String text) {
        if (lawOf(x, text) != 1) throw new IllegalStateException("no text: " + text);
        return x;
    }

    /** A mood of each kind, numbered as the kinds are. */
    static OrbitsWed moods() {
        OrbitsWed x = new OrbitsWed();
        for (int kind = 0; kind < 8; kind++) x.body(kind);
        return x;
    }

    /** Shelf 0 a mood, 1 to 5 rows of bytes, shorts, ints, longs, booleans, each of three elements 1, 0, 1. */
    static OrbitsWed shelves() {
        OrbitsWed x = moods();
        x.keep(0, 3);
        for (int sort = BYTES; sort <= BOOLEANS; sort++) rowOf(x, sort + 1, sort, 1, 0, 1);
        return x;
    }
}
