import java.util.function.IntBinaryOperator;

/** Part 5 of the Terms, SHELVES, REFUSALS, the order of answers; promises 38 to 47. */
final class EdgesOfShelves extends Edge {
    private static final int[][] ABOVE = {{0}, {1, 0}, {2, 0}, {3, 2, 0}, {4, 1, 0}, {5, 3, 2, 0}, {6, 0}, {7, 4, 1, 0}};
    private static final String[] KINDS = {"0 MOOD;", "1 AUNT under MOOD;", "2 MARS under MOOD;", "3 SCENE under MARS;",
        "4 LEEDS under AUNT;", "5 UNCLE under SCENE;", "6 RULE under MOOD;", "7 MUSTARD under LEEDS."};

    EdgesOfShelves(Sentences sentences) {
        super(sentences);
    }

    @Override
    void run() {
        plain(TERMS, "======== 5 ");
        for (String ahead : new String[] {"`orb`, `orbs`, `mend`, `of`, `feed`, `law` the interface says: ---- bodies in the sky "
            + "(ab: 10 times the one and the other, unlike).", "`at`, `apart`, `meets`, `often`, `together`, `start`, `mood`, "
            + "`best`, `sign`, `nudge`, `never`, `scene` the interface says: ---- by the clock.", "`later`, `pushes`, `met`, "
            + "`again`, `judge`, `liking`, `whose`, `byTurns`, `crowd`, `arc`, `drawn` the interface says: ---- pushed.",
            "`day`, `nudged`, `led`, `image`, `back`, `undo`, `redo` the interface says: ---- in deed.", "`body`, `act`, "
            + "`trace`, `keep`, `row`, `put`, `element`, `shift`, `taken`, `count` the interface says: ---- acts, shelves."}) {
            plain(TERMS, "Ahead of the calls " + ahead);
        }
        fiftyBodies();
        kinds();
        fourActs();
        bodiesOfActs();
        nextKindAbove();
        theTrace();
        first24();
        body();
        act();
        traceOf();
        sixShelves();
        rowsOfSorts();
        longestRows();
        zeroAtFirst();
        lowestBits();
        refusals();
        bodiesFromARow();
        firstNamed();
        allIsItsOwn();
        keep();
        row();
        put();
        element();
        shift();
        shiftRefused();
        taken();
        takenRefused();
        count();
        countBad();
        last512();
    }

    private void fiftyBodies() {
        test(TERMS, "MOODS' ways are kept by call as BODIES 0 .. 49 (of their own numbers),");
        OrbitsWed x = crowdOf(8, 5, 0);
        for (int number = 0; number < 50; number++) {
            due("not there yet, " + number, x.keep(0, number), BAD);
            due("its number", x.body(number % 8), number);
        }
        due("one more", x.body(0), FULL);
        due("its own numbers: eight in the sky", x.count(0), 8);
        due("fifty of acts", x.count(3), 50);
        due("the first one's number is added", x.act(0, 0, 100), 100);
        due("the last one, an AUNT, adds it, too", x.act(49, 0, 100), 152);
        due("there is no 50", x.keep(0, 50), BAD);
        due("no act of 50", x.act(50, 0, 100), 0);
    }

    private void kinds() {
        plain(TERMS, "of KINDS:");
        for (int kind = 0; kind < 8; kind++) {
            test(TERMS, KINDS[kind]);
            OrbitsWed x = moods();
            x.keep(0, kind);
            for (int k = 0; k < 8; k++) {
                boolean isUnder = false;
                for (int above : ABOVE[kind]) isUnder |= above == k;
                due(kind + " taken for " + k, x.taken(0, k), isUnder ? kind : OTHER);
            }
        }
    }

    private void fourActs() {
        test(TERMS, "ACTS with x (an int that wraps): 0 draws, 1 meets, 2 shuns, 3 tells; n its number.");
        OrbitsWed x = new OrbitsWed();
        x.body(1);
        x.body(0);
        due("draws: x + 1", x.act(1, 0, 7), 8);
        due("meets: twice that", x.act(1, 1, 7), 16);
        due("shuns: x ^ 1", x.act(1, 2, 7), 6);
        due("tells: 16 less 0", x.act(1, 3, 7), 16);
        due("draws wraps", x.act(1, 0, MAX), MIN);
        due("meets wraps", x.act(1, 1, MAX), 0);
        due("meets wraps below", x.act(1, 1, MIN), 2);
        due("shuns of the least int", x.act(1, 2, MIN), MIN + 1);
        due("tells wraps", x.act(1, 3, 1 << 30), MIN + 2);
        OrbitsWed y = moods();
        due("-meets wraps", y.act(2, 1, (1 << 30) - 2), MIN);
        due("x + 1 wraps", y.act(3, 1, MAX), -2 * (MIN + 3));
        due("times 3 wraps", y.act(3, 2, MIN), (MIN | 3) * 3);
        due("draws times 2 wraps", y.act(6, 0, MAX), (MAX + 6) * 2);
    }

    // The bodies of acts by kinds of their own: real classes answer what is due.
    private void bodiesOfActs() {
        IntBinaryOperator[] answers = new IntBinaryOperator[8];
        Model model = new Model();
        for (int kind = 0; kind < 8; kind++) model.body(kind);
        for (int kind = 0; kind < 8; kind++) {
            int number = kind;
            answers[kind] = (act, x) -> model.act(number, act, x);
        }
        String[] words = {"BODIES of acts: DRAWS (an interface of MOOD): 1 draws: x + n. MOOD: 10 meets: draws(x) * 2. "
            + "11 shuns: x ^ n. TELLS (of MOOD): 2 tells: meets(x) - shuns(1).", "AUNT: 20 draws: super.draws(x) + 3.",
            "MARS: 30 meets: -super.meets(x).", "SCENE: 40 shuns: super.shuns(x) * 3. 41 meets: super.meets(x + 1).",
            "LEEDS: 50 shuns: super.shuns(x) - draws(2).", "UNCLE: 60 tells: super.tells(x) ^ 5.",
            "RULE: 70 draws: super.draws(x) * 2.", "MUSTARD: 80 meets: super.meets(x) + shuns(2). 81 tells: super.tells(x) - 1."};
        for (int kind = 0; kind < 8; kind++) {
            test(TERMS, words[kind]);
            for (int act = 0; act < 4; act++) {
                for (int with : new int[] {0, 1, -1, 5, MAX, MIN, 1 << 30, -1799}) {
                    OrbitsWed x = moods();
                    due("kind " + kind + ", act " + act + " with " + with, x.act(kind, act, with), answers[kind].applyAsInt(act, with));
                    due("how many ran", x.count(4), Model.RAN.size());
                    for (int i = 0; i < Model.RAN.size(); i++) due("trace " + i, x.trace(i), Model.RAN.get(i));
                }
            }
        }
    }

    private void traceIs(OrbitsWed x, int body, int act, int... numbers) {
        x.act(body, act, 5);
        due("how many ran of " + body + ", act " + act, x.count(4), numbers.length);
        for (int i = 0; i < numbers.length; i++) due("trace " + i + " of " + body + ", act " + act, x.trace(i), numbers[i]);
        due("the one behind the last one", x.trace(numbers.length), BAD);
    }

    private void nextKindAbove() {
        test(TERMS, "draws(..) and so on: the body of its own KIND, or of the next KIND above that has one; "
            + "super: from the KIND above the body's on.");
        OrbitsWed x = moods();
        traceIs(x, 0, 0, 1);
        traceIs(x, 7, 0, 20, 1);
        traceIs(x, 5, 0, 1);
        traceIs(x, 5, 1, 41, 30, 10, 1);
        traceIs(x, 5, 2, 40, 11);
        traceIs(x, 4, 1, 10, 20, 1);
        traceIs(x, 7, 2, 50, 11, 20, 1);
    }

    private void theTrace() {
        test(TERMS, "THE TRACE: numbers of the bodies that ran in the latest act(), as they began;");
        OrbitsWed x = moods();
        due("ahead of all acts", x.trace(0), BAD);
        traceIs(x, 5, 3, 60, 2, 41, 30, 10, 1, 40, 11);
        traceIs(x, 0, 2, 11);
        x.body(0);
        x.keep(0, 0);
        due("it stays until the next act()", x.trace(0), 11);
    }

    // No act runs more than fourteen bodies: the 24 that are kept are never all taken.
    private void first24() {
        test(TERMS, "the first 24 are kept.");
        OrbitsWed x = moods();
        traceIs(x, 7, 3, 81, 2, 80, 10, 20, 1, 50, 11, 20, 1, 50, 11, 20, 1);
        due("the fourteenth", x.trace(13), 1);
        for (int i : new int[] {14, 23, 24, 25, MAX}) due("trace " + i, x.trace(i), BAD);
    }

    private void body() {
        test(38, "A MOOD of a KIND (0 .. 7) is kept: its number. BAD, FULL.");
        within("kinds", kind -> new OrbitsWed().body(kind), 0, 7, BAD);
        OrbitsWed x = new OrbitsWed();
        due("-1", x.body(-1), BAD);
        due("8", x.body(8), BAD);
        due("none by those", x.count(3), 0);
        for (int number = 0; number < 50; number++) due("body", x.body(7), number);
        due("the fifty-first", x.body(7), FULL);
        due("BAD ahead of FULL, -1", x.body(-1), BAD);
        due("BAD ahead of FULL, 8", x.body(8), BAD);
        due("fifty", x.count(3), 50);
    }

    private void act() {
        test(39, "An ACT (0 .. 3) of a MOOD with x. 0, and no TRACE then: no such MOOD, ACT.");
        OrbitsWed x = moods();
        int[][] wrong = {{-1, 0}, {8, 0}, {MIN, 0}, {MAX, 0}, {0, -1}, {7, 4}, {7, MIN}, {7, MAX}, {8, 4}};
        for (int[] call : wrong) {
            dueNot("an act", x.act(7, 3, 5), 0);
            due("its trace", x.trace(13), 1);
            due("act " + call[1] + " of " + call[0], x.act(call[0], call[1], 5), 0);
            due("none ran", x.count(4), 0);
            due("no trace", x.trace(0), BAD);
        }
        for (int act = 0; act <= 3; act++) {
            dueNot("act " + act + " of the first one", x.act(0, act, 9), 0);
            dueNot("act " + act + " of the last one", x.act(7, act, 9), 0);
        }
        due("nobody", new OrbitsWed().act(0, 0, 5), 0);
        due("an act that answers 0 has a trace", x.act(0, 0, 0) + x.count(4), 1);
    }

    private void traceOf() {
        test(40, "THE TRACE's i-th body. BAD.");
        OrbitsWed x = moods();
        x.act(7, 3, 5);
        within("trace", i -> x.trace(i), 0, 13, BAD);
        due("the first one", x.trace(0), 81);
        due("the last one", x.trace(13), 1);
        due("the first one of none", new OrbitsWed().trace(0), BAD);
    }

    private void sixShelves() {
        test(TERMS, "SHELVES 0 .. 5 each hold nothing (at first), a MOOD (a BODY of acts), or a ROW:");
        for (int shelf = 0; shelf <= 5; shelf++) due("at first, shelf " + shelf, new OrbitsWed().taken(shelf, 0), NOTHING);
        within("taken", shelf -> new OrbitsWed().taken(shelf, 0), 0, 5, BAD);
        OrbitsWed x = moods();
        for (int shelf = 0; shelf <= 5; shelf++) {
            rowOf(x, shelf, LONGS, shelf + 100);
            for (int other = 0; other < shelf; other++) due("not on shelf " + other, x.element(other, 0), other + 100);
        }
        x.keep(0, 7);
        due("a mood on the first one", x.taken(0, 7), 7);
        due("a row on the last one", x.element(5, 0), 105);
        x.keep(5, -1);
        due("nothing on the last one", x.element(5, 0), NO_LONG);
        due("the one ahead of it", x.element(4, 0), 104);
        due("the first one still", x.taken(0, 0), 7);
    }

    private void rowsOfSorts() {
        test(TERMS, "of 0 bytes, 1 shorts, 2 ints, 3 longs, 4 booleans,");
        within("sorts", sort -> new OrbitsWed().row(0, sort, 1), 0, 4, BAD);
        long[] kept = {-1, -1, -1, -1, 1};
        for (int sort = BYTES; sort <= BOOLEANS; sort++) {
            due("sort " + sort, rowOf(new OrbitsWed(), 0, sort, -1).element(0, 0), kept[sort]);
        }
        due("bytes alone make a book", rowOf(sky(5, 0), 0, BYTES, 1).judge(0, 0), NOT);
    }

    private void longestRows() {
        test(TERMS, "of 0 .. 60 elements,");
        for (int sort = BYTES; sort <= BOOLEANS; sort++) {
            int of = sort;
            due("61 of sort " + sort, new OrbitsWed().row(0, sort, 61), BAD);
            due("-1 of sort " + sort, new OrbitsWed().row(0, sort, -1), BELOW_0);
            OrbitsWed x = new OrbitsWed();
            due("0 of sort " + sort, x.row(0, of, 0), 1);
            due("its first place", x.put(0, 0, 1), NO_PLACE);
            due("60 of sort " + sort, x.row(0, of, 60), 1);
            due("its last place", x.put(0, 59, 1), 1);
            due("behind it", x.put(0, 60, 1), NO_PLACE);
        }
        due("the least int", new OrbitsWed().row(0, LONGS, MIN), BELOW_0);
        due("the greatest int", new OrbitsWed().row(0, LONGS, MAX), BAD);
    }

    private void zeroAtFirst() {
        test(TERMS, "0 at first (false);");
        for (int sort = BYTES; sort <= BOOLEANS; sort++) {
            OrbitsWed x = new OrbitsWed();
            x.row(0, sort, 60);
            for (int i = 0; i < 60; i++) due("element " + i + " of sort " + sort, x.element(0, i), 0);
            x.put(0, 0, 1);
            x.put(0, 59, 1);
            x.row(0, sort, 60);
            due("the first one of a new row", x.element(0, 0), 0);
            due("the last one of a new row", x.element(0, 59), 0);
        }
    }

    private void kept(int sort, long v, long kept) {
        OrbitsWed x = new OrbitsWed();
        x.row(0, sort, 1);
        due("put", x.put(0, 0, v), 1);
        due(v + " in a row of sort " + sort, x.element(0, 0), kept);
    }

    private void lowestBits() {
        test(TERMS, "what is put in keeps its lowest bits (a boolean: whether it is not 0; 1 or 0).");
        long[][] kept = {{BYTES, 127, 127}, {BYTES, 128, -128}, {BYTES, -128, -128}, {BYTES, -129, 127}, {BYTES, 255, -1},
            {BYTES, 256, 0}, {BYTES, Long.MAX_VALUE, -1}, {BYTES, Long.MIN_VALUE, 0}, {SHORTS, 32767, 32767},
            {SHORTS, 32768, -32768}, {SHORTS, -32768, -32768}, {SHORTS, -32769, 32767}, {SHORTS, 65536, 0},
            {INTS, MAX, MAX}, {INTS, MAX + 1L, MIN}, {INTS, MIN, MIN}, {INTS, MIN - 1L, MAX}, {INTS, 1L << 32, 0},
            {LONGS, Long.MAX_VALUE, Long.MAX_VALUE}, {LONGS, Long.MIN_VALUE, Long.MIN_VALUE}, {LONGS, 1L << 32, 1L << 32},
            {BOOLEANS, 0, 0}, {BOOLEANS, 1, 1}, {BOOLEANS, 2, 1}, {BOOLEANS, -1, 1}, {BOOLEANS, 256, 1}, {BOOLEANS, 1L << 32, 1},
            {BOOLEANS, Long.MIN_VALUE, 1}};
        for (long[] one : kept) kept((int) one[0], one[1], one[2]);
    }

    private void refusals() {
        test(TERMS, "The host's REFUSALS: -11 nothing is there where something is wanted; -12 it is of another kind; "
            + "-13 a place that is not there; -14 a size below 0.");
        OrbitsWed x = shelves();
        due("another kind", x.put(0, 0, 1), OTHER);
        due("a place behind the last one", x.put(1, 3, 1), NO_PLACE);
        due("a place below 0", x.put(1, -1, 1), NO_PLACE);
        due("a size below 0", x.row(1, BYTES, -1), BELOW_0);
        due("size 0", x.row(1, BYTES, 0), 1);
        x.keep(0, -1);
        due("nothing", x.put(0, 0, 1), NOTHING);
    }

    private static OrbitsWed threes(long... values) {
        return rowOf(new OrbitsWed(), 0, BYTES, values);
    }

    private void bodiesFromARow() {
        test(TERMS, "BODIES FROM A ROW of bytes, from a place on: by threes ROUND, PLACE, WEIGHT: n of them; it ends where the row "
            + "is missing, ends (within a three, too), one is not so, or BODIES are FULL: those ahead came.");
        due("the row is missing", new OrbitsWed().orbs(0, 0, 8), 0);
        due("an empty row", threes().orbs(0, 0, 8), 0);
        due("it ends within the first three", threes(5).orbs(0, 0, 8), 0);
        due("it ends within the first three, one left", threes(5, 0).orbs(0, 0, 8), 0);
        due("a whole three", threes(5, 0, 1).orbs(0, 0, 8), 1);
        due("it ends within the second three", threes(5, 0, 1, 5).orbs(0, 0, 8), 1);
        due("it ends within the second three, one left", threes(5, 0, 1, 5, 0).orbs(0, 0, 8), 1);
        due("two threes", threes(5, 0, 1, 5, 0, 1).orbs(0, 0, 8), 2);
        due("from the last three on", threes(5, 0, 1, 5, 0, 1).orbs(0, 3, 8), 1);
        due("from its end on", threes(5, 0, 1, 5, 0, 1).orbs(0, 6, 8), 0);
        due("from within the last three on", threes(5, 0, 1, 5, 0, 1).orbs(0, 4, 8), 0);
        due("from place 1 on: 3, 1, 5", threes(5, 3, 1, 5).orbs(0, 1, 8), 1);
        due("from below 0 on", threes(5, 0, 1).orbs(0, -1, 8), 0);
        due("from a three below 0 on", threes(5, 0, 1).orbs(0, -3, 8), 0);
        due("from the least int on", threes(5, 0, 1).orbs(0, MIN, 8), 0);
        due("from the greatest int on", threes(5, 0, 1).orbs(0, MAX, 8), 0);
        due("from the greatest int less 2 on", threes(5, 0, 1).orbs(0, MAX - 2, 8), 0);
        due("the second round is 0", threes(5, 0, 1, 0, 0, 1, 5, 0, 1).orbs(0, 0, 8), 1);
        due("the second round is 61", threes(5, 0, 1, 61, 0, 1, 5, 0, 1).orbs(0, 0, 8), 1);
        due("the second place is its round", threes(5, 0, 1, 5, 5, 1, 5, 0, 1).orbs(0, 0, 8), 1);
        due("the second place is -1", threes(5, 0, 1, 5, -1, 1, 5, 0, 1).orbs(0, 0, 8), 1);
        due("the second weight is 10", threes(5, 0, 1, 5, 0, 10, 5, 0, 1).orbs(0, 0, 8), 1);
        due("the second weight is -1", threes(5, 0, 1, 5, 0, -1, 5, 0, 1).orbs(0, 0, 8), 1);
        due("the least and the greatest numbers", threes(1, 0, 0, 60, 59, 9, 60, 0, 9).orbs(0, 0, 8), 3);
        OrbitsWed x = threes(5, 0, 1, 6, 5, 9, 7, 0, 10);
        for (int one = 0; one < 7; one++) x.orb(9, 0);
        due("room for one", x.orbs(0, 0, 2), 1);
        due("the one ahead came", x.of(7, ROUND), 5);
        due("no room", x.orbs(0, 0, 2), 0);
        due("eight", x.count(0), 8);
    }

    private void firstNamed() {
        test(TERMS, "Answers, of several the one named first: BAD (-1): no such number, or it is not as said; NOT (-2): as told; "
            + "FULL (-3); STATE (-5): as told; -11 to -14. VOID is -2000000000.");
        due("BAD", OrbitsWed.BAD, -1);
        due("NOT", OrbitsWed.NOT, -2);
        due("FULL", OrbitsWed.FULL, -3);
        due("STATE", OrbitsWed.STATE, -5);
        due("VOID", OrbitsWed.VOID, -2000000000);
        OrbitsWed x = shelves();
        due("BAD ahead of -14", x.row(6, BYTES, -1), BAD);
        due("BAD ahead of -11", x.whose(-1), BAD);
        due("-12 ahead of -13", x.put(0, -1, 1), OTHER);
        x.keep(0, -1);
        due("-11 ahead of -13", x.put(0, -1, 1), NOTHING);
    }

    private void allIsItsOwn() {
        test(TERMS, "All memory is the class's own.");
        OrbitsWed x = shelves(), y = new OrbitsWed();
        x.orb(5, 0);
        x.mend(0, NEAR, 90);
        x.feed('1');
        x.day();
        x.image();
        due("bodies of another object", y.count(0), 0);
        due("its near", y.of(0, NEAR), 10);
        due("its tape", y.count(1), 0);
        due("its changes", y.count(2), 0);
        due("its moods", y.count(3), 0);
        due("its days", y.led(0), 0);
        due("its image", y.back(), STATE);
        due("its shelves", y.element(1, 0), NO_LONG);
    }

    private void keep() {
        test(41, "A SHELF holds nothing (body -1), or a MOOD: 1. BAD.");
        within("shelves", shelf -> moods().keep(shelf, 0), 0, 5, BAD);
        within("shelves, nothing", shelf -> moods().keep(shelf, -1), 0, 5, BAD);
        within("bodies", body -> moods().keep(0, body), -1, 7, BAD);
        within("bodies of none", body -> new OrbitsWed().keep(0, body), -1, -1, BAD);
        OrbitsWed x = moods();
        due("the last one", x.keep(5, 7), 1);
        due("is there", x.taken(5, 7), 7);
        due("the first one in its stead", x.keep(5, 0), 1);
        due("is there", x.taken(5, 0), 0);
        due("one that is not there", x.keep(5, 8), BAD);
        due("the first one still", x.taken(5, 0), 0);
        due("nothing", x.keep(5, -1), 1);
        due("is there", x.taken(5, 0), NOTHING);
        due("nothing once more", x.keep(5, -1), 1);
        x.row(5, BYTES, 1);
        due("a mood in a row's stead", x.keep(5, 2), 1);
        due("is there", x.taken(5, 2), 2);
        x.row(5, BYTES, 1);
        due("nothing in a row's stead", x.keep(5, -1), 1);
        due("the row is gone", x.element(5, 0), NO_LONG);
    }

    private void row() {
        test(42, "A SHELF holds a ROW: 1. BAD (sort, n above 60); -14.");
        within("shelves", shelf -> new OrbitsWed().row(shelf, BYTES, 1), 0, 5, BAD);
        within("sorts", sort -> new OrbitsWed().row(0, sort, 60), 0, 4, BAD);
        for (int n : new int[] {-1, -2, MIN}) due(n + " elements", new OrbitsWed().row(0, BYTES, n), BELOW_0);
        for (int n : new int[] {61, 62, MAX}) due(n + " elements", new OrbitsWed().row(0, BYTES, n), BAD);
        due("BAD ahead of -14, the sort", new OrbitsWed().row(0, 5, -1), BAD);
        due("BAD ahead of -14, the sort below 0", new OrbitsWed().row(0, -1, -1), BAD);
        due("BAD ahead of -14, the shelf", new OrbitsWed().row(6, BYTES, -1), BAD);
        OrbitsWed x = shelves();
        x.row(1, BYTES, 61);
        x.row(1, 5, 3);
        x.row(1, BYTES, -1);
        due("the row ahead of those", x.element(1, 2), 1);
        due("a row in a mood's stead", x.row(0, INTS, 2), 1);
        due("is there", x.element(0, 1), 0);
        due("a shorter one", x.row(1, BYTES, 2), 1);
        due("behind its end", x.element(1, 2), NO_LONG);
        due("of another sort", x.row(2, BOOLEANS, 1), 1);
        due("by its sort", x.put(2, 0, 7) + x.element(2, 0), 2);
    }

    private void put() {
        test(43, "Element i of a ROW becomes v: 1. BAD, -11, -12, -13.");
        within("shelves", shelf -> shelves().put(shelf, 0, 1), 0, 5, BAD);
        OrbitsWed x = shelves();
        for (int shelf = 1; shelf <= 5; shelf++) {
            int of = shelf;
            within("places of shelf " + shelf, i -> x.put(of, i, 1), 0, 2, NO_PLACE);
            due("the one between", x.element(shelf, 1), 0);
            due("the last one", x.put(shelf, 2, 0), 1);
            due("becomes 0", x.element(shelf, 2), 0);
        }
        due("a mood", x.put(0, 0, 1), OTHER);
        due("-12 ahead of -13", x.put(0, -1, 1), OTHER);
        x.keep(0, -1);
        due("nothing", x.put(0, 0, 1), NOTHING);
        due("-11 ahead of -13", x.put(0, 60, 1), NOTHING);
        due("BAD ahead of -13", x.put(6, -1, 1), BAD);
    }

    private void element() {
        test(44, "Element i of a ROW; Long.MIN_VALUE: BAD, -11 to -13.");
        within("shelves", shelf -> rowOf(new OrbitsWed(), Math.floorMod(shelf, 6), BYTES, 1).element(shelf, 0), 0, 5, NO_LONG);
        OrbitsWed x = shelves();
        for (int shelf = 1; shelf <= 5; shelf++) {
            int of = shelf;
            within("places of shelf " + shelf, i -> x.element(of, i), 0, 2, NO_LONG);
            due("the first one", x.element(shelf, 0), 1);
            due("the last one", x.element(shelf, 2), 1);
        }
        due("a mood", x.element(0, 0), NO_LONG);
        x.keep(0, -1);
        due("nothing", x.element(0, 0), NO_LONG);
        due("-11 itself may be one", rowOf(x, 0, LONGS, -11).element(0, 0), -11);
        due("an empty row", rowOf(x, 0, LONGS).element(0, 0), NO_LONG);
    }

    // Of a row of 0 to 59, what is there behind a shift on the row itself.
    private void shifted(int sort, int i, int j, int n) {
        OrbitsWed x = new OrbitsWed();
        x.row(0, sort, 60);
        for (int k = 0; k < 60; k++) x.put(0, k, k);
        due("shift of " + n + " from " + i + " to " + j, x.shift(0, i, 0, j, n), n);
        for (int k = 0; k < 60; k++) due("element " + k, x.element(0, k), k >= j && k < j + n ? k - j + i : k);
    }

    private void shift() {
        test(45, "n elements of a ROW from i on come to another one (or the same) from j on, as they all were before: n.");
        shifted(BYTES, 0, 1, 59);
        shifted(SHORTS, 1, 0, 59);
        shifted(INTS, 0, 0, 60);
        shifted(LONGS, 10, 20, 30);
        shifted(LONGS, 20, 10, 30);
        shifted(BYTES, 59, 0, 1);
        shifted(BYTES, 0, 59, 1);
        shifted(BYTES, 60, 60, 0);
        for (int sort = BYTES; sort <= BOOLEANS; sort++) {
            OrbitsWed x = rowOf(rowOf(new OrbitsWed(), 0, sort, 1, 1, 1), 5, sort, 0, 0, 0, 0);
            due("two to another one", x.shift(0, 1, 5, 2, 2), 2);
            for (int k = 0; k < 4; k++) due("element " + k, x.element(5, k), k >= 2 ? 1 : 0);
            due("all to another one", x.shift(0, 0, 5, 0, 3), 3);
            due("the first one there", x.element(5, 0), 1);
            due("none from the end on", x.shift(0, 3, 5, 4, 0), 0);
            due("the row itself stays", x.element(0, 0), 1);
        }
        due("none of an empty row", rowOf(new OrbitsWed(), 0, INTS).shift(0, 0, 0, 0, 0), 0);
    }

    private void shiftRefused() {
        test(45, "BAD, -11 (either), -12 (no ROWS, or of unlike sorts), -13.");
        within("shelves", shelf -> shelves().shift(shelf, 0, 1, 0, 0), 0, 5, BAD);
        within("other shelves", shelf -> shelves().shift(1, 0, shelf, 0, 0), 0, 5, BAD);
        OrbitsWed x = rowOf(shelves(), 1, INTS, 1, 2, 3);
        int[][] places = {{-1, 0, 1}, {0, -1, 1}, {3, 0, 1}, {0, 3, 1}, {1, 0, 3}, {0, 1, 3}, {0, 0, 4}, {4, 0, 0}, {0, 4, 0},
            {0, 0, -1}, {0, 0, MIN}, {0, 0, MAX}, {MAX, 0, 1}, {0, MAX, 1}, {MIN, 0, 1}, {0, MIN, 1}, {1, 1, MAX}, {MAX, MAX, MAX},
            {-1, -1, 2}, {-1, 0, 0}, {3, 3, -1}};
        for (int[] place : places) {
            due("shift of " + place[2] + " from " + place[0] + " to " + place[1], x.shift(3, place[0], 1, place[1], place[2]), NO_PLACE);
        }
        due("nothing came", x.element(1, 0) * 100 + x.element(1, 1) * 10 + x.element(1, 2), 123);
        for (int a = 1; a <= 5; a++) {
            for (int b = 1; b <= 5; b++) {
                boolean alike = a == b || (a == 1 && b == 3) || (a == 3 && b == 1);
                due("sorts of " + a + " and " + b, x.shift(a, 0, b, 0, 1), alike ? 1 : OTHER);
            }
            due("from a mood to " + a, x.shift(0, 0, a, 0, 1), OTHER);
            due("from " + a + " to a mood", x.shift(a, 0, 0, 0, 1), OTHER);
        }
        due("a mood to itself", x.shift(0, 0, 0, 0, 0), OTHER);
        for (int sort = BYTES; sort <= BOOLEANS; sort++) {
            OrbitsWed y = rowOf(rowOf(moods(), 0, sort, 1, 2), 1, sort, 3, 4);
            y.keep(0, 0);
            due("from a mood in a row's stead", y.shift(0, 0, 1, 0, 1), OTHER);
            due("to a mood in a row's stead", y.shift(1, 0, 0, 0, 1), OTHER);
        }
        due("-12 ahead of -13, a mood", x.shift(0, -1, 1, 0, 1), OTHER);
        due("-12 ahead of -13, unlike sorts", x.shift(1, -1, 2, 0, -1), OTHER);
        x.keep(4, -1);
        due("-11, from nothing", x.shift(4, 0, 1, 0, 1), NOTHING);
        due("-11, to nothing", x.shift(1, 0, 4, 0, 1), NOTHING);
        due("-11, nothing to itself", x.shift(4, 0, 4, 0, 0), NOTHING);
        due("-11 ahead of -12, a mood to nothing", x.shift(0, 0, 4, 0, 1), NOTHING);
        due("-11 ahead of -12, nothing to a mood", x.shift(4, 0, 0, 0, 1), NOTHING);
        due("-11 ahead of -13", x.shift(4, -1, 1, 0, -1), NOTHING);
        due("BAD ahead of -11, the other one", x.shift(4, 0, 6, 0, 1), BAD);
        due("BAD ahead of -11, the one", x.shift(-1, 0, 4, 0, 1), BAD);
        due("BAD ahead of -12", x.shift(0, 0, -1, 0, 1), BAD);
        due("BAD ahead of -13", x.shift(6, -1, 1, -1, -1), BAD);
    }

    private void taken() {
        test(46, "What a SHELF holds, taken for a MOOD of KIND k (0 .. 7), or under it: its KIND.");
        within("kinds", k -> rowOf(new OrbitsWed(), 0, BYTES).taken(0, k), 0, 7, BAD);
        OrbitsWed x = moods();
        x.keep(0, 7);
        due("MUSTARD for MOOD", x.taken(0, 0), 7);
        due("MUSTARD for LEEDS", x.taken(0, 4), 7);
        due("MUSTARD for itself", x.taken(0, 7), 7);
        x.keep(0, 0);
        due("MOOD for MOOD", x.taken(0, 0), 0);
        due("MOOD for what is under it", x.taken(0, 7), OTHER);
        x.keep(0, 5);
        due("UNCLE for MARS", x.taken(0, 2), 5);
        due("UNCLE for AUNT", x.taken(0, 1), OTHER);
    }

    private void takenRefused() {
        test(46, "BAD, -11, -12.");
        within("shelves", shelf -> shelves().taken(shelf, 0), 0, 5, BAD);
        OrbitsWed x = shelves();
        due("a row", x.taken(1, 0), OTHER);
        due("BAD ahead of -12, a row", x.taken(1, 8), BAD);
        due("a mood of another kind", x.taken(0, 4), OTHER);
        due("BAD ahead of -12, a mood", x.taken(0, -1), BAD);
        x.keep(0, -1);
        due("nothing", x.taken(0, 0), NOTHING);
        due("BAD ahead of -11", x.taken(0, 8), BAD);
        due("BAD, the shelf", x.taken(6, 8), BAD);
    }

    private void count() {
        test(47, "How many: 0 BODIES in the sky, 1 bytes on THE TAPE, 2 changes that may be UNDONE, 3 BODIES of acts, "
            + "4 bodies that ran in the latest act() (all, kept or not).");
        OrbitsWed x = moods();
        due("no bodies yet", x.count(0), 0);
        for (int one = 1; one <= 8; one++) due("a body, then how many", x.orb(5, 0) + x.count(0), 2 * one - 1);
        x.orb(5, 0);
        due("eight", x.count(0), 8);
        x.feed('x');
        x.feed(256);
        due("a byte", x.count(1), 1);
        x.law();
        due("none behind law()", x.count(1), 0);
        x.mend(0, NEAR, 90);
        x.mend(0, NEAR, 90);
        x.mend(0, NEAR, 91);
        due("a change", x.count(2), 1);
        x.undo();
        due("none behind undo()", x.count(2), 0);
        x.redo();
        due("one behind redo()", x.count(2), 1);
        due("eight of acts", x.count(3), 8);
        x.act(7, 3, 5);
        due("fourteen ran", x.count(4), 14);
        x.act(0, 0, 5);
        due("one ran in the latest one", x.count(4), 1);
        x.act(0, 4, 5);
        due("none ran", x.count(4), 0);
    }

    private void countBad() {
        test(47, "BAD.");
        within("whats", what -> new OrbitsWed().count(what), 0, 4, BAD);
    }

    // Behind 511 calls the 512th one is answered as ever.
    private void last512() {
        test(Sentences.CALLS, "is used for at most 512 calls after it has been made; what later calls answer is free.");
        OrbitsWed x = sky(60, 0);
        for (int call = 2; call <= 511; call++) x.day();
        due("510 days: 30 by 60", x.of(0, PLACE), 30);
        OrbitsWed y = new OrbitsWed();
        for (int call = 1; call <= 511; call++) y.mend(0, NEAR, call % 2 == 0 ? 10 : 90);
        due("still 39 of 511 changes", y.undo(), 39);
    }
}
