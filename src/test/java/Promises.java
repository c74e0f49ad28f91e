/** For each promise of the document: ordinary calls, its edges, wrong calls; the answers are worked out by hand. */
public final class Promises {
    private static final int BAD = -1, NOT = -2, FULL = -3, STATE = -5, VOID = -2000000000;
    private static final int BYTES = 0, SHORTS = 1, INTS = 2, LONGS = 3, BOOLEANS = 4;
    private static final int PLACE = 0, WEIGHT = 1, LIKES = 2, NEAR = 3, ROUND = 4;

    private static int promise;
    private static int checks;
    private static int wrong;

    public static void main(String[] arguments) {
        newObject();
        orb();
        orbs();
        mend();
        of();
        feed();
        lawFaults();
        lawValues();
        at();
        apart();
        meets();
        often();
        together();
        start();
        mood();
        best();
        sign();
        nudge();
        never();
        scene();
        later();
        pushes();
        met();
        again();
        judge();
        liking();
        whose();
        byTurns();
        crowd();
        arc();
        drawn();
        day();
        nudged();
        led();
        image();
        back();
        undo();
        redo();
        body();
        act();
        trace();
        keep();
        row();
        put();
        element();
        shift();
        taken();
        count();
        System.out.println(checks + " checks of promises, " + wrong + " wrong");
        if (wrong != 0) System.exit(1);
    }

    private static void due(String what, long got, long want) {
        checks++;
        if (got != want) {
            wrong++;
            System.out.println("promise " + promise + ": " + what + " answered " + got + ", due is " + want);
        }
    }

    private static OrbitsWed sky(int... roundsAndPlaces) {
        OrbitsWed x = new OrbitsWed();
        for (int i = 0; i < roundsAndPlaces.length; i += 2) x.orb(roundsAndPlaces[i], roundsAndPlaces[i + 1]);
        return x;
    }

    private static void rowOf(OrbitsWed x, int shelf, int sort, long... values) {
        x.row(shelf, sort, values.length);
        for (int i = 0; i < values.length; i++) x.put(shelf, i, values[i]);
    }

    private static int lawOf(OrbitsWed x, String text) {
        for (int i = 0; i < text.length(); i++) x.feed(text.charAt(i));
        return x.law();
    }

    // Two that stand together now, the one likes the other by 2: pushed apart at once.
    private static OrbitsWed parting() {
        OrbitsWed x = sky(10, 0, 10, 0);
        x.mend(1, LIKES, 2);
        return x;
    }

    private static OrbitsWed moods() {
        OrbitsWed x = new OrbitsWed();
        for (int kind = 0; kind < 8; kind++) x.body(kind);
        return x;
    }

    private static void newObject() {
        promise = 1;
        OrbitsWed x = new OrbitsWed();
        for (int what = 0; what < 5; what++) due("count " + what, x.count(what), 0);
        for (int what = 0; what < 4; what++) due("led " + what, x.led(what), 0);
        due("near", x.of(0, NEAR), 10);
        due("back", x.back(), STATE);
        due("undo", x.undo(), STATE);
        due("redo", x.redo(), STATE);
        for (int shelf = 0; shelf < 6; shelf++) due("shelf " + shelf, x.put(shelf, 0, 1), -11);
        OrbitsWed y = sky(7, 1);
        due("another object", x.count(0), 0);
        due("its own", y.count(0), 1);
    }

    private static void orb() {
        promise = 2;
        OrbitsWed x = new OrbitsWed();
        due("round 0", x.orb(0, 0), BAD);
        due("round 61", x.orb(61, 0), BAD);
        due("round below 0", x.orb(Integer.MIN_VALUE, 0), BAD);
        due("place -1", x.orb(5, -1), BAD);
        due("place as the round", x.orb(5, 5), BAD);
        due("nothing came", x.count(0), 0);
        due("least round", x.orb(1, 0), 0);
        due("greatest round", x.orb(60, 59), 1);
        for (int i = 2; i < 8; i++) due("body " + i, x.orb(i, i - 1), i);
        due("a ninth", x.orb(5, 0), FULL);
        due("a ninth, wrong", x.orb(0, 0), BAD);
        due("weight at first", x.of(7, WEIGHT), 1);
        due("likes at first", x.of(17, LIKES), 0);
        due("its round", x.of(7, ROUND), 7);
    }

    private static void orbs() {
        promise = 3;
        OrbitsWed x = new OrbitsWed();
        due("missing row", x.orbs(0, 0, 3), 0);
        rowOf(x, 0, BYTES, 6, 1, 2, 9, 4, 0, 15, 0);
        due("ends within a three", x.orbs(0, 0, 3), 2);
        due("round", x.of(0, ROUND), 6);
        due("place", x.of(1, PLACE), 4);
        due("weights", 10 * x.of(0, WEIGHT) + x.of(1, WEIGHT), 20);
        OrbitsWed y = new OrbitsWed();
        rowOf(y, 5, BYTES, 7, 6, 9, 8, 7, 0);
        due("no more than wanted", y.orbs(5, 0, 1), 1);
        due("up to its very end", y.orbs(5, 0, 8), 2);
        due("from a place on", x.orbs(0, 3, 1), 1);
        due("that one", x.of(2, ROUND), 9);
        due("behind its end", x.orbs(0, 8, 1), 0);
        due("far behind its end", x.orbs(0, Integer.MAX_VALUE, 8), 0);
        due("a place below 0", x.orbs(0, -1, 1), 0);
        due("a three below 0", x.orbs(0, -3, 8), 0);
        due("far below 0", x.orbs(0, Integer.MIN_VALUE, 8), 0);
        due("below 0, the row is missing", x.orbs(4, -1, 1), 0);
        due("below 0, none of them", x.orbs(4, -1, 0), BAD);
        due("below 0, no shelf", x.orbs(6, -1, 1), BAD);
        due("none came from below 0", x.count(0), 3);
        due("none of them", x.orbs(0, 0, 0), BAD);
        due("nine of them", x.orbs(0, 0, 9), BAD);
        due("no shelf", x.orbs(6, 0, 1), BAD);
        due("no shelf below", x.orbs(-1, 0, 1), BAD);
        rowOf(x, 1, SHORTS, 6, 1, 2);
        due("shorts", x.orbs(1, 0, 1), -12);
        due("shorts from below 0", x.orbs(1, -1, 1), -12);
        due("nine of shorts", x.orbs(1, 0, 9), BAD);
        x.keep(2, x.body(0));
        due("a mood", x.orbs(2, 0, 1), -12);
        due("a mood from below 0", x.orbs(2, -1, 1), -12);
        rowOf(x, 3, BYTES, 5, 0, 9, 5, 0, 10, 5, 0, 1);
        due("weight 10 ends it", x.orbs(3, 0, 3), 1);
        rowOf(x, 3, BYTES, 5, 5, 1, 61, 0, 1, 5, 0, -1);
        for (int i = 0; i < 9; i += 3) due("one not so at " + i, x.orbs(3, i, 1), 0);
        rowOf(x, 3, BYTES, 1, 0, 0, 2, 0, 0, 3, 0, 0, 4, 0, 0, 5, 0, 0);
        due("full ends it", x.orbs(3, 0, 5), 4);
        due("all full", x.orbs(3, 0, 5), 0);
        due("eight", x.count(0), 8);
        due("no changes", x.count(2), 0);
    }

    private static void mend() {
        promise = 4;
        OrbitsWed x = sky(5, 3, 60, 0);
        due("place", x.mend(0, PLACE, 4), 3);
        due("place then", x.of(0, PLACE), 4);
        due("place as the round", x.mend(0, PLACE, 5), VOID);
        due("place -1", x.mend(0, PLACE, -1), VOID);
        due("place 0", x.mend(0, PLACE, 0), 4);
        due("weight", x.mend(1, WEIGHT, 9), 1);
        due("weight 10", x.mend(1, WEIGHT, 10), VOID);
        due("weight 0", x.mend(1, WEIGHT, 0), 9);
        due("weight -1", x.mend(1, WEIGHT, -1), VOID);
        due("likes", x.mend(1, LIKES, -9), 0);
        due("likes the other way", x.of(10, LIKES), 0);
        due("likes 9", x.mend(1, LIKES, 9), -9);
        due("likes 10", x.mend(1, LIKES, 10), VOID);
        due("likes -10", x.mend(1, LIKES, -10), VOID);
        due("likes of itself", x.mend(11, LIKES, 1), VOID);
        due("likes of a missing one", x.mend(2, LIKES, 1), VOID);
        due("likes of a number below 0", x.mend(-1, LIKES, 1), VOID);
        due("near", x.mend(0, NEAR, 90), 10);
        due("near 91", x.mend(0, NEAR, 91), VOID);
        due("near 0", x.mend(0, NEAR, 0), 90);
        due("near of one", x.mend(1, NEAR, 5), VOID);
        due("round is not told", x.mend(0, ROUND, 5), VOID);
        due("what -1", x.mend(0, -1, 0), VOID);
        due("missing one", x.mend(2, WEIGHT, 0), VOID);
        due("kept", x.of(1, LIKES), 9);
        OrbitsWed y = sky(5, 0, 5, 0, 5, 0, 5, 0);
        y.mend(30, LIKES, 7);
        due("of the fourth for the first", y.of(30, LIKES), 7);
        due("not of the third", y.of(20, LIKES), 0);
        due("not of the first", y.of(3, LIKES), 0);
    }

    private static void of() {
        promise = 5;
        OrbitsWed x = sky(5, 3, 60, 0);
        due("place", x.of(0, PLACE), 3);
        due("weight", x.of(0, WEIGHT), 1);
        due("likes", x.of(1, LIKES), 0);
        due("near", x.of(0, NEAR), 10);
        due("round", x.of(1, ROUND), 60);
        due("missing one's place", x.of(2, PLACE), VOID);
        due("missing one's round", x.of(2, ROUND), VOID);
        due("one below 0", x.of(-1, ROUND), VOID);
        due("likes of itself", x.of(0, LIKES), VOID);
        due("near of one", x.of(1, NEAR), VOID);
        due("what 5", x.of(0, 5), VOID);
    }

    private static void feed() {
        promise = 6;
        OrbitsWed x = new OrbitsWed();
        due("-1", x.feed(-1), BAD);
        due("256", x.feed(256), BAD);
        due("0", x.feed(0), 1);
        due("255", x.feed(255), 2);
        for (int i = 3; i <= 120; i++) due("byte " + i, x.feed('1'), i);
        due("byte 121", x.feed('1'), FULL);
        due("a wrong byte 121", x.feed(256), BAD);
        due("120", x.count(1), 120);
    }

    private static void lawFaults() {
        promise = 7;
        String[] whole = {"l*w", "0", "9999", "0007", "a<5", "(a<5)<6", "!!!!!!1", "((((((1))))))", "-----(1)",
            "1?2", "1;2", "0?1;l", "1?2;3?4", "!1+!1+!1+!1+!1+!1+!1", "a<1|a=2&a>3", "l-w+r*a/d%p", "1--1", "-(-1)"};
        for (String text : whole) due(text, lawOf(new OrbitsWed(), text), 1);
        fault("", 0);
        fault("1+", 2);
        fault("+1", 0);
        fault("12345", 4);
        fault("l1", 1);
        fault("1l", 1);
        fault("a<5<6", 3);
        fault("a<5=6", 3);
        fault("!!!!!!!1", 6);
        fault("(((((((1", 6);
        fault("-(!(-(!1", 6);
        fault("((((((", 6);
        fault("!", 1);
        fault("1?2?3", 3);
        fault("1?", 2);
        fault("?1", 0);
        fault("(1?2)", 2);
        fault("(1;2)", 2);
        fault("1;", 2);
        fault("1;;2", 2);
        fault(";", 0);
        fault("x", 0);
        fault("1 +2", 1);
        fault("lw", 1);
        fault(")", 0);
        fault("()", 1);
        fault("(1", 2);
        fault("1)", 1);
        fault("1&|2", 2);
        fault("L", 0);
        fault("1+2*(3-4", 8);
        StringBuilder longest = new StringBuilder("1");
        while (longest.length() < 119) longest.append("+1");
        due("119 bytes", lawOf(new OrbitsWed(), longest.toString()), 1);
        fault(longest + "+", 120);
        OrbitsWed x = new OrbitsWed();
        x.feed('(');
        x.law();
        due("the tape is empty then", x.count(1), 0);
        due("the next one stands alone", lawOf(x, "1"), 1);
        due("the tape is empty behind a law", x.count(1), 0);
    }

    private static void fault(String text, int place) {
        due("the fault of " + text, lawOf(new OrbitsWed(), text), -100 - place);
    }

    // One at 10 of 60 that likes another one at 12 of 60 (weight 7) by 5; they are 12 degrees apart.
    private static int pushBy(String text) {
        OrbitsWed x = sky(60, 10, 60, 12);
        x.mend(0, NEAR, 20);
        x.mend(1, LIKES, 5);
        x.mend(1, WEIGHT, 7);
        x.mend(0, WEIGHT, 3);
        if (lawOf(x, text) != 1) return VOID;
        return x.later(0, 1) - 11;
    }

    private static void lawValues() {
        promise = 7;
        Object[] values = {"l", 5, "w", 7, "r-53", 7, "a-9", 3, "d", 0, "p-4", 6, "9999", 9, "-9999", -9,
            "1-2-3", -4, "7/2", 3, "-7/2", -3, "-7%3", -1, "7%-3", 1, "5/0", 0, "5%0", 0, "100/5/5", 4,
            "1|0&0", 1, "(1|0)&0", 0, "2&3", 1, "0&3", 0, "0|0", 0, "0|-2", 1, "1+1=2", 1, "1=2", 0, "2>1", 1,
            "1>1", 0, "1<1", 0, "-1<0", 1, "!5", 0, "!0", 1, "--4", 4, "-!0", -1, "!-1", 0, "2+3*2", 8,
            "(2+3)*2-3", 7, "0?4;6", 6, "1?4;6", 4, "-1?4;6", 4, "0?4", 0, "0?4;0?5", 0, "5;6", 5, "0;6", 0,
            "a>12?9;a=12?8;7", 8, "9999*9999*9999<0", 1, "0-2*2", -4, "2*-3", -6, "0007", 7};
        for (int i = 0; i < values.length; i += 2) due("" + values[i], pushBy("" + values[i]), (int) values[i + 1]);
        OrbitsWed x = sky(10, 0, 10, 0);
        x.mend(1, LIKES, 2);
        x.mend(1, WEIGHT, 3);
        due("without a text: l times w", x.later(0, 1), 7);
        x.mend(1, WEIGHT, 9);
        due("held: 18 is 9", x.later(0, 1), 0);
        due("3 becomes the law", lawOf(x, "3"), 1);
        due("by the law", x.later(0, 1), 4);
        due("a fault", lawOf(x, "3+"), -102);
        due("the law as before", x.later(0, 1), 4);
        due("0 becomes the law", lawOf(x, "0"), 1);
        due("by the new law", x.later(0, 1), 1);
        lawOf(x, "d");
        due("d is 0, then 1", x.later(0, 2), 3);
    }

    private static void at() {
        promise = 8;
        OrbitsWed x = sky(8, 3, 7, 1);
        due("place", x.at(0, 9, 0), 4);
        due("degrees", x.at(0, 9, 1), 180);
        due("now", x.at(0, 0, 1), 135);
        due("cut", x.at(1, 0, 1), 51);
        due("the last day", x.at(1, 99999, 0), 100000 % 7);
        due("day 100000", x.at(0, 100000, 0), BAD);
        due("day -1", x.at(0, -1, 0), BAD);
        due("what 2", x.at(0, 0, 2), BAD);
        due("what -1", x.at(0, 0, -1), BAD);
        due("missing", x.at(2, 0, 0), BAD);
    }

    private static void apart() {
        promise = 9;
        OrbitsWed x = sky(8, 0, 8, 7);
        due("the less way", x.apart(1, 0, 0), 45);
        due("from the other one", x.apart(10, 3, 0), 45);
        x.mend(0, NEAR, 45);
        due("as near", x.apart(1, 0, 1), 1);
        x.mend(0, NEAR, 44);
        due("not as near", x.apart(1, 0, 1), 0);
        due("opposite", sky(2, 0, 2, 1).apart(1, 0, 0), 180);
        due("itself", x.apart(0, 0, 0), BAD);
        due("missing", x.apart(12, 0, 0), BAD);
        due("day 100000", x.apart(1, 100000, 0), BAD);
        due("what 2", x.apart(1, 0, 2), BAD);
    }

    private static void meets() {
        promise = 10;
        OrbitsWed x = sky(2, 0, 3, 1, 4, 0, 4, 2);
        due("from now", x.meets(1, 0), 2);
        due("on the day itself", x.meets(1, 2), 2);
        due("the next", x.meets(1, 3), 8);
        due("the last", x.meets(1, 99993), 99998);
        due("none behind it", x.meets(1, 99999), NOT);
        due("never", x.meets(23, 0), NOT);
        due("itself", x.meets(11, 0), BAD);
        due("below 0", x.meets(-1, 0), BAD);
        due("day -1", x.meets(1, -1), BAD);
        due("day 100000", x.meets(1, 100000), BAD);
    }

    private static void often() {
        promise = 11;
        OrbitsWed x = sky(2, 0, 3, 1);
        due("12 days", x.often(1, 0, 12), 2);
        due("2 days", x.often(1, 0, 2), 0);
        due("one day", x.often(1, 2, 1), 1);
        due("another day", x.often(1, 3, 1), 0);
        due("beyond the last day", x.often(1, 99999, 999), 166);
        due("no days", x.often(1, 0, 0), BAD);
        due("1000 days", x.often(1, 0, 1000), BAD);
        due("day 100000", x.often(1, 100000, 1), BAD);
        due("itself", x.often(0, 0, 1), BAD);
    }

    private static void together() {
        promise = 12;
        OrbitsWed x = sky(2, 0, 3, 1, 4, 2);
        due("none", x.together(0), 1);
        due("2 and 3", x.together(3), 6);
        due("2 and 4", x.together(5), 4);
        due("all", x.together(7), 12);
        due("a missing one", x.together(8), Long.MIN_VALUE);
        due("below 0", x.together(-1), Long.MIN_VALUE);
        OrbitsWed y = sky(59, 0, 53, 0, 47, 0, 43, 0, 41, 0, 37, 0, 60, 0, 49, 0);
        due("very late", y.together(255), 59L * 53 * 47 * 43 * 41 * 37 * 60 * 49);
        due("256", y.together(256), Long.MIN_VALUE);
    }

    private static void start() {
        promise = 13;
        OrbitsWed x = sky(8, 7, 5, 4, 4, 0, 2, 1);
        due("none", x.start(0), 0);
        due("one", x.start(1), 1);
        due("two", x.start(3), 1);
        due("now", x.start(4), 0);
        due("never", x.start(12), NOT);
        due("later", x.start(6), 16);
        due("a missing one", x.start(16), Long.MIN_VALUE);
        due("below 0", x.start(-1), Long.MIN_VALUE);
        OrbitsWed y = sky(59, 1, 53, 1, 47, 1, 43, 1, 41, 1, 37, 1, 60, 1, 49, 1);
        due("very late", y.start(255), 59L * 53 * 47 * 43 * 41 * 37 * 60 * 49 - 1);
    }

    private static void mood() {
        promise = 14;
        OrbitsWed x = sky(5, 1, 5, 1, 5, 1, 5, 3);
        x.mend(1, LIKES, 4);
        x.mend(2, LIKES, -9);
        x.mend(3, LIKES, 8);
        due("of whom it meets", x.mood(0, 7), -5);
        due("not of the other ones", x.mood(1, 7), 0);
        x.mend(3, WEIGHT, 9);
        due("without weights", x.mood(0, 0), -5);
        due("missing", x.mood(4, 0), VOID);
        due("day 100000", x.mood(0, 100000), VOID);
        due("day -1", x.mood(0, -1), VOID);
    }

    private static void best() {
        promise = 15;
        OrbitsWed x = sky(2, 0, 3, 1);
        x.mend(1, LIKES, 3);
        due("it", x.best(0, 10, 0), 2);
        due("that", x.best(0, 10, 1), 3);
        due("from a day on", x.best(0, 3010, 0), 8);
        due("the second of two days", x.best(0, 1002, 0), 2);
        due("one day", x.best(0, 2001, 1), 3);
        due("too few days", x.best(0, 2, 1), 0);
        x.mend(1, LIKES, -3);
        due("of like ones the first", x.best(0, 10, 0), 0);
        due("the only day", x.best(0, 2001, 1), -3);
        due("the last day", x.best(0, 9999001, 0), 9999);
        due("day 10000", x.best(0, 10000001, 0), VOID);
        due("no days", x.best(0, 5000, 0), VOID);
        due("below 0", x.best(0, -1, 0), VOID);
        due("what 2", x.best(0, 10, 2), VOID);
        due("missing", x.best(2, 10, 0), VOID);
    }

    private static void sign() {
        promise = 16;
        OrbitsWed x = sky(2, 0, 3, 1);
        due("first", x.sign(3, 2, 0), 3);
        due("on the day itself", x.sign(1, 0, 0), 0);
        due("on the last day", x.sign(1, 99999, 0), 99999);
        due("how many", x.sign(3, 0, 6), 5);
        due("none in one day", x.sign(1, 2, 1), 0);
        due("an empty set", x.sign(0, 7, 0), 7);
        due("beyond the last day", x.sign(0, 99999, 999), 999);
        OrbitsWed y = sky(4, 1, 4, 1, 4, 3);
        due("never", y.sign(1, 99990, 0), NOT);
        due("anybody, not only of the set", y.sign(5, 0, 9), 0);
        due("the third alone", y.sign(4, 0, 9), 9);
        due("n 1000", x.sign(1, 0, 1000), BAD);
        due("n -1", x.sign(1, 0, -1), BAD);
        due("a missing one", x.sign(4, 0, 0), BAD);
        due("day 100000", x.sign(1, 100000, 0), BAD);
    }

    private static void nudge() {
        promise = 17;
        OrbitsWed x = sky(36, 0, 36, 18, 36, 30, 1, 0, 36, 1);
        due("of like ones on", x.nudge(1, 0), 17);
        due("back", x.nudge(2, 50), -5);
        due("on", x.nudge(20, 50), 5);
        due("none is needed", x.nudge(4, 0), 0);
        due("by none", x.nudge(31, 0), -1000);
        x.mend(0, NEAR, 0);
        due("nearer", x.nudge(1, 7), 18);
        due("changes nothing", x.of(0, PLACE), 0);
        due("itself", x.nudge(0, 0), VOID);
        due("day 100000", x.nudge(1, 100000), VOID);
        due("missing", x.nudge(5, 0), VOID);
    }

    private static void never() {
        promise = 18;
        OrbitsWed x = sky(36, 5, 36, 18, 1, 0);
        due("beside one that goes as fast", x.never(1, 999, 0), 33);
        due("the least", x.never(1, 999, 1), 0);
        due("within a day", x.never(2, 1, 0), 33);
        due("the least within a day", x.never(2, 1, 1), 2);
        due("within three days", x.never(2, 3, 0), 31);
        due("within a round", x.never(2, 36, 0), 0);
        due("none", x.never(2, 36, 1), NOT);
        due("its place stays", x.of(0, PLACE), 5);
        due("no days", x.never(1, 0, 0), BAD);
        due("1000 days", x.never(1, 1000, 0), BAD);
        due("what 2", x.never(1, 1, 2), BAD);
        due("itself", x.never(22, 1, 0), BAD);
    }

    private static void scene() {
        promise = 19;
        OrbitsWed x = sky(2, 0, 4, 0, 4, 1, 6, 3, 8, 4, 60, 0, 59, 0);
        due("2 and 4", x.scene(1), 4);
        due("never", x.scene(12), NOT);
        due("both at their halves", x.scene(34), 24);
        due("the longest ago", x.scene(56), 3540);
        due("itself", x.scene(33), BAD);
        due("missing", x.scene(7), BAD);
        due("below 0", x.scene(-12), BAD);
        due("two in step", sky(5, 2, 5, 2).scene(1), 1);
    }

    private static void later() {
        promise = 20;
        OrbitsWed x = parting();
        due("now", x.later(0, 0), 0);
        due("pushed", x.later(0, 1), 3);
        due("not pushed", x.later(1, 1), 1);
        due("then apart", x.later(0, 2), 4);
        x.mend(10, LIKES, 2);
        due("both at once", x.later(1, 2), 6);
        x.mend(1, LIKES, -9);
        due("never below 0", x.later(0, 1), 2);
        due("changes nothing", x.of(0, PLACE), 0);
        due("200 days", sky(7, 0).later(0, 200), 200 % 7);
        due("201 days", x.later(0, 201), BAD);
        due("-1 days", x.later(0, -1), BAD);
        due("missing", x.later(2, 1), BAD);
        OrbitsWed y = sky(60, 0, 60, 0, 60, 0);
        y.mend(1, LIKES, 9);
        y.mend(2, LIKES, 9);
        due("each push is held, not all together", y.later(0, 1), 19);
    }

    private static void pushes() {
        promise = 21;
        OrbitsWed x = parting();
        due("how many", x.pushes(5, 0), 1);
        due("the first day", x.pushes(5, 1), 0);
        due("no days", x.pushes(0, 0), 0);
        due("no day", x.pushes(0, 1), NOT);
        OrbitsWed y = sky(10, 0, 10, 0, 10, 0);
        due("none other than 0", y.pushes(9, 0), 0);
        due("no first day", y.pushes(9, 1), NOT);
        y.mend(1, LIKES, 1);
        y.mend(2, LIKES, -1);
        due("each by another one", y.pushes(1, 0), 2);
        OrbitsWed z = sky(2, 0, 3, 1);
        z.mend(1, LIKES, 1);
        due("the day of the first", z.pushes(9, 1), 2);
        due("not within", z.pushes(2, 1), NOT);
        due("201 days", x.pushes(201, 0), BAD);
        due("-1 days", x.pushes(-1, 0), BAD);
        due("what 2", x.pushes(1, 2), BAD);
    }

    private static void met() {
        promise = 22;
        OrbitsWed x = parting();
        due("as days began", x.met(1, 5), 1);
        due("the other way", x.met(10, 5), 1);
        due("no days", x.met(1, 0), 0);
        due("as near", sky(36, 0, 36, 1).met(1, 1), 1);
        due("not as near", sky(36, 0, 36, 2).met(1, 1), 0);
        x.mend(1, LIKES, 0);
        due("all days", x.met(1, 200), 200);
        due("201 days", x.met(1, 201), BAD);
        due("-1 days", x.met(1, -1), BAD);
        due("itself", x.met(0, 1), BAD);
    }

    private static void again() {
        promise = 23;
        due("nobody", new OrbitsWed().again(0), 1);
        OrbitsWed x = sky(5, 2);
        due("one", x.again(0), 5);
        due("from now", x.again(1), 0);
        OrbitsWed y = parting();
        due("behind the push", y.again(0), 11);
        due("as behind one day", y.again(1), 1);
        OrbitsWed z = sky(59, 0, 53, 0);
        due("too late", z.again(0), NOT);
        due("too late, too", z.again(1), NOT);
        due("just in time", sky(60, 0, 50, 0).again(0), 300);
        OrbitsWed pushed = sky(10, 0, 10, 0);
        lawOf(pushed, "d<3");
        due("d as ever", pushed.again(0), 7);
        due("all as now", pushed.again(1), 0);
        due("what 2", x.again(2), BAD);
        due("what -1", x.again(-1), BAD);
    }

    private static void judge() {
        promise = 24;
        OrbitsWed x = parting();
        due("nothing there", x.judge(0, 0), -11);
        rowOf(x, 0, BYTES, 3, 4, 5);
        due("so", x.judge(0, 0), NOT);
        due("not the other one's", x.judge(0, 1), 0);
        x.put(0, 2, 6);
        due("the first day not so", x.judge(0, 0), 2);
        x.row(0, BYTES, 0);
        due("an empty book", x.judge(0, 0), NOT);
        rowOf(x, 0, INTS, 3);
        due("ints", x.judge(0, 0), -12);
        x.keep(0, x.body(0));
        due("a mood", x.judge(0, 0), -12);
        due("no shelf", x.judge(6, 0), BAD);
        due("missing one ahead of the shelf", x.judge(1, 2), BAD);
    }

    private static void liking() {
        promise = 25;
        OrbitsWed x = parting();
        x.orb(10, 5);
        rowOf(x, 0, BYTES, 3);
        due("-8 and 2", x.liking(0, 1, 0, 0), 2);
        due("the least", x.liking(0, 1, 0, 1), -8);
        due("told as before", x.of(1, LIKES), 2);
        due("of no matter to the other one", x.liking(0, 10, 0, 0), 19);
        rowOf(x, 0, BYTES, 6, 7);
        due("a third one's", x.liking(0, 1, 2, 0), 19);
        rowOf(x, 0, BYTES, 5);
        due("none", x.liking(0, 1, 2, 0), 0);
        due("no least", x.liking(0, 1, 2, 1), -99);
        due("no changes by it", x.count(2), 1);
        due("nothing there", x.liking(1, 1, 0, 0), VOID);
        rowOf(x, 1, LONGS, 3);
        due("longs", x.liking(1, 1, 0, 0), VOID);
        due("no shelf", x.liking(6, 1, 0, 0), VOID);
        due("itself", x.liking(0, 0, 0, 0), VOID);
        due("missing", x.liking(0, 1, 3, 0), VOID);
        due("what 2", x.liking(0, 1, 0, 2), VOID);
    }

    private static void whose() {
        promise = 26;
        OrbitsWed x = parting();
        due("nothing there", x.whose(0), -11);
        rowOf(x, 0, BYTES, 3, 4);
        due("the one", x.whose(0), 1);
        rowOf(x, 0, BYTES, 1);
        due("the other one", x.whose(0), 2);
        x.row(0, BYTES, 0);
        due("anyone", x.whose(0), 3);
        rowOf(x, 0, BYTES, -1);
        due("no one", x.whose(0), 0);
        rowOf(x, 0, BOOLEANS, 1);
        due("booleans", x.whose(0), -12);
        x.keep(0, x.body(0));
        due("a mood", x.whose(0), -12);
        due("no shelf", x.whose(6), BAD);
        due("no shelf below", x.whose(-1), BAD);
    }

    private static void byTurns() {
        promise = 27;
        OrbitsWed x = sky(36, 0, 36, 2, 36, 0, 36, 34);
        due("one nudge", x.byTurns(1, 9, 10), 1);
        due("on", x.byTurns(1, 9, 11), 1);
        due("the other one is the last", x.byTurns(1, 9, 20), 0);
        due("of like ones the least", x.byTurns(1, 9, 21), -1);
        due("three nudges", x.byTurns(1, 9, 30), 1);
        due("on first", x.byTurns(1, 9, 31), 1);
        due("back", x.byTurns(3, 0, 11), -1);
        due("of the fourth", x.byTurns(30, 0, 11), 1);
        due("any will do", x.byTurns(2, 0, 11), -1);
        due("stay: the other one cannot part them", x.byTurns(2, 0, 21), 0);
        due("six", x.byTurns(2, 0, 60), 1);
        due("no nudges", x.byTurns(1, 9, 1), VOID);
        due("seven", x.byTurns(1, 9, 70), VOID);
        due("what 2", x.byTurns(1, 9, 12), VOID);
        due("below 0", x.byTurns(1, 9, -10), VOID);
        due("itself", x.byTurns(11, 9, 10), VOID);
        due("day 100000", x.byTurns(1, 100000, 10), VOID);
        due("changes nothing", x.of(0, PLACE), 0);
    }

    private static void crowd() {
        promise = 28;
        OrbitsWed x = sky(36, 0, 36, 1, 36, 2, 36, 35);
        due("how many", x.crowd(0, 3, 0), 2);
        due("who", x.crowd(0, 3, 1), 10);
        due("the third", x.crowd(2, 3, 1), 2);
        due("alone", sky(5, 0).crowd(0, 0, 0), 0);
        due("missing", x.crowd(4, 0, 0), BAD);
        due("day -1", x.crowd(0, -1, 0), BAD);
        due("what 2", x.crowd(0, 0, 2), BAD);
    }

    private static void arc() {
        promise = 29;
        OrbitsWed x = sky(36, 0, 36, 35, 36, 1, 36, 18, 36, 0);
        due("none", x.arc(0, 0), 0);
        due("one", x.arc(8, 0), 0);
        due("over 0 degrees", x.arc(7, 0), 20);
        due("on another day", x.arc(7, 50), 20);
        due("opposite", x.arc(9, 0), 180);
        due("three and the opposite one", x.arc(15, 0), 190);
        due("two at one place", x.arc(17, 0), 0);
        due("a missing one", x.arc(32, 0), BAD);
        due("below 0", x.arc(-1, 0), BAD);
        due("day 100000", x.arc(1, 100000), BAD);
    }

    private static void drawn() {
        promise = 30;
        OrbitsWed x = sky(5, 0);
        due("it always slips", x.drawn(77, 20312, -1), 2);
        due("years of a round", x.drawn(77, 20500, -1), 2);
        due("years of less", x.drawn(77, 20300, -1), 0);
        due("the first draw of 0 is 0", x.drawn(0, 10101, -1), 1);
        due("the first draw of 1 is 2", x.drawn(1, 10102, -1), 0);
        due("below 3", x.drawn(1, 10103, -1), 1);
        due("nobody to meet", x.drawn(1, 306012, 0), 0);
        OrbitsWed y = parting();
        due("each year is one from now", y.drawn(1, 30400, 0), 3);
        y.mend(1, LIKES, 0);
        due("each day", y.drawn(1, 20300, 1), 6);
        y.orb(10, 0);
        due("each day once", y.drawn(1, 20300, 1), 6);
        due("changes nothing", y.of(0, PLACE), 0);
        due("no years", x.drawn(0, 100, -1), BAD);
        due("31 years", x.drawn(0, 310100, -1), BAD);
        due("no days", x.drawn(0, 10000, -1), BAD);
        due("61 days", x.drawn(0, 16100, -1), BAD);
        due("13 slips", x.drawn(0, 10113, -1), BAD);
        due("below 0", x.drawn(0, -10100, -1), BAD);
        due("one -2", x.drawn(0, 10100, -2), BAD);
        due("missing", x.drawn(0, 10100, 1), BAD);
    }

    private static void day() {
        promise = 31;
        OrbitsWed x = parting();
        due("pushes", x.day(), 1);
        due("the one", x.of(0, PLACE), 3);
        due("the other one", x.of(1, PLACE), 1);
        due("the next day", x.day(), 0);
        due("gone on", x.of(0, PLACE), 4);
        due("nobody", new OrbitsWed().day(), 0);
        OrbitsWed y = sky(10, 0, 10, 0);
        lawOf(y, "d");
        due("d is 0", y.day(), 0);
        due("d is 0 ever", y.day(), 0);
        due("though foreseen otherwise", y.pushes(2, 0), 2);
    }

    private static void nudged() {
        promise = 32;
        OrbitsWed x = sky(8, 3, 5, 0);
        due("on", x.nudged(0, 9), 4);
        due("back", x.nudged(0, -9), 3);
        due("below 0", x.nudged(1, -1), 4);
        due("by 0", x.nudged(1, 0), 4);
        due("by 10", x.nudged(0, 10), BAD);
        due("by -10", x.nudged(0, -10), BAD);
        due("missing", x.nudged(2, 0), BAD);
        due("it stays so", x.of(1, PLACE), 4);
    }

    private static void led() {
        promise = 33;
        OrbitsWed x = parting();
        x.orb(10, 0);
        x.day();
        x.nudged(0, 1);
        x.nudged(0, 0);
        x.nudged(0, 10);
        due("days", x.led(0), 1);
        due("pushes", x.led(1), 1);
        due("meetings of two", x.led(2), 3);
        due("nudges", x.led(3), 2);
        x.day();
        due("days then", x.led(0), 2);
        due("meetings then", x.led(2), 4);
        x.later(0, 9);
        x.drawn(1, 10100, 0);
        due("what is foreseen is no deed", x.led(0), 2);
        due("what 4", x.led(4), BAD);
        due("what -1", x.led(-1), BAD);
    }

    private static void image() {
        promise = 34;
        OrbitsWed x = parting();
        due("now", x.image(), 0);
        x.day();
        x.day();
        due("behind two days", x.image(), 2);
        x.day();
        due("the latest is laid back", x.back(), 2);
        due("places", x.of(0, PLACE), 4);
    }

    private static void back() {
        promise = 35;
        OrbitsWed x = parting();
        due("there is none", x.back(), STATE);
        x.nudged(0, 1);
        x.image();
        x.day();
        x.nudged(1, 3);
        x.mend(0, NEAR, 20);
        x.mend(1, WEIGHT, 5);
        x.mend(0, PLACE, 9);
        x.orb(7, 3);
        x.nudged(2, 2);
        due("days", x.back(), 0);
        due("place", x.of(0, PLACE), 1);
        due("the other one's", x.of(1, PLACE), 0);
        due("one that came since", x.of(2, PLACE), 5);
        due("pushes", x.led(1), 0);
        due("meetings", x.led(2), 0);
        due("nudges", x.led(3), 1);
        due("near is not in it", x.of(0, NEAR), 20);
        due("weights are not in it", x.of(1, WEIGHT), 5);
        due("changes stay", x.count(2), 4);
        x.day();
        due("it stays kept", x.back(), 0);
        OrbitsWed y = new OrbitsWed();
        y.image();
        y.orb(5, 2);
        due("of nobody", y.back(), 0);
        due("as it is", y.of(0, PLACE), 2);
    }

    private static void undo() {
        promise = 36;
        OrbitsWed x = sky(8, 3, 8, 3);
        due("none", x.undo(), STATE);
        x.mend(0, PLACE, 5);
        x.mend(1, WEIGHT, 4);
        x.mend(1, LIKES, -2);
        x.mend(0, NEAR, 33);
        x.mend(0, NEAR, 33);
        due("the same number is none", x.count(2), 4);
        due("near", x.undo(), 3);
        due("near then", x.of(0, NEAR), 10);
        due("likes", x.undo(), 2);
        due("likes then", x.of(1, LIKES), 0);
        due("weight", x.undo(), 1);
        due("weight then", x.of(1, WEIGHT), 1);
        x.nudged(0, 1);
        x.day();
        due("place", x.undo(), 0);
        due("what it was", x.of(0, PLACE), 3);
        due("deeds are none", x.undo(), STATE);
        for (int i = 0; i < 41; i++) x.mend(0, NEAR, 11 + i);
        due("40 at most", x.count(2), 40);
        for (int i = 39; i >= 0; i--) due("still " + i, x.undo(), i);
        due("the first one is lost", x.of(0, NEAR), 11);
        due("no more", x.undo(), STATE);
    }

    private static void redo() {
        promise = 37;
        OrbitsWed x = sky(8, 3, 8, 3);
        due("none", x.redo(), STATE);
        x.mend(0, NEAR, 20);
        x.mend(1, LIKES, 4);
        due("nothing undone", x.redo(), STATE);
        x.undo();
        x.undo();
        due("the first", x.redo(), 1);
        due("near", x.of(0, NEAR), 20);
        due("not yet the likes", x.of(1, LIKES), 0);
        due("may be undone", x.count(2), 1);
        x.mend(0, NEAR, 20);
        x.mend(0, NEAR, 91);
        x.day();
        due("the same number, a wrong one and deeds are no changes", x.redo(), 0);
        due("likes", x.of(1, LIKES), 4);
        due("all done", x.redo(), STATE);
        x.undo();
        x.mend(0, NEAR, 30);
        due("another one came behind", x.redo(), STATE);
        due("near before", x.undo(), 1);
        due("as it was", x.of(0, NEAR), 20);
        OrbitsWed y = sky(8, 3);
        for (int i = 0; i < 45; i++) y.mend(0, NEAR, 11 + i);
        for (int i = 0; i < 40; i++) y.undo();
        for (int i = 39; i >= 0; i--) due("again, still " + i, y.redo(), i);
        due("as at the end", y.of(0, NEAR), 55);
    }

    private static void body() {
        promise = 38;
        OrbitsWed x = new OrbitsWed();
        due("kind -1", x.body(-1), BAD);
        due("kind 8", x.body(8), BAD);
        for (int i = 0; i < 50; i++) due("body " + i, x.body(i % 8), i);
        due("one more", x.body(0), FULL);
        due("a wrong one more", x.body(8), BAD);
        due("fifty", x.count(3), 50);
    }

    private static void act() {
        promise = 39;
        OrbitsWed x = moods();
        int[][] answers = {{5, 10, 5, 9}, {9, 18, 4, 18}, {7, -14, 7, -17}, {8, -18, 18, -24}, {12, 24, -8, 28},
            {10, -22, 0, -37}, {22, 44, 3, 37}, {15, 23, -10, 28}};
        for (int kind = 0; kind < 8; kind++) {
            for (int act = 0; act < 4; act++) {
                due("kind " + kind + ", act " + act, x.act(kind, act, 5), answers[kind][act]);
            }
        }
        due("it wraps", x.act(0, 1, Integer.MAX_VALUE), -2);
        due("no such mood", x.act(8, 0, 5), 0);
        due("no such mood below", x.act(-1, 0, 5), 0);
        due("no such act", x.act(0, 4, 5), 0);
        due("no such act below", x.act(0, -1, 5), 0);
        x.act(0, 0, 1);
        x.act(0, 4, 1);
        due("no trace then", x.count(4), 0);
        due("none at all", x.trace(0), BAD);
    }

    private static void traceIs(OrbitsWed x, int body, int act, int... numbers) {
        x.act(body, act, 5);
        due("ran, body " + body + " act " + act, x.count(4), numbers.length);
        for (int i = 0; i < numbers.length; i++) due("trace " + i + ", body " + body + " act " + act, x.trace(i), numbers[i]);
        due("behind it", x.trace(numbers.length), BAD);
    }

    private static void trace() {
        promise = 40;
        OrbitsWed x = moods();
        due("no act yet", x.trace(0), BAD);
        traceIs(x, 0, 0, 1);
        traceIs(x, 0, 3, 2, 10, 1, 11);
        traceIs(x, 1, 1, 10, 20, 1);
        traceIs(x, 2, 1, 30, 10, 1);
        traceIs(x, 3, 1, 41, 30, 10, 1);
        traceIs(x, 3, 2, 40, 11);
        traceIs(x, 4, 2, 50, 11, 20, 1);
        traceIs(x, 5, 3, 60, 2, 41, 30, 10, 1, 40, 11);
        traceIs(x, 6, 1, 10, 70, 1);
        traceIs(x, 7, 1, 80, 10, 20, 1, 50, 11, 20, 1);
        traceIs(x, 7, 3, 81, 2, 80, 10, 20, 1, 50, 11, 20, 1, 50, 11, 20, 1);
        due("below 0", x.trace(-1), BAD);
        due("24", x.trace(24), BAD);
    }

    private static void keep() {
        promise = 41;
        OrbitsWed x = moods();
        due("a mood", x.keep(0, 3), 1);
        due("it is there", x.taken(0, 0), 3);
        due("another one", x.keep(0, 7), 1);
        due("that is there", x.taken(0, 0), 7);
        due("nothing", x.keep(0, -1), 1);
        due("nothing is there", x.taken(0, 0), -11);
        due("nothing on nothing", x.keep(5, -1), 1);
        due("no such body", x.keep(0, 8), BAD);
        due("-2", x.keep(0, -2), BAD);
        due("no shelf", x.keep(6, 0), BAD);
        due("no shelf below", x.keep(-1, -1), BAD);
        rowOf(x, 1, BYTES, 1);
        due("in a row's stead", x.keep(1, 0), 1);
        due("no row then", x.put(1, 0, 1), -12);
    }

    private static void row() {
        promise = 42;
        OrbitsWed x = new OrbitsWed();
        due("a row", x.row(0, INTS, 60), 1);
        x.put(0, 59, 8);
        due("sort -1", x.row(0, -1, 3), BAD);
        due("sort 5", x.row(0, 5, 3), BAD);
        due("61", x.row(0, INTS, 61), BAD);
        due("below 0", x.row(0, INTS, -1), -14);
        due("below 0 of a wrong sort", x.row(0, 5, -1), BAD);
        due("no shelf", x.row(6, INTS, -1), BAD);
        due("nothing changed", x.element(0, 59), 8);
        due("a new row", x.row(0, INTS, 60), 1);
        due("0 at first", x.element(0, 59), 0);
        due("an empty row", x.row(0, LONGS, 0), 1);
        due("no place in it", x.put(0, 0, 1), -13);
    }

    private static void putAs(int sort, long v, long kept) {
        OrbitsWed x = new OrbitsWed();
        x.row(0, sort, 1);
        x.put(0, 0, v);
        due("sort " + sort + " of " + v, x.element(0, 0), kept);
    }

    private static void put() {
        promise = 43;
        putAs(BYTES, 300, 44);
        putAs(BYTES, 128, -128);
        putAs(SHORTS, 32768, -32768);
        putAs(SHORTS, 65537, 1);
        putAs(INTS, 1L << 31, Integer.MIN_VALUE);
        putAs(INTS, (1L << 32) + 7, 7);
        putAs(LONGS, Long.MAX_VALUE, Long.MAX_VALUE);
        putAs(BOOLEANS, 256, 1);
        putAs(BOOLEANS, -1, 1);
        putAs(BOOLEANS, 0, 0);
        OrbitsWed x = new OrbitsWed();
        due("nothing there", x.put(0, 0, 1), -11);
        x.row(0, BYTES, 2);
        due("put", x.put(0, 1, 1), 1);
        due("place 2", x.put(0, 2, 1), -13);
        due("place -1", x.put(0, -1, 1), -13);
        x.keep(0, x.body(0));
        due("a mood", x.put(0, 0, 1), -12);
        due("no shelf", x.put(6, 0, 1), BAD);
        due("no shelf below", x.put(-1, 0, 1), BAD);
    }

    private static void element() {
        promise = 44;
        OrbitsWed x = new OrbitsWed();
        due("nothing there", x.element(0, 0), Long.MIN_VALUE);
        rowOf(x, 0, LONGS, 5, -6);
        due("0", x.element(0, 0), 5);
        due("1", x.element(0, 1), -6);
        due("2", x.element(0, 2), Long.MIN_VALUE);
        due("-1", x.element(0, -1), Long.MIN_VALUE);
        x.keep(0, x.body(0));
        due("a mood", x.element(0, 0), Long.MIN_VALUE);
        due("no shelf", x.element(6, 0), Long.MIN_VALUE);
    }

    private static void shift() {
        promise = 45;
        OrbitsWed x = new OrbitsWed();
        rowOf(x, 0, INTS, 1, 2, 3, 4, 5);
        rowOf(x, 1, INTS, 9, 9, 9);
        due("to another one", x.shift(0, 1, 1, 0, 2), 2);
        due("first", x.element(1, 0), 2);
        due("second", x.element(1, 1), 3);
        due("the rest", x.element(1, 2), 9);
        due("the same one, on", x.shift(0, 0, 0, 1, 4), 4);
        for (int i = 1; i < 5; i++) due("as they were, " + i, x.element(0, i), i);
        due("the same one, back", x.shift(0, 1, 0, 0, 4), 4);
        for (int i = 0; i < 4; i++) due("as they were, back " + i, x.element(0, i), i + 1);
        due("none, at the ends", x.shift(0, 5, 1, 3, 0), 0);
        due("too many", x.shift(0, 3, 1, 0, 3), -13);
        due("too many there", x.shift(0, 0, 1, 1, 3), -13);
        due("from -1", x.shift(0, -1, 1, 0, 1), -13);
        due("to -1", x.shift(0, 0, 1, -1, 1), -13);
        due("-1 of them", x.shift(0, 0, 1, 0, -1), -13);
        due("very many", x.shift(0, 1, 1, 0, Integer.MAX_VALUE), -13);
        due("from very far", x.shift(0, Integer.MAX_VALUE, 1, 0, 1), -13);
        rowOf(x, 2, LONGS, 1);
        due("unlike sorts", x.shift(0, 9, 2, 0, 1), -12);
        x.keep(3, x.body(0));
        due("a mood", x.shift(3, 0, 3, 0, 0), -12);
        due("to a mood", x.shift(0, 0, 3, 0, 0), -12);
        rowOf(x, 5, BYTES, 1);
        due("bytes to a mood", x.shift(5, 0, 3, 0, 0), -12);
        due("nothing there", x.shift(4, 0, 0, 0, 0), -11);
        due("to nothing", x.shift(3, 0, 4, 0, 0), -11);
        due("no shelf", x.shift(6, 0, 0, 0, 0), BAD);
        due("to no shelf", x.shift(4, 0, -1, 0, 0), BAD);
    }

    private static void taken() {
        promise = 46;
        OrbitsWed x = moods();
        boolean[][] under = new boolean[8][8];
        int[][] lines = {{0}, {1, 0}, {2, 0}, {3, 2, 0}, {4, 1, 0}, {5, 3, 2, 0}, {6, 0}, {7, 4, 1, 0}};
        for (int[] line : lines) for (int kind : line) under[line[0]][kind] = true;
        for (int kind = 0; kind < 8; kind++) {
            x.keep(0, kind);
            for (int k = 0; k < 8; k++) due(kind + " taken for " + k, x.taken(0, k), under[kind][k] ? kind : -12);
        }
        due("kind 8", x.taken(0, 8), BAD);
        due("kind -1", x.taken(0, -1), BAD);
        due("no shelf", x.taken(6, 0), BAD);
        due("nothing there", x.taken(1, 0), -11);
        x.row(1, BYTES, 0);
        due("a row", x.taken(1, 0), -12);
    }

    private static void count() {
        promise = 47;
        OrbitsWed x = sky(5, 0, 6, 0, 7, 0);
        x.feed('l');
        x.feed('w');
        x.mend(0, NEAR, 5);
        x.mend(0, WEIGHT, 5);
        x.mend(1, WEIGHT, 5);
        x.mend(2, WEIGHT, 5);
        x.undo();
        x.body(7);
        x.act(0, 3, 0);
        due("bodies in the sky", x.count(0), 3);
        due("bytes on the tape", x.count(1), 2);
        due("changes", x.count(2), 3);
        due("bodies of acts", x.count(3), 1);
        due("that ran", x.count(4), 14);
        due("what 5", x.count(5), BAD);
        due("what -1", x.count(-1), BAD);
    }
}
