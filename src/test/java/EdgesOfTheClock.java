import java.util.function.IntFunction;
import java.util.function.IntToLongFunction;

/** Part 2 of the Terms; promises 8 to 19. */
final class EdgesOfTheClock extends Edge {
    EdgesOfTheClock(Sentences sentences) {
        super(sentences);
    }

    @Override
    void run() {
        plain(TERMS, "======== 2 BY THE CLOCK:");
        at();
        atBad();
        apart();
        apartBad();
        meets();
        meetsBad();
        often();
        oftenBad();
        together();
        togetherBad();
        start();
        startBad();
        mood();
        moodVoid();
        best();
        bestVoid();
        sign();
        signBad();
        nudge();
        nudgeVoid();
        never();
        neverBad();
        scene();
        sceneBad();
    }

    // Two that meet on that day, and 60 days behind it, and so on. The last day, 99999, is 39 by 60.
    private static OrbitsWed meetingOn(int day) {
        OrbitsWed x = sky(60, Math.floorMod(-day, 60), 1, 0);
        x.mend(0, NEAR, 0);
        return x;
    }

    // The promise that says the same as the words of the Terms is tried with them.
    private void also(int promise, String words) {
        plain(promise, words);
    }

    /** All sets of so many bodies are answered, those around them are not. */
    private void sets(String call, IntFunction<IntToLongFunction> ofBodies, long refusal) {
        for (int bodies : new int[] {0, 1, 3, 8}) {
            within(call + " with " + bodies + " bodies", ofBodies.apply(bodies), 0, (1 << bodies) - 1, refusal);
        }
    }

    private void at() {
        test(TERMS, "PLACE, degrees of one on a day;");
        also(8, "PLACE (what 0), degrees (1) of one on a day.");
        OrbitsWed x = sky(8, 7, 60, 59);
        due("place on day 0", x.at(0, 0, 0), 7);
        due("degrees on day 0", x.at(0, 0, 1), 315);
        due("place, round", x.at(0, 1, 0), 0);
        due("degrees, round", x.at(0, 1, 1), 0);
        due("place on the last day: 100006 by 8", x.at(0, 99999, 0), 6);
        due("degrees on the last day", x.at(0, 99999, 1), 270);
        due("the other one's place", x.at(1, 0, 0), 59);
    }

    private void atBad() {
        test(8, "BAD.");
        OrbitsWed x = crowdOf(8, 5, 0);
        within("ones", one -> x.at(one, 0, 0), 0, 7, BAD);
        within("days", day -> x.at(7, day, 1), 0, 99999, BAD);
        within("whats", what -> x.at(7, 99999, what), 0, 1, BAD);
        due("nobody", new OrbitsWed().at(0, 0, 0), BAD);
    }

    private void apart() {
        test(TERMS, "how far APART two are, whether they MEET;");
        also(9, "How far APART (what 0), whether they MEET (1).");
        OrbitsWed x = sky(60, 59, 60, 29, 1, 0);
        x.mend(0, NEAR, 0);
        due("180", x.apart(1, 0, 0), 180);
        due("180, the other way", x.apart(10, 99999, 0), 180);
        due("6", x.apart(2, 0, 0), 6);
        due("they do not", x.apart(2, 0, 1), 0);
        due("0 on day 1", x.apart(2, 1, 0), 0);
        due("they do on day 1", x.apart(2, 1, 1), 1);
        due("6 on day 2", x.apart(2, 2, 0), 6);
    }

    private void apartBad() {
        test(9, "BAD.");
        OrbitsWed x = crowdOf(8, 5, 0);
        pairs("apart", ab -> x.apart(ab, 0, 0), BAD);
        within("days", day -> x.apart(76, day, 0), 0, 99999, BAD);
        within("whats", what -> x.apart(76, 99999, what), 0, 1, BAD);
        due("one alone", sky(5, 0).apart(1, 0, 0), BAD);
    }

    private void meets() {
        test(TERMS, "the first day from a day on (to 99999) on which they MEET (NOT);");
        also(10, "The first day on which they MEET.");
        OrbitsWed x = meetingOn(99999);
        due("from 99940 on", x.meets(1, 99940), 99999);
        due("from the last day on", x.meets(1, 99999), 99999);
        due("on day 39, from now", x.meets(1, 0), 39);
        due("on that day", x.meets(1, 39), 39);
        due("behind it", x.meets(1, 40), 99);
        OrbitsWed y = meetingOn(100000);
        due("from 99940 on, that day itself", y.meets(1, 99940), 99940);
        due("not on day 100000", y.meets(1, 99941), NOT);
        due("not on the last day", y.meets(1, 99999), NOT);
        OrbitsWed z = sky(59, 0, 60, 1, 60, 3);
        z.mend(0, NEAR, 0);
        due("59 and 60, at last", z.meets(1, 0), 59);
        due("59 and 60, cut alike up to place 9", z.meets(1, 68), 68);
        due("then 3540 days later", z.meets(1, 69), 3599);
        due("never", z.meets(12, 0), NOT);
        due("the other way", z.meets(10, 0), 59);
        due("never, the other way", z.meets(21, 0), NOT);
        OrbitsWed last = sky(5, 1, 5, 1, 5, 1, 5, 1, 5, 1, 5, 1, 60, 0, 1, 0);
        last.mend(0, NEAR, 0);
        due("the last two", last.meets(67, 1), 60);
        due("the last two, the other way", last.meets(76, 1), 60);
        due("the last one and the first one", last.meets(70, 0), 4);
    }

    private void meetsBad() {
        test(10, "BAD; NOT.");
        OrbitsWed x = crowdOf(8, 5, 0);
        pairs("meets", ab -> x.meets(ab, 0), BAD);
        within("days", day -> x.meets(76, day), 0, 99999, BAD);
        OrbitsWed y = sky(2, 0, 2, 1);
        due("never", y.meets(1, 0), NOT);
        due("never, BAD all the same", y.meets(1, 100000), BAD);
    }

    private void often() {
        test(TERMS, "on how many of n days (1 .. 999) from a day on.");
        also(11, "On how many of n days.");
        OrbitsWed x = meetingOn(39);
        within("n", n -> x.often(1, 0, n), 1, 999, BAD);
        due("the day itself", x.often(1, 39, 1), 1);
        due("the day ahead of it", x.often(1, 38, 1), 0);
        due("the day behind it", x.often(1, 40, 1), 0);
        due("39 days from now", x.often(1, 0, 39), 0);
        due("40 days from now", x.often(1, 0, 40), 1);
        due("59 days from 40 on", x.often(1, 40, 59), 0);
        due("60 days from 40 on", x.often(1, 40, 60), 1);
        due("999 days: 39, 99 .. 939", x.often(1, 0, 999), 16);
        due("999 days from 1 on, with day 999", x.often(1, 1, 999), 17);
        due("from the last day on, which is one", x.often(1, 99999, 1), 1);
        due("60 days from the last day on", x.often(1, 99999, 60), 1);
        due("61: behind the last day, too", x.often(1, 99999, 61), 2);
        due("each day", sky(5, 0, 5, 0).often(1, 0, 999), 999);
        due("the other way", x.often(10, 0, 999), 16);
        OrbitsWed last = sky(5, 1, 5, 1, 5, 1, 5, 1, 5, 1, 5, 1, 60, 0, 1, 0);
        due("the last two", last.often(67, 2, 59), 2);
        due("the last two, the other way", last.often(76, 2, 59), 2);
        due("the last one and the first one", last.often(70, 0, 10), 2);
    }

    private void oftenBad() {
        test(11, "BAD.");
        OrbitsWed x = crowdOf(8, 5, 0);
        pairs("often", ab -> x.often(ab, 0, 1), BAD);
        within("days", day -> x.often(76, day, 1), 0, 99999, BAD);
        within("n", n -> x.often(76, 99999, n), 1, 999, BAD);
    }

    private void together() {
        test(TERMS, "TOGETHER: after how many days a set of BODIES stands as it did (the least; of none: 1).");
        also(12, "TOGETHER.");
        due("of none, without bodies", new OrbitsWed().together(0), 1);
        OrbitsWed x = sky(1, 0, 60, 59, 12, 3, 18, 0, 5, 0);
        due("of none", x.together(0), 1);
        due("of round 1", x.together(1), 1);
        due("of round 60", x.together(2), 60);
        due("of 60 and 12: the least", x.together(6), 60);
        due("of 12 and 18: the least", x.together(12), 36);
        due("of all", x.together(31), 180);
        OrbitsWed y = sky(59, 0, 53, 0, 47, 0, 43, 0, 41, 0, 37, 0, 60, 0, 49, 0);
        due("beyond ints", y.together(255), 59L * 53 * 47 * 43 * 41 * 37 * 60 * 49);
        due("the last one alone", y.together(128), 49);
        due("eight alike", crowdOf(8, 60, 0).together(255), 60);
    }

    private void togetherBad() {
        test(12, "Long.MIN_VALUE: BAD.");
        sets("together", bodies -> {
            OrbitsWed x = crowdOf(bodies, 5, 0);
            return x::together;
        }, NO_LONG);
    }

    private void start() {
        test(TERMS, "AT THE START: the first day (0 on, however late) on which all of a set are at PLACE 0 "
            + "(NOT: never; of none: 0).");
        also(13, "AT THE START.");
        due("of none, without bodies", new OrbitsWed().start(0), 0);
        OrbitsWed x = sky(60, 0, 60, 59, 60, 1, 1, 0, 59, 0, 58, 1);
        due("of none", x.start(0), 0);
        due("now", x.start(1), 0);
        due("on day 1", x.start(2), 1);
        due("on the last day of a round", x.start(4), 59);
        due("of round 1: now", x.start(8), 0);
        due("two that are there now", x.start(17), 0);
        due("never: 0 and 1 of 60", x.start(5), NOT);
        due("never: even and odd days", x.start(33), NOT);
        due("59 and 60 at 59", x.start(18), 59 * 59);
        OrbitsWed y = sky(59, 1, 53, 1, 47, 1, 43, 1, 41, 1, 37, 1, 60, 1, 49, 1);
        due("the latest day of all", y.start(255), 59L * 53 * 47 * 43 * 41 * 37 * 60 * 49 - 1);
        OrbitsWed z = sky(12, 9, 18, 9, 8, 5);
        due("rounds that share parts: 3 by 12, 9 by 18", z.start(3), 27);
        due("and 3 by 8", z.start(7), 27);
        due("never: 3 by 12 and 10 by 18", sky(12, 9, 18, 8).start(3), NOT);
    }

    private void startBad() {
        test(13, "Long.MIN_VALUE: BAD; NOT.");
        sets("start", bodies -> {
            OrbitsWed x = crowdOf(bodies, 5, 0);
            return x::start;
        }, NO_LONG);
        OrbitsWed x = sky(2, 0, 2, 1);
        due("never", x.start(3), NOT);
        due("BAD, though two of them never", x.start(7), NO_LONG);
    }

    private void mood() {
        test(TERMS, "MOOD of one on a day: all its LIKES for whom it MEETS.");
        also(14, "MOOD.");
        OrbitsWed x = crowdOf(8, 60, 59);
        for (int other = 0; other < 7; other++) x.mend(70 + other, LIKES, 9);
        due("all of seven", x.mood(7, 0), 63);
        due("on the last day", x.mood(7, 99999), 63);
        for (int other = 0; other < 7; other++) x.mend(70 + other, LIKES, -9);
        due("none of seven", x.mood(7, 0), -63);
        due("who likes nobody", x.mood(0, 0), 0);
        OrbitsWed y = sky(60, 0, 1, 0);
        y.mend(1, LIKES, -4);
        y.mend(10, LIKES, 7);
        due("of whom it meets, on day 0", y.mood(0, 0), -4);
        due("of whom it meets no more, on day 2", y.mood(0, 2), 0);
        due("the other one's", y.mood(1, 0), 7);
        due("nobody to meet", sky(5, 0).mood(0, 0), 0);
    }

    private void moodVoid() {
        test(14, "VOID: BAD.");
        OrbitsWed x = crowdOf(8, 5, 0);
        within("ones", one -> x.mood(one, 0), 0, 7, VOID);
        within("days", day -> x.mood(7, day), 0, 99999, VOID);
        due("nobody", new OrbitsWed().mood(0, 0), VOID);
    }

    private void best() {
        test(TERMS, "BEST DAY: of n days (1 .. 999) from a day on that of greatest MOOD (of like ones the first): it; that.");
        also(15, "BEST DAY (dn: 1000 times the day (0 .. 9999), and n): it (what 0), that (1).");
        OrbitsWed x = meetingOn(39);
        x.mend(1, LIKES, 5);
        within("n on day 0", n -> x.best(0, n, 0), 1, 999, VOID);
        due("39 days: of like ones the first", x.best(0, 39, 0), 0);
        due("39 days: the mood", x.best(0, 39, 1), 0);
        due("40 days: the last one", x.best(0, 40, 0), 39);
        due("40 days: the mood", x.best(0, 40, 1), 5);
        due("999 days: the first of many", x.best(0, 999, 0), 39);
        due("from that day on", x.best(0, 39999, 0), 39);
        due("from the next day on", x.best(0, 40999, 0), 99);
        due("one day", x.best(0, 38001, 0), 38);
        due("day 9999, one day", x.best(0, 9999001, 0), 9999);
        due("day 9999, the mood: it is 39 by 60", x.best(0, 9999001, 1), 5);
        due("day 9940, 999 days", x.best(0, 9940999, 0), 9999);
        x.mend(1, LIKES, -5);
        due("all days but that one: the first", x.best(0, 39002, 0), 40);
        due("all days but that one: the mood", x.best(0, 39002, 1), 0);
        due("that one alone", x.best(0, 39001, 1), -5);
        OrbitsWed y = sky(5, 0, 5, 0);
        y.mend(1, LIKES, -9);
        due("each day the least mood: the first", y.best(0, 7999, 0), 7);
        due("the least mood", y.best(0, 7999, 1), -9);
    }

    private void bestVoid() {
        test(15, "VOID: BAD.");
        OrbitsWed x = crowdOf(8, 5, 0);
        within("ones", one -> x.best(one, 1, 0), 0, 7, VOID);
        within("whats", what -> x.best(7, 1, what), 0, 1, VOID);
        within("dn", dn -> x.best(7, dn, 0), 1, 9999999, VOID);
        due("day 1, no days", x.best(0, 1000, 0), VOID);
        due("day 9999, no days", x.best(0, 9999000, 0), VOID);
        due("day 10000, a day", x.best(0, 10000001, 0), VOID);
        due("day -1, 999 days", x.best(0, -1, 0), VOID);
        due("day -1, 1 day", x.best(0, -999, 0), VOID);
    }

    private void sign() {
        test(TERMS, "SIGN: the first day from a day on (to 99999) on which none of a set MEETS anybody (NOT); "
            + "how many such there are in n days.");
        also(16, "SIGN: the first day (n 0; NOT), how many in n days.");
        OrbitsWed x = sky(60, 0, 1, 0, 60, 30);
        x.mend(0, NEAR, 90);
        due("the first one", x.sign(1, 0, 0), 16);
        due("the second one is met by the first one or by the third one", x.sign(2, 0, 0), NOT);
        due("nor both", x.sign(3, 0, 0), NOT);
        OrbitsWed y = sky(60, 20, 1, 0);
        y.mend(0, NEAR, 90);
        due("free now", y.sign(1, 0, 0), 0);
        due("free on that day", y.sign(1, 24, 0), 24);
        due("not from 25 on: 31 days", y.sign(1, 25, 0), 56);
        due("in 25 days", y.sign(1, 0, 25), 25);
        due("in 26 days", y.sign(1, 0, 26), 25);
        due("in 56 days", y.sign(1, 0, 56), 25);
        due("in 57 days", y.sign(1, 0, 57), 26);
        due("of the other one as well", y.sign(2, 25, 0), 56);
        due("the latest days: 99984 is 24 by 60", y.sign(3, 99984, 0), 99984);
        due("none up to the last day", y.sign(3, 99985, 0), NOT);
        due("none in days behind the last one", y.sign(3, 99985, 15), 0);
        due("days behind the last one count", y.sign(3, 99985, 32), 1);
        due("an empty set: none MEETS", y.sign(0, 30, 0), 30);
        due("an empty set on the last day", y.sign(0, 99999, 0), 99999);
        due("an empty set: all days", y.sign(0, 30, 999), 999);
        due("without bodies", new OrbitsWed().sign(0, 5, 0), 5);
        OrbitsWed late = sky(1, 0, 4, 3, 5, 4, 3, 0);
        late.mend(0, NEAR, 90);
        due("behind all their rounds: 3 by 4, 3 or 4 by 5, not 0 by 3", late.sign(1, 0, 0), 19);
        due("the next one", late.sign(1, 20, 0), 23);
        due("in 60 days", late.sign(1, 0, 60), 4);
        OrbitsWed z = sky(60, 0, 60, 0, 60, 30);
        due("never: one meets another one that is not of the set", z.sign(1, 0, 0), NOT);
        due("the third one alone", z.sign(4, 0, 0), 0);
        due("with the third one: never", z.sign(6, 0, 0), NOT);
        due("with the third one: in no day", z.sign(6, 0, 999), 0);
    }

    private void signBad() {
        test(16, "BAD.");
        sets("sign", bodies -> {
            OrbitsWed x = crowdOf(bodies, 5, 0);
            return set -> x.sign(set, 0, 1);
        }, BAD);
        OrbitsWed x = sky(5, 0, 7, 3);
        within("days", day -> x.sign(0, day, 1), 0, 99999, BAD);
        within("days, the first", day -> x.sign(0, day, 0), 0, 99999, BAD);
        within("n", n -> x.sign(0, 0, n), 0, 999, BAD);
    }

    private void nudge() {
        test(TERMS, "NUDGE: by how few PLACES (on or back) one should be moved now so that it MEETS another one on a day "
            + "BY THE CLOCK: that (on: above 0, back: below; of like ones on); NOT: by none.");
        also(17, "NUDGE.");
        OrbitsWed x = sky(60, 0, 60, 1, 60, 59, 60, 29, 60, 30, 60, 31);
        x.mend(0, NEAR, 0);
        int[] nudges = {1, -1, 29, 30, -29};
        for (int other = 1; other <= 5; other++) {
            due("for " + other, x.nudge(other, 0), nudges[other - 1]);
            due("for " + other + " on the last day", x.nudge(other, 99999), nudges[other - 1]);
        }
        x.mend(0, NEAR, 6);
        due("none is needed", x.nudge(1, 0), 0);
        due("29: of like ones on", x.nudge(4, 0), 29);
        OrbitsWed y = sky(1, 0, 4, 1, 2, 1, 2, 0);
        due("round 1, by none", y.nudge(1, 0), -1000);
        due("round 1, on day 3", y.nudge(1, 3), 0);
        due("round 2: on", y.nudge(23, 0), 1);
        due("round 4 and 1", y.nudge(10, 0), -1);
        due("round 2 and 4, on day 1: 0 and 180", y.nudge(21, 1), 1);
        due("round 2 and 4, now: by none", y.nudge(21, 0), -1000);
        due("nothing is moved", x.of(0, PLACE), 0);
    }

    private void nudgeVoid() {
        test(17, "VOID: BAD; NOT is -1000.");
        OrbitsWed x = crowdOf(8, 5, 0);
        pairs("nudge", ab -> x.nudge(ab, 0), VOID);
        within("days", day -> x.nudge(76, day), 0, 99999, VOID);
        due("by none", sky(1, 0, 2, 1).nudge(1, 0), -1000);
        due("by none, BAD all the same", sky(1, 0, 2, 1).nudge(1, -1), VOID);
    }

    private void never() {
        test(TERMS, "NEVER: from how many of all its PLACES (0 .. ROUND less 1, now) one does not MEET another one "
            + "within n days (1 .. 999) from now; the least; NOT: none.");
        also(18, "NEVER: how many (what 0), the least (1; NOT).");
        OrbitsWed x = sky(4, 0, 4, 1, 4, 2, 1, 0);
        x.mend(0, NEAR, 90);
        due("the last place only: how many", x.never(1, 1, 0), 1);
        due("the last place only: the least", x.never(1, 1, 1), 3);
        due("as long as can be: how many", x.never(1, 999, 0), 1);
        due("as long as can be: the least", x.never(1, 999, 1), 3);
        due("the first place only: how many", x.never(2, 1, 0), 1);
        due("the first place only: the least", x.never(2, 1, 1), 0);
        due("one day: how many", x.never(3, 1, 0), 1);
        due("one day: the least", x.never(3, 1, 1), 2);
        due("two days: none", x.never(3, 2, 0), 0);
        due("two days: no least", x.never(3, 2, 1), NOT);
        due("round 1 and the opposite one: its only place", x.never(32, 1, 0), 1);
        due("round 1: the least", x.never(32, 1, 1), 0);
        due("round 1, a day later it does", x.never(32, 2, 0), 0);
        OrbitsWed y = sky(60, 7, 1, 0);
        y.mend(0, NEAR, 0);
        due("a day: all but place 0", y.never(1, 1, 0), 59);
        due("a day: the least", y.never(1, 1, 1), 1);
        due("59 days: place 1 alone", y.never(1, 59, 0), 1);
        due("59 days: the least", y.never(1, 59, 1), 1);
        due("60 days: none", y.never(1, 60, 0), 0);
        due("from where it is is of no matter", y.of(0, PLACE), 7);
    }

    private void neverBad() {
        test(18, "BAD.");
        OrbitsWed x = crowdOf(8, 5, 0);
        pairs("never", ab -> x.never(ab, 1, 0), BAD);
        within("n", n -> x.never(76, n, 0), 1, 999, BAD);
        within("n, the least", n -> x.never(76, n, 1), 1, 999, BAD);
        within("whats", what -> x.never(76, 999, what), 0, 1, BAD);
        OrbitsWed y = sky(5, 0, 5, 0);
        y.mend(0, NEAR, 90);
        due("none, BAD all the same", y.never(1, 1000, 1), BAD);
    }

    private void scene() {
        test(TERMS, "A SCENE: how many days ago (1 .. 3600) two were last at the very same part of their rounds "
            + "(as fractions); NOT.");
        also(19, "A SCENE.");
        due("yesterday", sky(1, 0, 1, 0).scene(1), 1);
        due("yesterday, in step", sky(60, 0, 60, 0).scene(1), 1);
        due("not today: 59 and 60 are now", sky(60, 0, 59, 0).scene(1), 3540);
        due("the day ahead of it: yesterday", sky(60, 1, 59, 1).scene(1), 1);
        due("the longest ago, but for one", sky(60, 59, 59, 58).scene(1), 3539);
        due("halves of unlike rounds", sky(2, 0, 4, 3).scene(1), 1);
        due("1 by 2 and 2 by 4, two days ago", sky(2, 1, 4, 0).scene(1), 2);
        due("thirds of 3 and 60", sky(3, 2, 60, 21).scene(1), 1);
        due("both ways", sky(60, 21, 3, 2).scene(10), 1);
        due("never: 0 and 1 of 60", sky(60, 0, 60, 1).scene(1), NOT);
        due("never, the other way", sky(60, 0, 60, 1).scene(10), NOT);
        OrbitsWed last = sky(1, 0, 1, 0, 1, 0, 1, 0, 1, 0, 1, 0, 60, 0, 59, 0);
        due("the last two", last.scene(67), 3540);
        due("the last two, the other way", last.scene(76), 3540);
        due("the last one and the first one", last.scene(70), 59);
        due("58 by 60 and 29 by 30", sky(60, 0, 30, 1).scene(1), 2);
        due("6 degrees of 60 and 59 are not the same part", sky(60, 2, 59, 2).scene(1), 2);
        due("1 by 2 and 2 by 4, three days ago", sky(2, 0, 4, 1).scene(1), 3);
    }

    private void sceneBad() {
        test(19, "BAD; NOT.");
        OrbitsWed x = crowdOf(8, 5, 0);
        pairs("scene", ab -> x.scene(ab), BAD);
        due("never", sky(5, 0, 5, 1).scene(1), NOT);
        due("one alone", sky(5, 0).scene(1), BAD);
    }
}
