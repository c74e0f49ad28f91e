/** Part 1 of the Terms, but for the law; promises 1 to 6. */
final class EdgesOfBodies extends Edge {
    EdgesOfBodies(Sentences sentences) {
        super(sentences);
    }

    @Override
    void run() {
        plain(TERMS, "======== 1 ");
        plain(TERMS, "```text");
        plain(TERMS, "``` ========");
        plain(TERMS, "```");
        numbersOfBodies();
        rounds();
        places();
        weights();
        likes();
        near();
        degrees();
        lessWay();
        meeting();
        byTheClock();
        emptySky();
        orb();
        orbsCame();
        orbsRefused();
        mend();
        mendVoid();
        of();
        ofVoid();
        feed();
        feedRefused();
    }

    private void numbersOfBodies() {
        test(TERMS, "BODIES 0 .. 7, as they come:");
        OrbitsWed x = new OrbitsWed();
        due("of the first one, ahead of all", x.of(0, ROUND), VOID);
        for (int one = 0; one < 8; one++) {
            due("orb as body " + one, x.orb(9 + one, one), one);
            due("its round", x.of(one, ROUND), 9 + one);
            due("the one behind it", x.of(one + 1, ROUND), VOID);
        }
        due("orb as body 8", x.orb(9, 8), FULL);
        due("the first one's place", x.of(0, PLACE), 0);
        due("the last one's place", x.of(7, PLACE), 7);
        due("how many", x.count(0), 8);
        within("at", one -> x.at(one, 0, 0), 0, 7, BAD);
    }

    private void rounds() {
        test(TERMS, "ROUND (1 .. 60 days),");
        within("orb by rounds", round -> new OrbitsWed().orb(round, 0), 1, 60, BAD);
        due("the least one", sky(1, 0).of(0, ROUND), 1);
        due("the greatest one", sky(60, 0).of(0, ROUND), 60);
        due("0 in a row", rowOf(new OrbitsWed(), 0, BYTES, 0, 0, 1).orbs(0, 0, 1), 0);
        due("1 in a row", rowOf(new OrbitsWed(), 0, BYTES, 1, 0, 1).orbs(0, 0, 1), 1);
        due("60 in a row", rowOf(new OrbitsWed(), 0, BYTES, 60, 0, 1).orbs(0, 0, 1), 1);
        due("61 in a row", rowOf(new OrbitsWed(), 0, BYTES, 61, 0, 1).orbs(0, 0, 1), 0);
        due("-1 in a row", rowOf(new OrbitsWed(), 0, BYTES, -1, 0, 1).orbs(0, 0, 1), 0);
    }

    private void places() {
        test(TERMS, "PLACE (0 .. ROUND less 1: where it is now, that is, on day 0),");
        for (int round : new int[] {1, 2, 7, 59, 60}) {
            within("orb of round " + round + " by places", place -> new OrbitsWed().orb(round, place), 0, round - 1, BAD);
            within("mend of round " + round + " by places", place -> sky(round, 0).mend(0, PLACE, place), 0, round - 1, VOID);
            due("round " + round + " in a row, its last place",
                rowOf(new OrbitsWed(), 0, BYTES, round, round - 1, 1).orbs(0, 0, 1), 1);
            due("round " + round + " in a row, behind it", rowOf(new OrbitsWed(), 0, BYTES, round, round, 1).orbs(0, 0, 1), 0);
            due("round " + round + " in a row, below 0", rowOf(new OrbitsWed(), 0, BYTES, round, -1, 1).orbs(0, 0, 1), 0);
        }
        OrbitsWed x = sky(60, 59, 1, 0);
        due("on day 0", x.at(0, 0, 0), 59);
        x.day();
        due("on day 0, a day later", x.at(0, 0, 0), 0);
        due("the only place, a day later", x.at(1, 0, 0), 0);
    }

    private void weights() {
        test(TERMS, "WEIGHT (0 .. 9; 1 at first).");
        within("mend", v -> sky(5, 0).mend(0, WEIGHT, v), 0, 9, VOID);
        OrbitsWed x = crowdOf(8, 5, 0);
        for (int one = 0; one < 8; one++) due("at first, body " + one, x.of(one, WEIGHT), 1);
        for (int weight = -1; weight <= 10; weight++) {
            due(weight + " in a row", rowOf(new OrbitsWed(), 0, BYTES, 5, 0, weight).orbs(0, 0, 1),
                weight < 0 || weight > 9 ? 0 : 1);
        }
    }

    private void likes() {
        test(TERMS, "LIKES of one for another one (-9 .. 9; 0 at first).");
        within("mend", v -> sky(5, 0, 5, 0).mend(1, LIKES, v), -9, 9, VOID);
        OrbitsWed x = crowdOf(8, 5, 0);
        for (int a = 0; a < 8; a++) {
            for (int b = 0; b < 8; b++) due("at first, " + a + b, x.of(10 * a + b, LIKES), a == b ? VOID : 0);
        }
        x.mend(7, LIKES, -9);
        x.mend(70, LIKES, 9);
        due("of the first one for the last one", x.of(7, LIKES), -9);
        due("of the last one for the first one", x.of(70, LIKES), 9);
        due("of the last one for the second one", x.of(71, LIKES), 0);
    }

    private void near() {
        test(TERMS, "NEAR (0 .. 90 degrees; 10 at first).");
        within("mend", v -> new OrbitsWed().mend(0, NEAR, v), 0, 90, VOID);
        due("at first", new OrbitsWed().of(0, NEAR), 10);
        due("10 apart", sky(36, 0, 36, 1).apart(1, 0, 1), 1);
        due("11 apart", sky(32, 0, 32, 1).apart(1, 0, 1), 0);
    }

    private void degrees() {
        test(TERMS, "A body at a PLACE is at 360 times it by ROUND degrees (cut).");
        int[] ofSeven = {0, 51, 102, 154, 205, 257, 308};
        OrbitsWed x = sky(7, 0, 1, 0, 60, 59, 59, 58, 11, 10);
        for (int day = 0; day < 7; day++) due("place " + day + " of 7", x.at(0, day, 1), ofSeven[day]);
        due("the only place", x.at(1, 0, 1), 0);
        due("the last place of 60", x.at(2, 0, 1), 354);
        due("the last place of 59: 353.8", x.at(3, 0, 1), 353);
        due("the last place of 11: 327.2", x.at(4, 0, 1), 327);
    }

    private void lessWay() {
        test(TERMS, "Two are APART by the less of both ways round.");
        OrbitsWed x = sky(60, 0, 60, 0, 60, 29, 60, 30, 60, 31, 60, 59);
        int[] gaps = {0, 174, 180, 174, 6};
        for (int other = 1; other <= 5; other++) {
            due("of 0 and " + other, x.apart(other, 0, 0), gaps[other - 1]);
            due("of " + other + " and 0", x.apart(10 * other, 0, 0), gaps[other - 1]);
        }
        OrbitsWed y = sky(7, 0, 7, 4, 7, 3);
        due("cut ahead of it: 205 round the other way", y.apart(1, 0, 0), 155);
        due("154", y.apart(2, 0, 0), 154);
    }

    private void meeting() {
        test(TERMS, "They MEET, if that is NEAR or less.");
        OrbitsWed x = sky(60, 0, 60, 59, 60, 15, 60, 16, 60, 0);
        x.mend(0, NEAR, 6);
        due("6 apart, near 6", x.apart(1, 0, 1), 1);
        x.mend(0, NEAR, 5);
        due("6 apart, near 5", x.apart(1, 0, 1), 0);
        x.mend(0, NEAR, 0);
        due("0 apart, near 0", x.apart(4, 0, 1), 1);
        due("6 apart, near 0", x.apart(1, 0, 1), 0);
        x.mend(0, NEAR, 90);
        due("90 apart, near 90", x.apart(2, 0, 1), 1);
        due("90 apart, near 90, the other way", x.apart(20, 0, 1), 1);
        due("96 apart, near 90", x.apart(3, 0, 1), 0);
        x.mend(0, NEAR, 89);
        due("90 apart, near 89", x.apart(2, 0, 1), 0);
    }

    private void byTheClock() {
        test(TERMS, "BY THE CLOCK a body is on a day d (0 .. 99999) at PLACE and d, the rest by ROUND.");
        OrbitsWed x = sky(5, 4, 60, 59, 1, 0);
        within("at by days", day -> x.at(0, day, 0), 0, 99999, BAD);
        within("apart by days", day -> x.apart(1, day, 0), 0, 99999, BAD);
        due("day 0", x.at(0, 0, 0), 4);
        due("day 1: round to 0", x.at(0, 1, 0), 0);
        due("day 5", x.at(0, 5, 0), 4);
        due("the last day: 100003 by 5", x.at(0, 99999, 0), 3);
        due("the last day: 100058 by 60", x.at(1, 99999, 0), 38);
        due("the last day, round 1", x.at(2, 99999, 0), 0);
    }

    private void emptySky() {
        test(1, "An empty sky.");
        OrbitsWed x = new OrbitsWed();
        for (int what = 0; what <= 4; what++) due("count " + what, x.count(what), 0);
        for (int what = 0; what <= 3; what++) due("led " + what, x.led(what), 0);
        for (int shelf = 0; shelf <= 5; shelf++) due("whose, shelf " + shelf, x.whose(shelf), NOTHING);
        due("near", x.of(0, NEAR), 10);
        due("the first one", x.of(0, PLACE), VOID);
        due("the whole sky together", x.together(0), 1);
        due("the first one alone", x.together(1), NO_LONG);
        due("a day", x.day(), 0);
        due("undo", x.undo(), STATE);
        due("redo", x.redo(), STATE);
        due("back", x.back(), STATE);
        due("the first body of acts", x.keep(0, 0), BAD);
        due("trace", x.trace(0), BAD);
        due("an empty tape", x.law(), -100);
    }

    private void orb() {
        test(2, "A body: its number. BAD, FULL: 8.");
        OrbitsWed x = crowdOf(7, 5, 4);
        due("a wrong round", x.orb(0, 0), BAD);
        due("a wrong place", x.orb(5, 5), BAD);
        due("both wrong", x.orb(61, -1), BAD);
        due("none came by those", x.count(0), 7);
        due("the eighth", x.orb(5, 0), 7);
        due("a ninth", x.orb(5, 0), FULL);
        due("a tenth", x.orb(60, 59), FULL);
        due("BAD ahead of FULL, the round", x.orb(0, 0), BAD);
        due("BAD ahead of FULL, the place", x.orb(5, 5), BAD);
        due("eight", x.count(0), 8);
    }

    private void orbsCame() {
        test(3, "BODIES FROM A ROW on a SHELF, from place i on, n (1 .. 8) of them: how many came.");
        within("orbs by n", n -> rowOf(new OrbitsWed(), 0, BYTES, 5, 0, 1).orbs(0, 0, n), 1, 8, BAD);
        OrbitsWed x = new OrbitsWed();
        x.row(5, BYTES, 60);
        for (int i = 0; i < 60; i++) x.put(5, i, i % 3 == 0 ? 20 + i / 3 : i % 3 == 1 ? i / 3 : 9);
        due("the last three of 60", x.orbs(5, 57, 1), 1);
        due("its round", x.of(0, ROUND), 39);
        due("the first one only", x.orbs(5, 0, 1), 1);
        due("its round", x.of(1, ROUND), 20);
        due("two from place 3 on", x.orbs(5, 3, 2), 2);
        due("the latter one's place", x.of(3, PLACE), 2);
        due("the latter one's weight", x.of(3, WEIGHT), 9);
        due("eight, of whom four have room", x.orbs(5, 0, 8), 4);
        due("all eight at once", rowOf(new OrbitsWed(), 0, BYTES, 1, 0, 1, 1, 0, 1, 1, 0, 1, 1, 0, 1, 1, 0, 1, 1, 0, 1,
            1, 0, 1, 1, 0, 1, 1, 0, 1).orbs(0, 0, 8), 8);
    }

    private void orbsRefused() {
        test(3, "BAD, -12 (no ROW of bytes; a SHELF that holds nothing is missing).");
        within("orbs by shelves", shelf -> new OrbitsWed().orbs(shelf, 0, 1), 0, 5, BAD);
        OrbitsWed x = shelves();
        due("a mood", x.orbs(0, 0, 1), OTHER);
        for (int shelf = 2; shelf <= 5; shelf++) due("a row of sort " + (shelf - 1), x.orbs(shelf, 0, 1), OTHER);
        due("BAD ahead of -12, n 0", x.orbs(0, 0, 0), BAD);
        due("BAD ahead of -12, n 9", x.orbs(5, 0, 9), BAD);
        due("-12 ahead of a place that is not there", x.orbs(2, 60, 1), OTHER);
        due("-12 ahead of a place below 0", x.orbs(0, -1, 1), OTHER);
        x.keep(0, -1);
        due("nothing: the row is missing", x.orbs(0, 0, 8), 0);
        due("nothing, BAD all the same", x.orbs(0, 0, 9), BAD);
        due("nothing, from below 0", x.orbs(0, -1, 1), 0);
        due("none came", x.count(0), 0);
        OrbitsWed full = rowOf(crowdOf(8, 5, 0), 0, SHORTS, 5, 0, 1);
        due("-12, though the sky is full", full.orbs(0, 0, 1), OTHER);
    }

    private void mend() {
        test(4, "PLACE (what 0), WEIGHT (1) of one, LIKES (2; number ab), NEAR (3; number 0) becomes v: what it was.");
        OrbitsWed x = crowdOf(8, 60, 0);
        int[][] ends = {{0, PLACE, 59, 0}, {7, PLACE, 59, 0}, {0, PLACE, 0, 59}, {7, PLACE, 0, 59}, {0, WEIGHT, 9, 1},
            {7, WEIGHT, 0, 1}, {0, WEIGHT, 0, 9}, {7, WEIGHT, 9, 0}, {1, LIKES, -9, 0}, {1, LIKES, 9, -9},
            {76, LIKES, 9, 0}, {76, LIKES, -9, 9}, {0, NEAR, 0, 10}, {0, NEAR, 90, 0}, {0, NEAR, 90, 90}};
        for (int[] end : ends) {
            String call = "mend " + end[0] + ", " + end[1] + ", " + end[2];
            due(call, x.mend(end[0], end[1], end[2]), end[3]);
            due("of then", x.of(end[0], end[1]), end[2]);
        }
    }

    private void mendVoid() {
        test(4, "VOID: BAD.");
        OrbitsWed x = crowdOf(8, 60, 0);
        within("by whats", what -> x.mend(what == LIKES ? 1 : 0, what, 0), PLACE, NEAR, VOID);
        within("place by ones", one -> x.mend(one, PLACE, 0), 0, 7, VOID);
        within("weight by ones", one -> x.mend(one, WEIGHT, 0), 0, 7, VOID);
        within("near by numbers", number -> x.mend(number, NEAR, 10), 0, 0, VOID);
        pairs("likes", ab -> x.mend(ab, LIKES, 0), VOID);
        OrbitsWed y = sky(5, 0);
        due("likes of the only one", y.mend(0, LIKES, 0), VOID);
        due("likes for one not there", y.mend(1, LIKES, 0), VOID);
        due("likes of one not there", y.mend(10, LIKES, 0), VOID);
        due("weight of one not there", y.mend(1, WEIGHT, 0), VOID);
        due("near without bodies", new OrbitsWed().mend(0, NEAR, 0), 10);
        due("place without bodies", new OrbitsWed().mend(0, PLACE, 0), VOID);
    }

    private void of() {
        test(5, "As of mend() (0 to 3); of one 4 its ROUND.");
        OrbitsWed x = sky(60, 59, 1, 0);
        x.mend(10, LIKES, -9);
        x.mend(0, NEAR, 90);
        x.mend(1, WEIGHT, 9);
        int[][] numbers = {{0, PLACE, 59}, {1, PLACE, 0}, {0, WEIGHT, 1}, {1, WEIGHT, 9}, {1, LIKES, 0}, {10, LIKES, -9},
            {0, NEAR, 90}, {0, ROUND, 60}, {1, ROUND, 1}};
        for (int[] number : numbers) due("of " + number[0] + ", " + number[1], x.of(number[0], number[1]), number[2]);
    }

    private void ofVoid() {
        test(5, "VOID: BAD.");
        OrbitsWed x = crowdOf(8, 60, 0);
        within("place by ones", one -> x.of(one, PLACE), 0, 7, VOID);
        within("weight by ones", one -> x.of(one, WEIGHT), 0, 7, VOID);
        within("near by numbers", number -> x.of(number, NEAR), 0, 0, VOID);
        within("round by ones", one -> x.of(one, ROUND), 0, 7, VOID);
        pairs("likes", ab -> x.of(ab, LIKES), VOID);
        OrbitsWed y = sky(60, 0);
        within("by whats", what -> y.of(0, what == LIKES ? PLACE : what), PLACE, ROUND, VOID);
        due("round without bodies", new OrbitsWed().of(0, ROUND), VOID);
    }

    private void feed() {
        test(6, "A byte (0 .. 255) comes to THE TAPE: how many it has.");
        within("feed", letter -> new OrbitsWed().feed(letter), 0, 255, BAD);
        OrbitsWed x = new OrbitsWed();
        for (int i = 1; i <= 120; i++) {
            due("byte " + i, x.feed(i % 2 == 0 ? 0 : 255), i);
            due("the tape has", x.count(1), i);
        }
    }

    private void feedRefused() {
        test(6, "BAD, FULL (120).");
        OrbitsWed x = new OrbitsWed();
        due("below 0", x.feed(-1), BAD);
        due("256", x.feed(256), BAD);
        due("none came by those", x.count(1), 0);
        for (int i = 1; i <= 119; i++) x.feed('l');
        due("the last one that has room", x.feed('l'), 120);
        due("one more", x.feed('l'), FULL);
        due("and again", x.feed(0), FULL);
        due("BAD ahead of FULL, below 0", x.feed(-1), BAD);
        due("BAD ahead of FULL, 256", x.feed(256), BAD);
        due("120", x.count(1), 120);
        x.law();
        due("there is room behind law()", x.feed('l'), 1);
    }
}
