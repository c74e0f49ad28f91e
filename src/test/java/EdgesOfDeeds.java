/** Of part 4 of the Terms what is done IN DEED; promises 31 to 37. */
final class EdgesOfDeeds extends Edge {
    EdgesOfDeeds(Sentences sentences) {
        super(sentences);
    }

    @Override
    void run() {
        day();
        dayInDeed();
        nudgedBy();
        nudged();
        led();
        ledBad();
        changes();
        sameNumber();
        latestFirst();
        doneAgain();
        fortyAtMost();
        deedsAreNone();
        undo();
        redo();
        imageKeeps();
        image();
        back();
        backState();
    }

    private void day() {
        test(31, "A day passes: how many pushes.");
        due("without bodies", new OrbitsWed().day(), 0);
        due("one alone", sky(5, 0).day(), 0);
        OrbitsWed x = ruled(crowdOf(8, 60, 0), "9");
        due("each of eight by seven", x.day(), 56);
        due("by 0", ruled(crowdOf(8, 60, 0), "0").day(), 0);
        for (int one = 0; one < 8; one++) due("place of " + one, x.of(one, PLACE), 4);
    }

    private void dayInDeed() {
        test(TERMS, "IN DEED: a day passes, PUSHED (d is 0);");
        OrbitsWed x = ruled(crowdOf(2, 60, 58), "d+1");
        due("the first day", x.day(), 2);
        due("its place: round to 0", x.of(0, PLACE), 0);
        due("the second day", x.day(), 2);
        due("d is 0 again", x.of(0, PLACE), 2);
        due("foreseen, d grows", x.later(0, 2), 2 + 2 + 3);
    }

    private void nudgedBy() {
        test(TERMS, "one is NUDGED by v (-9 .. 9).");
        OrbitsWed x = sky(60, 5, 7, 0, 1, 0);
        within("nudged", v -> x.nudged(0, v), -9, 9, BAD);
        due("by 9 and -9 and by nothing else", x.of(0, PLACE), 5);
        due("below 0", x.nudged(0, -6), 59);
        due("above the last place", x.nudged(0, 1), 0);
        due("by 9, more than a round", x.nudged(1, 9), 2);
        due("by -9, more than a round", x.nudged(1, -9), 0);
        due("by 0", x.nudged(1, 0), 0);
        due("round 1", x.nudged(2, -9), 0);
    }

    private void nudged() {
        test(32, "One is NUDGED: PLACE then. BAD.");
        OrbitsWed x = crowdOf(8, 5, 0);
        within("ones", one -> x.nudged(one, 1), 0, 7, BAD);
        due("the first one's place", x.of(0, PLACE), 1);
        due("the last one's place", x.of(7, PLACE), 1);
        due("the others are not nudged", x.of(1, PLACE), 0);
        due("nobody, by 10", x.nudged(8, 10), BAD);
        due("two nudges", x.led(3), 2);
        due("without bodies", new OrbitsWed().nudged(0, 0), BAD);
    }

    private void led() {
        test(TERMS, "LED: days, pushes other than 0, meetings (of two, as days began), nudges.");
        plain(33, "LED: days (what 0), pushes (1), meetings (2), nudges (3).");
        OrbitsWed x = crowdOf(8, 60, 0);
        x.mend(7, LIKES, 1);
        x.day();
        due("days", x.led(0), 1);
        due("pushes: those by 0 are none", x.led(1), 1);
        due("meetings of eight", x.led(2), 28);
        due("no nudges", x.led(3), 0);
        x.nudged(0, 0);
        x.nudged(0, -9);
        x.nudged(0, 10);
        x.nudged(8, 0);
        due("nudges: those that are refused are none", x.led(3), 2);
        due("a nudge is no day", x.led(0), 1);
        due("nor a push", x.led(1), 1);
        OrbitsWed y = sky(60, 58, 1, 0);
        y.day();
        due("no meeting as the first day began", y.led(2), 0);
        y.day();
        due("one as the second one began", y.led(2), 1);
    }

    private void ledBad() {
        test(33, "BAD.");
        within("whats", what -> new OrbitsWed().led(what), 0, 3, BAD);
    }

    private void changes() {
        test(TERMS, "CHANGES (all numbers of mend();");
        OrbitsWed x = sky(60, 3, 60, 4);
        int[][] mends = {{1, PLACE, 59, 4}, {0, WEIGHT, 9, 1}, {10, LIKES, -9, 0}, {0, NEAR, 90, 10}};
        for (int[] mend : mends) x.mend(mend[0], mend[1], mend[2]);
        for (int k = 3; k >= 0; k--) {
            due("undo, then still", x.undo(), k);
            due("what it was, " + mends[k][1], x.of(mends[k][0], mends[k][1]), mends[k][3]);
        }
        for (int k = 0; k < 4; k++) {
            due("redo, then still", x.redo(), 3 - k);
            due("what it became, " + mends[k][1], x.of(mends[k][0], mends[k][1]), mends[k][2]);
        }
    }

    private void sameNumber() {
        test(TERMS, "telling the same number is none)");
        OrbitsWed x = sky(60, 3, 60, 4);
        due("place", x.mend(0, PLACE, 3), 3);
        due("weight", x.mend(0, WEIGHT, 1), 1);
        due("likes", x.mend(1, LIKES, 0), 0);
        due("near", x.mend(0, NEAR, 10), 10);
        due("no changes", x.count(2), 0);
        due("nothing to undo", x.undo(), STATE);
        x.mend(0, NEAR, 20);
        x.undo();
        due("the same number once more", x.mend(0, NEAR, 10), 10);
        due("what was undone may be done again", x.redo(), 0);
        due("near", x.of(0, NEAR), 20);
    }

    private void latestFirst() {
        test(TERMS, "can be UNDONE, the latest first,");
        OrbitsWed x = new OrbitsWed();
        x.mend(0, NEAR, 0);
        x.mend(0, NEAR, 90);
        x.mend(0, NEAR, 0);
        x.undo();
        due("the third one", x.of(0, NEAR), 90);
        x.undo();
        due("the second one", x.of(0, NEAR), 0);
        x.undo();
        due("the first one", x.of(0, NEAR), 10);
        due("no more", x.undo(), STATE);
        due("near stays", x.of(0, NEAR), 10);
    }

    private void doneAgain() {
        test(TERMS, "and DONE AGAIN (as long as no other came behind);");
        OrbitsWed x = new OrbitsWed();
        x.mend(0, NEAR, 1);
        x.mend(0, NEAR, 2);
        x.undo();
        x.undo();
        due("a wrong one comes", x.mend(0, NEAR, 91), VOID);
        due("the first one again", x.redo(), 1);
        due("another one comes", x.mend(0, NEAR, 3), 1);
        due("nothing to do again", x.redo(), STATE);
        due("near stays", x.of(0, NEAR), 3);
        due("two may be undone", x.count(2), 2);
        due("undone", x.undo(), 1);
        due("the first one's", x.of(0, NEAR), 1);
        due("the other one again", x.redo(), 0);
        due("near", x.of(0, NEAR), 3);
    }

    private void fortyAtMost() {
        test(TERMS, "40 at most are kept;");
        OrbitsWed x = new OrbitsWed();
        for (int k = 1; k <= 39; k++) x.mend(0, NEAR, 10 + k);
        due("39", x.count(2), 39);
        x.mend(0, NEAR, 50);
        due("40", x.count(2), 40);
        for (int k = 39; k >= 0; k--) due("undo, then still", x.undo(), k);
        due("as at first", x.of(0, NEAR), 10);
        for (int k = 39; k >= 0; k--) due("redo, then still", x.redo(), k);
        due("as at last", x.of(0, NEAR), 50);
        x.mend(0, NEAR, 51);
        due("40 of 41", x.count(2), 40);
        for (int k = 39; k >= 0; k--) due("undo of 41, then still", x.undo(), k);
        due("the first one stays done", x.of(0, NEAR), 11);
        due("no more", x.undo(), STATE);
        for (int k = 39; k >= 0; k--) due("redo of 41, then still", x.redo(), k);
        due("as at the very last", x.of(0, NEAR), 51);
        x.undo();
        x.mend(0, NEAR, 60);
        due("one undone, another one: 40", x.count(2), 40);
        x.undo();
        due("the one ahead of it", x.of(0, NEAR), 50);
        ofUnlikeNumbers();
        OrbitsWed y = new OrbitsWed();
        for (int k = 1; k <= 80; k++) y.mend(0, NEAR, 10 + k);
        for (int k = 0; k < 40; k++) y.undo();
        due("40 of 80", y.of(0, NEAR), 50);
    }

    // By turns of places, weights, likes and nears: each of those kept is undone and done again for itself.
    private void ofUnlikeNumbers() {
        OrbitsWed x = sky(60, 0, 60, 0);
        int[] numbers = {0, 1, 10, 0};
        int[][] told = new int[59][];
        for (int k = 0; k < 59; k++) {
            int what = k % 4;
            int v = what == PLACE ? 59 - k / 4 : what == WEIGHT ? (k / 4 + 2) % 10 : what == LIKES ? k / 4 - 7 : 90 - k / 4;
            told[k] = new int[] {x.mend(numbers[what], what, v), v};
        }
        for (int k = 58; k >= 19; k--) {
            x.undo();
            due("undone, " + k, x.of(numbers[k % 4], k % 4), told[k][0]);
        }
        due("no more than 40", x.undo(), STATE);
        for (int k = 19; k < 59; k++) {
            x.redo();
            due("done again, " + k, x.of(numbers[k % 4], k % 4), told[k][1]);
        }
        due("no more than 40 again", x.redo(), STATE);
    }

    private void deedsAreNone() {
        test(TERMS, "deeds are none (PLACE by them, too).");
        OrbitsWed x = sky(60, 3, 60, 30);
        x.mend(0, PLACE, 5);
        x.undo();
        x.day();
        x.nudged(0, 9);
        x.image();
        x.back();
        due("no changes by them", x.count(2), 0);
        due("what was undone may be done again", x.redo(), 0);
        due("place", x.of(0, PLACE), 5);
        x.day();
        x.nudged(0, 1);
        due("gone on", x.of(0, PLACE), 7);
        due("undone", x.undo(), 0);
        due("what it was at that mend()", x.of(0, PLACE), 3);
        due("the days stay", x.led(0), 2);
        due("the nudges stay", x.led(3), 2);
    }

    private void undo() {
        test(36, "UNDONE: how many may still be. STATE: none.");
        OrbitsWed x = sky(5, 0);
        due("none at first", x.undo(), STATE);
        x.mend(0, WEIGHT, 0);
        x.mend(0, WEIGHT, 9);
        due("one may still be", x.undo(), 1);
        due("none may still be", x.undo(), 0);
        due("none", x.undo(), STATE);
        due("weight", x.of(0, WEIGHT), 1);
        due("orb is no change", x.count(2), 0);
    }

    private void redo() {
        test(37, "DONE AGAIN: how many may still be. STATE: none.");
        OrbitsWed x = sky(5, 0);
        due("none at first", x.redo(), STATE);
        x.mend(0, WEIGHT, 0);
        due("none undone", x.redo(), STATE);
        x.mend(0, WEIGHT, 9);
        x.undo();
        x.undo();
        due("one may still be", x.redo(), 1);
        due("none may still be", x.redo(), 0);
        due("none", x.redo(), STATE);
        due("weight", x.of(0, WEIGHT), 9);
        due("both may be undone", x.count(2), 2);
    }

    private void imageKeeps() {
        test(TERMS, "AN IMAGE keeps PLACES, what LED tells.");
        OrbitsWed x = crowdOf(8, 60, 59);
        x.mend(7, LIKES, 9);
        x.day();
        x.nudged(7, -9);
        x.image();
        int[] places = new int[8];
        for (int one = 0; one < 8; one++) places[one] = x.of(one, PLACE);
        due("a push on the day behind it", ruled(x, "1").day() > 0 ? 1 : 0, 1);
        x.mend(7, PLACE, 30);
        x.mend(7, WEIGHT, 0);
        x.nudged(0, 5);
        due("laid back", x.back(), 1);
        for (int one = 0; one < 8; one++) due("place of " + one, x.of(one, PLACE), places[one]);
        due("days", x.led(0), 1);
        due("pushes", x.led(1), 1);
        due("meetings", x.led(2), 28);
        due("nudges", x.led(3), 1);
        due("not the weights", x.of(7, WEIGHT), 0);
        due("nor the changes", x.count(2), 3);
    }

    private void image() {
        test(34, "AN IMAGE is kept: days.");
        OrbitsWed x = sky(60, 0);
        due("of no day", x.image(), 0);
        x.day();
        due("of one day", x.image(), 1);
        x.day();
        x.day();
        due("the latest one is laid back", x.back(), 1);
        due("its place", x.of(0, PLACE), 1);
        due("of one day again", x.image(), 1);
    }

    private void back() {
        test(35, "It is laid back (BODIES that came since: PLACE as it is): days.");
        OrbitsWed x = crowdOf(7, 60, 0);
        x.image();
        x.orb(60, 59);
        x.day();
        due("laid back", x.back(), 0);
        due("the first one", x.of(0, PLACE), 0);
        due("the last one that was there", x.of(6, PLACE), 0);
        due("the one that came since", x.of(7, PLACE), 0);
        x.day();
        due("the one that came since, a day later", x.of(7, PLACE), 1);
        due("laid back once more", x.back(), 0);
        due("the last one that was there, once more", x.of(6, PLACE), 0);
        due("the one that came since, once more", x.of(7, PLACE), 1);
        due("eight stay", x.count(0), 8);
        OrbitsWed y = new OrbitsWed();
        y.image();
        y.orb(5, 4);
        due("of nobody", y.back(), 0);
        due("who came since", y.of(0, PLACE), 4);
    }

    private void backState() {
        test(35, "STATE: there is none.");
        OrbitsWed x = sky(60, 7);
        due("at first", x.back(), STATE);
        x.day();
        due("behind a day", x.back(), STATE);
        due("its place", x.of(0, PLACE), 8);
        due("its days", x.led(0), 1);
    }
}
