/** Part 3 of the Terms, and of part 4 what is DRAWN; promises 20 to 30. */
final class EdgesOfPushes extends Edge {
    EdgesOfPushes(Sentences sentences) {
        super(sentences);
    }

    @Override
    void run() {
        plain(TERMS, "======== 3 ");
        plain(TERMS, "======== 4 ");
        spans();
        later();
        laterBad();
        pushes();
        pushesBad();
        met();
        metBad();
        again();
        againWhole();
        againBad();
        book();
        judged();
        judge();
        judgeBad();
        liking();
        likingVoid();
        whose();
        whoseBad();
        byTurns();
        byTurnsBest();
        byTurnsVoid();
        crowd();
        crowdBad();
        line();
        arcBad();
        drawn();
        slips();
        wrappingSeed();
        meetingDays();
        yearsEnds();
        drawnBad();
    }

    // Two that stand together; the one is pushed on by 2 at once, and they part.
    private static OrbitsWed parting() {
        OrbitsWed x = sky(10, 0, 10, 0);
        x.mend(1, LIKES, 2);
        return x;
    }

    private void spans() {
        test(TERMS, "PUSHED from now: behind n days (0 .. 200):");
        OrbitsWed x = parting();
        within("later", n -> x.later(0, n), 0, 200, BAD);
        within("pushes", n -> x.pushes(n, 0), 0, 200, BAD);
        within("the first day of pushes", n -> x.pushes(n, 1), 0, 200, BAD);
        within("met", n -> x.met(1, n), 0, 200, BAD);
    }

    private void later() {
        test(TERMS, "PLACE of one;");
        plain(20, "PLACE of one behind n days.");
        OrbitsWed x = parting();
        due("0 days", x.later(0, 0), 0);
        due("1 day", x.later(0, 1), 3);
        due("1 day, the other one", x.later(1, 1), 1);
        due("200 days", x.later(0, 200), 2);
        due("200 days, the other one", x.later(1, 200), 0);
        due("200 days, round 60", sky(60, 59).later(0, 200), 19);
        due("199 days, round 60", sky(60, 59).later(0, 199), 18);
        due("nothing is done", x.of(0, PLACE), 0);
    }

    private void laterBad() {
        test(20, "BAD.");
        OrbitsWed x = crowdOf(8, 5, 0);
        within("ones", one -> x.later(one, 0), 0, 7, BAD);
        within("n", n -> x.later(7, n), 0, 200, BAD);
        due("nobody", new OrbitsWed().later(0, 0), BAD);
    }

    private void pushes() {
        test(TERMS, "how many pushes other than 0 there were; the first day of one (NOT);");
        plain(21, "How many pushes in n days (what 0), the first day of one (1; NOT).");
        OrbitsWed x = parting();
        due("0 days", x.pushes(0, 0), 0);
        due("0 days, the first", x.pushes(0, 1), NOT);
        due("1 day", x.pushes(1, 0), 1);
        due("1 day, the first", x.pushes(1, 1), 0);
        due("200 days", x.pushes(200, 0), 1);
        OrbitsWed y = crowdOf(8, 10, 0);
        due("pushes by 0 are none", y.pushes(200, 0), 0);
        due("nor is there a first day", y.pushes(200, 1), NOT);
        ruled(y, "-1");
        due("each of eight by seven, on 200 days", y.pushes(200, 0), 11200);
        ruled(y, "d=199");
        due("on the last of 200 days", y.pushes(200, 0), 56);
        due("the last of 200 days", y.pushes(200, 1), 199);
        due("not in 199 days", y.pushes(199, 1), NOT);
        due("none in 199 days", y.pushes(199, 0), 0);
        OrbitsWed z = sky(60, 0, 60, 0, 60, 0);
        z.mend(1, LIKES, 4);
        z.mend(2, LIKES, -4);
        due("two that make 0 together are two", z.pushes(1, 0), 2);
        due("on the first day", z.pushes(1, 1), 0);
        due("without bodies", new OrbitsWed().pushes(200, 0), 0);
    }

    private void pushesBad() {
        test(21, "BAD.");
        OrbitsWed x = parting();
        within("n", n -> x.pushes(n, 0), 0, 200, BAD);
        within("whats", what -> x.pushes(1, what), 0, 1, BAD);
        due("n and what", x.pushes(201, 2), BAD);
    }

    private void met() {
        test(TERMS, "how often two MET (as days began).");
        plain(22, "How often two MET in n days.");
        OrbitsWed x = parting();
        due("0 days", x.met(1, 0), 0);
        due("1 day", x.met(1, 1), 1);
        due("1 day, the other way", x.met(10, 1), 1);
        due("200 days", x.met(1, 200), 1);
        due("each of 200 days", sky(10, 0, 10, 0).met(1, 200), 200);
        OrbitsWed y = sky(60, 1, 60, 59);
        ruled(y, "9");
        due("12 degrees apart", y.met(1, 200), 0);
        OrbitsWed z = sky(60, 58, 1, 0);
        due("not as the first day begins", z.met(1, 1), 0);
        due("as the second one begins", z.met(1, 2), 1);
    }

    private void metBad() {
        test(22, "BAD.");
        OrbitsWed x = crowdOf(8, 5, 0);
        pairs("met", ab -> x.met(ab, 0), BAD);
        within("n", n -> x.met(76, n), 0, 200, BAD);
    }

    private void again() {
        test(TERMS, "ROUND AGAIN: behind how many days at least (1 .. 300) all stand as once ahead: that; "
            + "behind how many they did for the first time; NOT");
        plain(23, "ROUND AGAIN: that (what 0), when first (1).");
        due("without bodies", new OrbitsWed().again(0), 1);
        due("without bodies, first", new OrbitsWed().again(1), 0);
        due("round 1", crowdOf(8, 1, 0).again(0), 1);
        due("60 and 50: in 300 days", sky(60, 0, 50, 0).again(0), 300);
        due("60 and 50, first", sky(60, 0, 50, 0).again(1), 0);
        due("43 and 7: in 301 days", sky(43, 0, 7, 0).again(0), NOT);
        due("43 and 7, first", sky(43, 0, 7, 0).again(1), NOT);
        due("23 and 13: in 299 days", sky(23, 0, 13, 0).again(0), 299);
        OrbitsWed x = parting();
        due("a round behind the push", x.again(0), 11);
        due("as behind one day", x.again(1), 1);
        OrbitsWed y = crowdOf(8, 60, 59);
        due("eight on their last places", y.again(0), 60);
    }

    private void againWhole() {
        test(TERMS, "(THE LAW's d as ever).");
        OrbitsWed x = crowdOf(2, 60, 0);
        ruled(x, "d=58");
        due("a push on the last day but one", x.again(0), 59);
        due("a push on day 299 comes too late to be seen", ruled(sky(60, 0, 60, 0), "d=299").again(0), 60);
        OrbitsWed y = sky(60, 0, 60, 0, 50, 0);
        y.mend(0, NEAR, 0);
        ruled(y, "d=299");
        due("two are pushed on the last day", y.again(0), NOT);
        ruled(y, "d=300");
        due("two would be pushed behind it", y.again(0), 300);
    }

    private void againBad() {
        test(23, "BAD; NOT.");
        within("whats", what -> new OrbitsWed().again(what), 0, 1, BAD);
        OrbitsWed x = sky(59, 0, 60, 0);
        due("NOT", x.again(0), NOT);
        due("BAD all the same", x.again(2), BAD);
    }

    private void book() {
        test(TERMS, "A BOOK: a ROW of bytes on a SHELF: PLACE of one, day by day behind 1, 2 and so on days, PUSHED:");
        OrbitsWed x = rowOf(parting(), 5, BYTES, 3, 4, 5);
        due("behind 1, 2, 3 days", x.judge(5, 0), NOT);
        rowOf(x, 5, BYTES, 0, 3, 4);
        due("not from now on", x.judge(5, 0), 0);
        OrbitsWed y = sky(60, 59);
        y.row(0, BYTES, 60);
        for (int i = 0; i < 60; i++) y.put(0, i, i);
        due("60 days", y.judge(0, 0), NOT);
    }

    private void judged() {
        test(TERMS, "JUDGED: the first day that is not so (0 for the first one); NOT.");
        OrbitsWed x = sky(60, 59);
        x.row(0, BYTES, 60);
        due("the second day of a row of 0", x.judge(0, 0), 1);
        for (int i = 0; i < 60; i++) x.put(0, i, i);
        due("all of 60", x.judge(0, 0), NOT);
        x.put(0, 59, 60);
        due("the last one", x.judge(0, 0), 59);
        x.put(0, 58, 0);
        due("the last one but one", x.judge(0, 0), 58);
        x.put(0, 0, -1);
        due("the first one", x.judge(0, 0), 0);
        x.put(0, 0, 60);
        due("what is no place", x.judge(0, 0), 0);
        x.put(0, 0, 256);
        due("its lowest bits count", x.judge(0, 0), 58);
        x.row(0, BYTES, 0);
        due("an empty one", x.judge(0, 0), NOT);
    }

    private void judge() {
        test(24, "JUDGED of one.");
        OrbitsWed x = rowOf(parting(), 0, BYTES, 1, 2);
        due("of the first one", x.judge(0, 0), 0);
        due("of the other one", x.judge(0, 1), NOT);
        due("nothing is done", x.of(1, PLACE), 0);
    }

    private void judgeBad() {
        test(24, "BAD, -11, -12 (no ROW of bytes); NOT.");
        OrbitsWed x = shelves();
        for (int one = 0; one < 8; one++) x.orb(5, 0);
        within("shelves", shelf -> crowdOf(8, 5, 0).judge(shelf, 0), 0, 5, BAD);
        within("ones", one -> x.judge(1, one), 0, 7, BAD);
        due("a mood", x.judge(0, 7), OTHER);
        for (int shelf = 2; shelf <= 5; shelf++) due("a row of sort " + (shelf - 1), x.judge(shelf, 0), OTHER);
        due("BAD ahead of -12", x.judge(0, 8), BAD);
        x.keep(0, -1);
        due("nothing", x.judge(0, 7), NOTHING);
        due("BAD ahead of -11", x.judge(0, 8), BAD);
        due("-11 without bodies is BAD", new OrbitsWed().judge(0, 0), BAD);
    }

    private void liking() {
        test(TERMS, "LIKING: how many LIKES (-9 .. 9) of one for another one make a BOOK of a third (or one of them) so; "
            + "the least; NOT is -99.");
        plain(25, "LIKING of ab, by a BOOK of one: how many (what 0), the least (1; -99: NOT).");
        OrbitsWed x = sky(60, 0, 60, 0, 60, 30);
        int[][] books = {{1 + 9, 9}, {1 - 9 + 60, -9}, {1, 0}};
        for (int[] book : books) {
            rowOf(x, 0, BYTES, book[0]);
            due("how many make it " + book[0], x.liking(0, 1, 0, 0), 1);
            due("the least makes it " + book[0], x.liking(0, 1, 0, 1), book[1]);
        }
        rowOf(x, 0, BYTES, 11);
        due("none: how many", x.liking(0, 1, 0, 0), 0);
        due("none: the least", x.liking(0, 1, 0, 1), -99);
        rowOf(x, 0, BYTES, 51);
        due("none below -9", x.liking(0, 1, 0, 0), 0);
        rowOf(x, 0, BYTES, 31);
        due("a third one's: all", x.liking(0, 1, 2, 0), 19);
        due("a third one's: the least", x.liking(0, 1, 2, 1), -9);
        rowOf(x, 0, BYTES, 1);
        due("the other one's: all", x.liking(0, 1, 1, 0), 19);
        due("an empty book: all", rowOf(x, 0, BYTES).liking(0, 1, 0, 0), 19);
        x.mend(1, WEIGHT, 9);
        rowOf(x, 0, BYTES, 10);
        due("1 to 9, all held to 9", x.liking(0, 1, 0, 0), 9);
        due("the least of them", x.liking(0, 1, 0, 1), 1);
        due("what was told stays", x.of(1, LIKES), 0);
        due("there is no change by it", x.count(2), 1);
    }

    private void likingVoid() {
        test(25, "VOID: BAD, no ROW of bytes.");
        OrbitsWed x = shelves();
        for (int one = 0; one < 8; one++) x.orb(5, 0);
        within("shelves", shelf -> rowOf(crowdOf(8, 5, 0), Math.floorMod(shelf, 6), BYTES, 1).liking(shelf, 1, 0, 0), 0, 5, VOID);
        pairs("likings", ab -> x.liking(1, ab, 0, 0), VOID);
        within("ones", one -> x.liking(1, 76, one, 0), 0, 7, VOID);
        within("whats", what -> x.liking(1, 76, 7, what), 0, 1, VOID);
        due("a mood", x.liking(0, 1, 0, 0), VOID);
        for (int shelf = 2; shelf <= 5; shelf++) due("a row of sort " + (shelf - 1), x.liking(shelf, 1, 0, 0), VOID);
        x.keep(0, -1);
        due("nothing", x.liking(0, 1, 0, 0), VOID);
    }

    private void whose() {
        test(TERMS, "WHOSE: which BODIES (bits) the BOOK may be of.");
        plain(26, "WHOSE: bits.");
        OrbitsWed x = rowOf(crowdOf(8, 60, 0), 0, BYTES, 1, 2);
        due("of all eight", x.whose(0), 255);
        x.mend(0, PLACE, 1);
        due("of all but the first one", x.whose(0), 254);
        x.mend(7, PLACE, 1);
        due("nor the last one", x.whose(0), 126);
        x.put(0, 0, 0);
        due("of none", x.whose(0), 0);
        due("an empty book", rowOf(x, 0, BYTES).whose(0), 255);
        due("without bodies", rowOf(new OrbitsWed(), 0, BYTES).whose(0), 0);
    }

    private void whoseBad() {
        test(26, "BAD, -11, -12.");
        within("shelves", shelf -> new OrbitsWed().whose(shelf), 0, 5, BAD);
        OrbitsWed x = shelves();
        due("a mood", x.whose(0), OTHER);
        for (int shelf = 2; shelf <= 5; shelf++) due("a row of sort " + (shelf - 1), x.whose(shelf), OTHER);
        x.keep(0, -1);
        due("nothing", x.whose(0), NOTHING);
    }

    private void byTurns() {
        test(TERMS, "BY TURNS: two nudge one body by turns, by -1, 0 or 1, n times (1 .. 6), now; the first one wants it to MEET "
            + "another one on a day BY THE CLOCK, the other one not: whether it does (1, 0), if both do their best;");
        plain(27, "BY TURNS (nw: 10 n, and 0 whether, 1 the best first nudge).");
        OrbitsWed x = sky(60, 0, 60, 0, 60, 1, 60, 2, 60, 3);
        x.mend(0, NEAR, 0);
        due("0 off, one nudge", x.byTurns(1, 0, 10), 1);
        due("1 off, one nudge", x.byTurns(2, 0, 10), 1);
        due("2 off, one nudge", x.byTurns(3, 0, 10), 0);
        due("0 off, two nudges: the other one parts them", x.byTurns(1, 0, 20), 0);
        due("1 off, three nudges", x.byTurns(2, 0, 30), 1);
        due("2 off, three nudges", x.byTurns(3, 0, 30), 0);
        due("0 off, six nudges", x.byTurns(1, 0, 60), 0);
        due("1 off, five nudges", x.byTurns(2, 0, 50), 1);
        x.mend(0, NEAR, 6);
        due("near 6, 0 off, six nudges: each is undone but the last", x.byTurns(1, 0, 60), 1);
        due("near 6, 1 off, six nudges", x.byTurns(2, 0, 60), 1);
        due("near 6, 2 off, six nudges", x.byTurns(3, 0, 60), 0);
        due("near 6, 2 off, five nudges", x.byTurns(3, 0, 50), 1);
        due("near 6, 3 off, five nudges", x.byTurns(4, 0, 50), 0);
        due("on the last day", x.byTurns(1, 99999, 60), 1);
        due("round 1 stays where it is", sky(1, 0, 1, 0).byTurns(1, 0, 60), 1);
        OrbitsWed narrow = sky(60, 1, 40, 1);
        narrow.mend(0, NEAR, 3);
        due("two places meet, two nudges: from each there is a way out", narrow.byTurns(1, 0, 20), 0);
        due("six nudges: as well", narrow.byTurns(1, 0, 60), 0);
        due("three nudges: the last one comes back", narrow.byTurns(1, 0, 30), 1);
        OrbitsWed round2 = sky(2, 0, 2, 1);
        due("round 2, one nudge", round2.byTurns(1, 0, 10), 1);
        due("round 2, two nudges: the other one leads where it likes", round2.byTurns(1, 0, 20), 0);
        due("round 2, five nudges: the first one does", round2.byTurns(1, 0, 50), 1);
        due("nothing is nudged", x.of(0, PLACE) + x.led(3), 0);
        OrbitsWed last = sky(60, 9, 60, 9, 60, 9, 60, 9, 60, 9, 60, 9, 1, 0, 60, 2);
        due("the last one, 12 off the one ahead of it", last.byTurns(76, 0, 10), 1);
        due("round 1 cannot come nearer", last.byTurns(67, 0, 10), 0);
        due("nor back", last.byTurns(76, 4, 10), 0);
    }

    private void byTurnsBest() {
        test(TERMS, "the first one's best first nudge (of like ones the least; VOID: BAD).");
        OrbitsWed x = sky(60, 0, 60, 0, 60, 1, 60, 59, 60, 30);
        x.mend(0, NEAR, 0);
        due("stay", x.byTurns(1, 0, 11), 0);
        due("on", x.byTurns(2, 0, 11), 1);
        due("back", x.byTurns(3, 0, 11), -1);
        due("it is of no use: the least", x.byTurns(4, 0, 11), -1);
        due("two, of no use: the least", x.byTurns(2, 0, 21), -1);
        x.mend(0, NEAR, 6);
        due("all three do: the least", x.byTurns(1, 0, 11), -1);
        due("stay and on do: the least", x.byTurns(2, 0, 11), 0);
        due("back and stay do: the least", x.byTurns(3, 0, 11), -1);
        due("two nudges: stay alone does", x.byTurns(1, 0, 21), 0);
        due("two nudges: on alone does", x.byTurns(2, 0, 21), 1);
        due("six nudges: stay alone does", x.byTurns(1, 0, 61), 0);
        due("round 1: the least", sky(1, 0, 1, 0).byTurns(1, 0, 11), -1);
    }

    private void byTurnsVoid() {
        test(27, "VOID: BAD.");
        OrbitsWed x = crowdOf(8, 60, 0);
        pairs("byTurns", ab -> x.byTurns(ab, 0, 10), VOID);
        within("days", day -> x.byTurns(76, day, 10), 0, 99999, VOID);
        within("nw", nw -> x.byTurns(76, 0, nw), 10, 61, VOID);
        for (int n = 0; n <= 7; n++) {
            for (int w = 0; w <= 9; w++) {
                boolean isSo = n >= 1 && n <= 6 && w <= 1;
                if (isSo) dueNot("nw " + (10 * n + w), x.byTurns(76, 0, 10 * n + w), VOID);
                else due("nw " + (10 * n + w), x.byTurns(76, 0, 10 * n + w), VOID);
            }
        }
        for (int nw : new int[] {-9, -10, -11, -60}) due("nw " + nw, x.byTurns(76, 0, nw), VOID);
    }

    private void crowd() {
        test(TERMS, "CROWD: how many MEET a told one on a day BY THE CLOCK; who (bits).");
        plain(28, "CROWD on a day: how many (what 0), who (1).");
        OrbitsWed x = crowdOf(8, 60, 0);
        due("all but the first one: how many", x.crowd(0, 0, 0), 7);
        due("all but the first one: who", x.crowd(0, 0, 1), 254);
        due("all but the last one: how many", x.crowd(7, 99999, 0), 7);
        due("all but the last one: who", x.crowd(7, 99999, 1), 127);
        OrbitsWed y = sky(60, 0, 1, 0, 60, 30);
        due("one on day 0", y.crowd(0, 0, 1), 2);
        due("nobody on day 2: how many", y.crowd(0, 2, 0), 0);
        due("nobody on day 2: who", y.crowd(0, 2, 1), 0);
        due("one alone", sky(5, 0).crowd(0, 0, 1), 0);
    }

    private void crowdBad() {
        test(28, "BAD.");
        OrbitsWed x = crowdOf(8, 5, 0);
        within("ones", one -> x.crowd(one, 0, 0), 0, 7, BAD);
        within("days", day -> x.crowd(7, day, 0), 0, 99999, BAD);
        within("whats", what -> x.crowd(7, 0, what), 0, 1, BAD);
        due("nobody", new OrbitsWed().crowd(0, 0, 0), BAD);
    }

    private void line() {
        test(TERMS, "LINE: all of a set on a day within how many degrees (the least arc that holds all; fewer than two: 0).");
        plain(29, "LINE.");
        OrbitsWed x = sky(60, 0, 60, 30, 60, 59, 60, 1, 60, 31, 60, 0, 60, 20, 60, 40);
        due("none", x.arc(0, 0), 0);
        for (int one = 0; one < 8; one++) due("body " + one + " alone", x.arc(1 << one, 0), 0);
        due("two at one place", x.arc(33, 0), 0);
        due("two: opposite", x.arc(3, 0), 180);
        due("two: 0 and 31", x.arc(17, 0), 174);
        due("two: over 0", x.arc(12, 0), 12);
        due("three: over 0", x.arc(13, 0), 12);
        due("three: thirds", x.arc(193, 0), 240);
        due("all: all but the widest gap, from 1 to 20 or from 40 to 59", x.arc(255, 0), 246);
        due("all, on the last day", x.arc(255, 99999), 246);
        due("none, without bodies", new OrbitsWed().arc(0, 99999), 0);
        due("eight round", sky(8, 0, 8, 1, 8, 2, 8, 3, 8, 4, 8, 5, 8, 6, 8, 7).arc(255, 0), 315);
    }

    private void arcBad() {
        test(29, "BAD.");
        for (int bodies : new int[] {0, 1, 3, 8}) {
            OrbitsWed x = crowdOf(bodies, 5, 0);
            within("sets of " + bodies, set -> x.arc(set, 0), 0, (1 << bodies) - 1, BAD);
            within("days with " + bodies, day -> x.arc(0, day), 0, 99999, BAD);
        }
    }

    private void drawn() {
        test(TERMS, "DRAWN: n years (1 .. 30) of m days (1 .. 60) from now by a SEED, PUSHED:");
        plain(30, "DRAWN (nms: 10000 n, 100 m, and SLIPS): how often one MEETS (one 0 on), years' ends (-1).");
        OrbitsWed x = sky(60, 59, 60, 59);
        due("one year of one day", x.drawn(7, 10100, 0), 1);
        due("one year of 60 days", x.drawn(7, 16000, 0), 60);
        due("30 years of one day", x.drawn(7, 300100, 0), 30);
        due("30 years of 60 days", x.drawn(7, 306000, 1), 1800);
        due("years' ends on day 1", x.drawn(7, 300100, -1), 30);
        due("years' ends on day 2", x.drawn(7, 300200, -1), 0);
        OrbitsWed y = parting();
        due("PUSHED, from now each year", y.drawn(7, 300500, 0), 30);
        OrbitsWed z = sky(60, 57, 60, 57);
        ruled(z, "d=1");
        due("d is 1 on each year's second day", z.drawn(7, 300200, -1), 30);
        due("nothing is done", x.of(0, PLACE), 59);
    }

    // The draws once more, without ints that wrap: 32 bits of a long.
    private static boolean[] slipsBy(int seed, int draws, int slips) {
        boolean[] slip = new boolean[draws];
        long z = seed & 0xFFFFFFFFL;
        for (int k = 0; k < draws; k++) {
            z = (z * 1103515245L + 12345) & 0xFFFFFFFFL;
            slip[k] = (z >> 8) % 12 < slips;
        }
        return slip;
    }

    private static int endsBy(int seed, int years, int days, int slips, int round) {
        boolean[] slip = slipsBy(seed, years * days, slips);
        int ends = 0;
        for (int year = 0; year < years; year++) {
            int place = 0;
            for (int day = 0; day < days; day++) place += slip[year * days + day] ? 0 : 1;
            if (place % round == 0) ends++;
        }
        return ends;
    }

    private void slips() {
        test(TERMS, "it slips one PLACE back, if (z >>> 8) % 12 is below SLIPS (0 .. 12; told; behind its going on):");
        OrbitsWed x = sky(5, 0);
        due("0: it never does", x.drawn(9, 300500, -1), 30);
        due("0: it never does, 4 days", x.drawn(9, 300400, -1), 0);
        due("12: it always does", x.drawn(9, 306012, -1), 30);
        for (int slips = 0; slips <= 12; slips++) {
            due("slips " + slips, x.drawn(9, 300400 + slips, -1), endsBy(9, 30, 4, slips, 5));
            due("slips " + slips + " of a day", x.drawn(-9, 300100 + slips, -1), endsBy(-9, 30, 1, slips, 5));
        }
        due("back from 0 to the last place", sky(60, 59).drawn(9, 10112, -1), 0);
        due("round 1", sky(1, 0).drawn(9, 306006, -1), 30);
    }

    private void wrappingSeed() {
        test(TERMS, "z = z * 1103515245 + 12345 (an int; SEED at first) ahead of each body each day, by numbers:");
        for (int seed : new int[] {0, 1, -1, 77, MAX, MIN, 1799, -123456789}) {
            OrbitsWed x = sky(7, 0);
            due("seed " + seed, x.drawn(seed, 306005, -1), endsBy(seed, 30, 60, 5, 7));
            boolean[] slip = slipsBy(seed, 4, 6);
            OrbitsWed y = sky(60, 59, 60, 59);
            due("seed " + seed + ", two bodies, a day", y.drawn(seed, 10106, -1), !slip[0] && !slip[1] ? 1 : 0);
            OrbitsWed z = sky(60, 0, 60, 59);
            due("seed " + seed + ", the first one slips", z.drawn(seed, 10106, -1), slip[0] && !slip[1] ? 1 : 0);
            OrbitsWed w = sky(60, 59, 60, 0);
            due("seed " + seed + ", the second one slips", w.drawn(seed, 10106, -1), !slip[0] && slip[1] ? 1 : 0);
            OrbitsWed v = sky(60, 58, 60, 59);
            due("seed " + seed + ", two days", v.drawn(seed, 10206, -1),
                !slip[0] && !slip[2] && slip[1] != slip[3] ? 1 : 0);
        }
    }

    private void meetingDays() {
        test(TERMS, "how often a told one MEETS anybody as days begin (each day once);");
        due("by seven, each day once", crowdOf(8, 60, 0).drawn(1, 306000, 7), 1800);
        due("nobody", sky(60, 0).drawn(1, 306000, 0), 0);
        due("not as a day ends", sky(60, 58, 1, 0).drawn(1, 300100, 0), 0);
        due("but as the second one begins", sky(60, 58, 1, 0).drawn(1, 300200, 0), 30);
        OrbitsWed x = sky(60, 0, 60, 0, 60, 30);
        due("the one who meets nobody", x.drawn(1, 306000, 2), 0);
        due("the one who does", x.drawn(1, 306000, 0), 1800);
    }

    private void yearsEnds() {
        test(TERMS, "on how many years' ends all are at PLACE 0.");
        due("without bodies: all", new OrbitsWed().drawn(1, 306012, -1), 30);
        due("one of two is not", sky(5, 0, 4, 0).drawn(1, 300500, -1), 0);
        due("both are", sky(5, 0, 4, 0).drawn(1, 302000, -1), 30);
        due("only as years end", sky(5, 4).drawn(1, 300200, -1), 0);
        due("eight", crowdOf(8, 60, 0).drawn(1, 306000, -1), 30);
        OrbitsWed x = sky(60, 0, 60, 0, 60, 0, 60, 0, 60, 0, 60, 0, 60, 0, 60, 30);
        due("seven of eight", x.drawn(1, 306000, -1), 0);
    }

    private void drawnBad() {
        test(30, "BAD.");
        OrbitsWed x = crowdOf(8, 5, 0);
        within("ones", one -> x.drawn(1, 10100, one), -1, 7, BAD);
        due("nobody to meet", new OrbitsWed().drawn(1, 10100, 0), BAD);
        within("years", n -> x.drawn(1, n == MIN || n == MAX ? n : 10000 * n + 100, 0), 1, 30, BAD);
        within("days", m -> x.drawn(1, m == MIN || m == MAX ? m : 10000 + 100 * m, 0), 1, 60, BAD);
        within("slips", s -> x.drawn(1, s == MIN || s == MAX ? s : 10100 + s, 0), 0, 12, BAD);
        for (int nms : new int[] {0, 100, 10000, 10099, 310100, 300000, 306013, 306099, 306100, 309900, -1, -10100, -300000}) {
            due("nms " + nms, x.drawn(1, nms, 0), BAD);
        }
        for (int seed : new int[] {MIN, MAX, 0, -1}) dueNot("seed " + seed, x.drawn(seed, 10100, -1), BAD);
    }
}
