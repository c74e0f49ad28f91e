import java.util.ArrayList;
import java.util.List;
import java.util.function.ToLongFunction;

/** Calls that are refused, each on an object of its own: all that is asked of it then is as if they had not been. */
final class EdgesOfRefusals extends Edge {
    private record Refused(String call, ToLongFunction<OrbitsWed> of, long refusal) { }

    private final List<Refused> calls = new ArrayList<>();

    EdgesOfRefusals(Sentences sentences) {
        super(sentences);
    }

    @Override
    void run() {
        test(TERMS, "What is answered so changes nothing.");
        due("the rich one's undone changes", rich().redo(), 0);
        onBodies();
        byTheClock();
        pushed();
        onShelves();
        for (Refused call : calls) changesNothing(call, rich(), rich());
        calls.clear();
        whereAllIsTaken();
        for (Refused call : calls) changesNothing(call, full(), full());
        calls.clear();
        whereNothingIs();
        for (Refused call : calls) changesNothing(call, new OrbitsWed(), new OrbitsWed());
    }

    private void add(String call, ToLongFunction<OrbitsWed> of, long refusal) {
        calls.add(new Refused(call, of, refusal));
    }

    // Of all something, nowhere all places taken; changes to be undone and done again; an image of another day.
    private static OrbitsWed rich() {
        OrbitsWed x = shelves();
        int[][] bodies = {{60, 0}, {60, 1}, {7, 6}, {1, 0}, {12, 5}, {59, 58}, {60, 30}};
        for (int[] body : bodies) x.orb(body[0], body[1]);
        x.mend(1, LIKES, 2);
        x.mend(10, LIKES, -3);
        x.mend(63, LIKES, 9);
        x.mend(3, WEIGHT, 4);
        x.mend(0, NEAR, 25);
        x.mend(2, PLACE, 3);
        x.undo();
        ruled(x, "a<20?l*w;d-1");
        x.day();
        x.nudged(4, -7);
        x.image();
        x.day();
        x.nudged(0, 3);
        fed(x, "l+");
        x.act(7, 3, 5);
        return x;
    }

    private static OrbitsWed full() {
        OrbitsWed x = crowdOf(8, 60, 7);
        for (int i = 0; i < 120; i++) x.feed('1');
        for (int i = 0; i < 50; i++) x.body(7);
        x.act(49, 3, 5);
        rowOf(x, 0, BYTES, 5, 0, 1, 5, 0, 1);
        return x;
    }

    private void changesNothing(Refused call, OrbitsWed x, OrbitsWed y) {
        due(call.call, call.of.applyAsLong(x), call.refusal);
        List<Long> got = all(x), want = all(y);
        int unlike = 0;
        while (unlike < got.size() && got.get(unlike).equals(want.get(unlike))) unlike++;
        due("answers behind " + call.call + " that are as ever", unlike, want.size());
    }

    // All that can be asked, ahead of what only tells by changing.
    private static List<Long> all(OrbitsWed x) {
        List<Long> all = new ArrayList<>();
        told(x, all);
        for (int i = 0; i < 14; i++) all.add((long) x.trace(i));
        for (int shelf = 0; shelf <= 5; shelf++) {
            all.add((long) x.taken(shelf, 0));
            all.add((long) x.whose(shelf));
            for (int i = 0; i < 4; i++) all.add(x.element(shelf, i));
        }
        for (int one = 0; one < 8; one++) all.add((long) x.later(one, 9));
        all.add((long) x.pushes(9, 0));
        all.add((long) x.redo());
        told(x, all);
        for (int k = 0; k < 7; k++) all.add((long) x.undo());
        all.add((long) x.of(0, NEAR));
        all.add((long) x.back());
        told(x, all);
        all.add((long) x.feed('w'));
        all.add((long) x.law());
        all.add((long) x.day());
        all.add((long) x.orb(9, 8));
        all.add((long) x.body(3));
        told(x, all);
        return all;
    }

    private static void told(OrbitsWed x, List<Long> all) {
        for (int what = 0; what <= 4; what++) all.add((long) x.count(what));
        for (int what = 0; what <= 3; what++) all.add((long) x.led(what));
        for (int one = 0; one < 8; one++) {
            all.add((long) x.of(one, PLACE));
            all.add((long) x.of(one, WEIGHT));
        }
        for (int ab : new int[] {1, 10, 63, 67, 76, 12}) all.add((long) x.of(ab, LIKES));
        all.add((long) x.of(0, NEAR));
    }

    private void onBodies() {
        add("orb(0, 0)", x -> x.orb(0, 0), BAD);
        add("orb(61, 0)", x -> x.orb(61, 0), BAD);
        add("orb(5, 5)", x -> x.orb(5, 5), BAD);
        add("orb(5, -1)", x -> x.orb(5, -1), BAD);
        add("orbs of no shelf", x -> x.orbs(6, 0, 1), BAD);
        add("orbs of none", x -> x.orbs(1, 0, 0), BAD);
        add("orbs of nine", x -> x.orbs(1, 0, 9), BAD);
        add("orbs of a mood", x -> x.orbs(0, 0, 1), OTHER);
        add("orbs of shorts", x -> x.orbs(2, 0, 1), OTHER);
        add("orbs from behind the row's end", x -> x.orbs(1, 3, 1), 0);
        add("orbs from below 0", x -> x.orbs(1, -3, 8), 0);
        add("mend of a place too far", x -> x.mend(0, PLACE, 60), VOID);
        add("mend of a place below 0", x -> x.mend(0, PLACE, -1), VOID);
        add("mend of weight 10", x -> x.mend(0, WEIGHT, 10), VOID);
        add("mend of weight -1", x -> x.mend(0, WEIGHT, -1), VOID);
        add("mend of likes 10", x -> x.mend(1, LIKES, 10), VOID);
        add("mend of likes -10", x -> x.mend(1, LIKES, -10), VOID);
        add("mend of likes for oneself", x -> x.mend(11, LIKES, 5), VOID);
        add("mend of likes for one not there", x -> x.mend(7, LIKES, 5), VOID);
        add("mend of near 91", x -> x.mend(0, NEAR, 91), VOID);
        add("mend of near -1", x -> x.mend(0, NEAR, -1), VOID);
        add("mend of near of one", x -> x.mend(1, NEAR, 5), VOID);
        add("mend of a round", x -> x.mend(0, ROUND, 5), VOID);
        add("mend of one not there", x -> x.mend(7, WEIGHT, 5), VOID);
        add("of one not there", x -> x.of(7, PLACE), VOID);
        add("feed(-1)", x -> x.feed(-1), BAD);
        add("feed(256)", x -> x.feed(256), BAD);
        add("nudged by 10", x -> x.nudged(0, 10), BAD);
        add("nudged by -10", x -> x.nudged(0, -10), BAD);
        add("nudged, one not there", x -> x.nudged(7, 1), BAD);
        add("led(4)", x -> x.led(4), BAD);
    }

    private void byTheClock() {
        add("at of one not there", x -> x.at(7, 0, 0), BAD);
        add("apart of itself", x -> x.apart(11, 0, 0), BAD);
        add("meets, never", x -> x.meets(1, 99999), NOT);
        add("meets on day 100000", x -> x.meets(1, 100000), BAD);
        add("often in 1000 days", x -> x.often(1, 0, 1000), BAD);
        add("together of one not there", x -> x.together(128), NO_LONG);
        add("start, never", x -> x.start(67), NOT);
        add("start of one not there", x -> x.start(128), NO_LONG);
        add("mood of one not there", x -> x.mood(7, 0), VOID);
        add("best of no days", x -> x.best(0, 1000, 0), VOID);
        add("sign in -1 days", x -> x.sign(1, 0, -1), BAD);
        add("nudge of itself", x -> x.nudge(0, 0), VOID);
        add("never in 0 days", x -> x.never(1, 0, 0), BAD);
        add("never in 1000 days, the least", x -> x.never(1, 1000, 1), BAD);
        add("scene of itself", x -> x.scene(0), BAD);
        add("scene, never", x -> x.scene(1), NOT);
    }

    private void pushed() {
        add("later, 201 days", x -> x.later(0, 201), BAD);
        add("pushes in -1 days", x -> x.pushes(-1, 0), BAD);
        add("pushes in 0 days, the first", x -> x.pushes(0, 1), NOT);
        add("met of itself", x -> x.met(0, 9), BAD);
        add("again(2)", x -> x.again(2), BAD);
        add("judge of one not there", x -> x.judge(1, 7), BAD);
        add("judge of a mood", x -> x.judge(0, 0), OTHER);
        add("liking of itself", x -> x.liking(1, 0, 0, 0), VOID);
        add("liking of a mood", x -> x.liking(0, 1, 0, 0), VOID);
        add("liking by a book that none makes so", x -> x.liking(1, 1, 6, 1), -99);
        add("whose of no shelf", x -> x.whose(6), BAD);
        add("whose of a mood", x -> x.whose(0), OTHER);
        add("byTurns of 7 nudges", x -> x.byTurns(1, 0, 70), VOID);
        add("crowd of one not there", x -> x.crowd(7, 0, 0), BAD);
        add("arc of one not there", x -> x.arc(128, 0), BAD);
        add("drawn of 13 slips", x -> x.drawn(1, 10113, 0), BAD);
        add("drawn of one not there", x -> x.drawn(1, 10100, 7), BAD);
    }

    private void onShelves() {
        add("body(-1)", x -> x.body(-1), BAD);
        add("body(8)", x -> x.body(8), BAD);
        add("trace(14)", x -> x.trace(14), BAD);
        add("keep of a body not there", x -> x.keep(0, 8), BAD);
        add("keep of body -2", x -> x.keep(0, -2), BAD);
        add("keep on no shelf", x -> x.keep(6, 0), BAD);
        add("row of sort 5", x -> x.row(1, 5, 3), BAD);
        add("row of 61", x -> x.row(1, BYTES, 61), BAD);
        add("row of -1", x -> x.row(1, BYTES, -1), BELOW_0);
        add("row of -1 in a mood's stead", x -> x.row(0, BYTES, -1), BELOW_0);
        add("row on no shelf", x -> x.row(-1, BYTES, 3), BAD);
        add("put on no shelf", x -> x.put(6, 0, 9), BAD);
        add("put into a mood", x -> x.put(0, 0, 9), OTHER);
        add("put behind the end", x -> x.put(1, 3, 9), NO_PLACE);
        add("put below 0", x -> x.put(1, -1, 9), NO_PLACE);
        add("element behind the end", x -> x.element(1, 3), NO_LONG);
        add("shift to no shelf", x -> x.shift(1, 0, 6, 0, 3), BAD);
        add("shift to a mood", x -> x.shift(1, 0, 0, 0, 3), OTHER);
        add("shift to another sort", x -> x.shift(1, 0, 2, 1, 2), OTHER);
        add("shift to behind the end", x -> x.shift(1, 0, 1, 1, 3), NO_PLACE);
        add("shift from behind the end", x -> x.shift(1, 1, 1, 0, 3), NO_PLACE);
        add("shift of -1", x -> x.shift(1, 0, 1, 1, -1), NO_PLACE);
        add("taken for kind 8", x -> x.taken(0, 8), BAD);
        add("taken for another kind", x -> x.taken(0, 1), OTHER);
        add("taken of a row", x -> x.taken(1, 0), OTHER);
        add("count(5)", x -> x.count(5), BAD);
    }

    private void whereAllIsTaken() {
        add("a ninth body", x -> x.orb(5, 0), FULL);
        add("a ninth body, not so", x -> x.orb(0, 0), BAD);
        add("bodies from a row", x -> x.orbs(0, 0, 2), 0);
        add("byte 121", x -> x.feed('1'), FULL);
        add("byte 121, none", x -> x.feed(256), BAD);
        add("body 50", x -> x.body(0), FULL);
        add("body 50 of no kind", x -> x.body(8), BAD);
        add("undo", x -> x.undo(), STATE);
        add("redo", x -> x.redo(), STATE);
        add("back", x -> x.back(), STATE);
    }

    private void whereNothingIs() {
        add("undo", x -> x.undo(), STATE);
        add("redo", x -> x.redo(), STATE);
        add("back", x -> x.back(), STATE);
        add("orbs of a missing row", x -> x.orbs(0, 0, 8), 0);
        add("whose", x -> x.whose(0), NOTHING);
        add("put", x -> x.put(0, 0, 1), NOTHING);
        add("shift", x -> x.shift(0, 0, 0, 0, 0), NOTHING);
        add("taken", x -> x.taken(0, 0), NOTHING);
        add("keep", x -> x.keep(0, 0), BAD);
        add("mend", x -> x.mend(0, PLACE, 0), VOID);
        add("nudged", x -> x.nudged(0, 1), BAD);
        add("trace", x -> x.trace(0), BAD);
    }
}
