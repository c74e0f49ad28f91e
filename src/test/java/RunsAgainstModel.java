import java.util.Random;

/** Runs of calls drawn by fixed seeds: the program and the model must answer each call alike. */
public final class RunsAgainstModel {
    private static final int RUNS = 120, CALLS = 512;
    private static final String LETTERS = "lwradp0123456789+-*/%<=>&|!();?";

    private final Random random;
    private final OrbitsWed x = new OrbitsWed();
    private final Model m = new Model();
    private String call;
    private long got;
    private long want;

    private RunsAgainstModel(long seed) {
        random = new Random(seed);
        Model.RAN.clear();
    }

    public static void main(String[] arguments) {
        int wrong = 0;
        for (int run = 0; run < RUNS && wrong < 10; run++) {
            RunsAgainstModel runs = new RunsAgainstModel(run);
            for (int k = 0; k < CALLS; k++) {
                runs.step();
                if (runs.got != runs.want) {
                    System.out.println("run " + run + ", call " + k + ": " + runs.call + " answered " + runs.got
                        + ", the model " + runs.want);
                    wrong++;
                    break;
                }
            }
        }
        System.out.println(wrong == 0 ? RUNS + " runs answer as the model does" : wrong + " runs do not");
        if (wrong != 0) System.exit(1);
    }

    private int in(int from, int to) {
        return from + random.nextInt(to - from + 1);
    }

    // Mostly within the bounds, now and then just outside, rarely far away.
    private int near(int from, int to) {
        int kind = random.nextInt(40);
        if (kind == 0) return from - 1;
        if (kind == 1) return to + 1;
        if (kind == 2) return random.nextInt();
        if (kind == 3) return random.nextBoolean() ? Integer.MIN_VALUE : Integer.MAX_VALUE;
        if (kind == 4) return from;
        if (kind == 5) return to;
        return in(from, to);
    }

    private int one() {
        return near(0, Math.max(0, m.sky.size() - 1));
    }

    private int pair() {
        if (random.nextInt(10) == 0) return near(-3, 100);
        int most = Math.max(0, m.sky.size() - 1);
        int a = in(0, most), b = in(0, most);
        return 10 * a + (a == b ? (b + 1) % (most + 1) : b);
    }

    private int set() {
        return near(0, (1 << m.sky.size()) - 1);
    }

    private int day() {
        return random.nextInt(4) == 0 ? near(0, 99999) : near(0, 200);
    }

    private int what() {
        return random.nextInt(30) == 0 ? near(0, 4) : in(0, 1);
    }

    private int shelf() {
        return near(0, 5);
    }

    private void note(String name, long gotNow, long wantNow, long... with) {
        call = name + java.util.Arrays.toString(with);
        got = gotNow;
        want = wantNow;
    }

    private void step() {
        int kind = random.nextInt(100);
        if (kind < 25) sky();
        else if (kind < 50) clock();
        else if (kind < 68) pushed();
        else if (kind < 80) deeds();
        else shelves();
    }

    private void sky() {
        int a, b, c;
        switch (random.nextInt(12)) {
            case 0: {
                if (random.nextInt(3) > 0) { lawText(); return; }
                a = near(1, random.nextBoolean() ? 60 : 12);
                b = near(0, a < 1 || a > 60 ? 5 : a - 1);
                note("orb", x.orb(a, b), m.orb(a, b), a, b);
                return;
            }
            case 1:
                if (random.nextBoolean()) { bodiesFromRow(); return; }
                a = shelf(); b = near(0, 6); c = near(1, 3);
                note("orbs", x.orbs(a, b, c), m.orbs(a, b, c), a, b, c);
                return;
            case 2: case 3: case 4: case 5: case 6:
                b = random.nextBoolean() ? 2 : near(0, 3);
                a = b == 2 ? pair() : b == 3 ? (random.nextInt(9) == 0 ? one() : 0) : one();
                c = b == 2 ? near(-9, 9) : b == 3 ? near(0, 90) : b == 1 ? near(0, 9) : near(0, 20);
                note("mend", x.mend(a, b, c), m.mend(a, b, c), a, b, c);
                return;
            case 7:
                b = near(0, 4);
                a = b == 2 ? pair() : b == 3 ? 0 : one();
                note("of", x.of(a, b), m.of(a, b), a, b);
                return;
            case 8:
                a = near(0, 255);
                note("feed", x.feed(a), m.feed(a), a);
                return;
            case 9:
                note("law", x.law(), m.law());
                return;
            case 10:
                a = near(0, 4);
                note("count", x.count(a), m.count(a), a);
                return;
            default:
                a = in(1, 12);
                b = in(0, a - 1);
                note("orb", x.orb(a, b), m.orb(a, b), a, b);
                return;
        }
    }

    // Three bodies or so in a row of bytes, and now and then one that is not so.
    private void bodiesFromRow() {
        int shelf = in(0, 5), length = in(0, 9);
        note("row", x.row(shelf, 0, length), m.row(shelf, 0, length), shelf, 0, length);
        for (int i = 0; i < length && got == want; i++) {
            int v = random.nextInt(12) == 0 ? in(-1, 70) : i % 3 == 0 ? in(1, 60) : 0;
            note("put", x.put(shelf, i, v), m.put(shelf, i, v), shelf, i, v);
        }
        int from = random.nextInt(4) == 0 ? in(-4, 4) : 0, n = in(1, 4);
        if (got == want) note("orbs", x.orbs(shelf, from, n), m.orbs(shelf, from, n), shelf, from, n);
    }

    // Several calls count as one here, in bodiesFromRow() and in book().
    private void lawText() {
        if (m.tape.length() > 0 && random.nextInt(4) > 0) {
            note("law", x.law(), m.law());
            return;
        }
        StringBuilder text = new StringBuilder();
        for (int k = in(1, 3); k > 0; k--) {
            if (random.nextBoolean()) text.append(either(3)).append('?');
            text.append(either(3)).append(k > 1 ? ";" : "");
        }
        if (random.nextInt(3) == 0) text.setCharAt(in(0, text.length() - 1), LETTERS.charAt(in(0, LETTERS.length() - 1)));
        if (random.nextInt(20) == 0) text.setLength(in(0, text.length()));
        for (int i = 0; i < text.length(); i++) {
            note("feed of " + text, x.feed(text.charAt(i)), m.feed(text.charAt(i)));
            if (got != want) return;
        }
        note("law of " + text, x.law(), m.law());
    }

    private String either(int depth) {
        StringBuilder text = new StringBuilder(operand(depth));
        for (int k = in(0, 4); k > 0; k--) {
            text.append("+-*/%+-*<=>&|".charAt(in(0, 12))).append(operand(depth));
        }
        return text.toString();
    }

    private String operand(int depth) {
        int kind = random.nextInt(12);
        if (kind < 2 && depth > 0) return "(" + either(depth - 1) + ")";
        if (kind == 2) return "!" + operand(depth);
        if (kind == 3) return "-" + operand(depth);
        if (kind < 6) return "" + in(0, random.nextInt(5) == 0 ? 20000 : 30);
        return "" + "lwradp".charAt(in(0, 5));
    }

    private void clock() {
        int a = one(), ab = pair(), d = day(), w = what(), n = near(1, 999), s = set();
        switch (random.nextInt(15)) {
            case 0: note("at", x.at(a, d, w), m.at(a, d, w), a, d, w); return;
            case 1: note("apart", x.apart(ab, d, w), m.apart(ab, d, w), ab, d, w); return;
            case 2: note("meets", x.meets(ab, d), m.meets(ab, d), ab, d); return;
            case 3: note("often", x.often(ab, d, n), m.often(ab, d, n), ab, d, n); return;
            case 4: note("together", x.together(s), m.together(s), s); return;
            case 5: {
                long told = x.start(s);
                note("start " + told, m.isStart(s, told) ? 1 : 0, 1, s);
                return;
            }
            case 6: note("mood", x.mood(a, d), m.mood(a, d), a, d); return;
            case 7: {
                int dn = random.nextInt(8) == 0 ? near(0, 9999999) : 1000 * in(0, 99) + near(1, 60);
                note("best", x.best(a, dn, w), m.best(a, dn, w), a, dn, w);
                return;
            }
            case 8: {
                int many = near(0, random.nextBoolean() ? 1 : 999);
                note("sign", x.sign(s, d, many), m.sign(s, d, many), s, d, many);
                return;
            }
            case 9: note("nudge", x.nudge(ab, d), m.nudge(ab, d), ab, d); return;
            case 10: {
                int many = random.nextInt(3) == 0 ? n : near(1, 9);
                note("never", x.never(ab, many, w), m.never(ab, many, w), ab, many, w);
                return;
            }
            case 11: note("scene", x.scene(ab), m.scene(ab), ab); return;
            case 12: {
                int nw = 10 * near(1, 6) + what();
                note("byTurns", x.byTurns(ab, d, nw), m.byTurns(ab, d, nw), ab, d, nw);
                return;
            }
            case 13: note("crowd", x.crowd(a, d, w), m.crowd(a, d, w), a, d, w); return;
            default: note("arc", x.arc(s, d), m.arc(s, d), s, d); return;
        }
    }

    private void pushed() {
        int a = one(), ab = pair(), w = what(), n = near(0, random.nextInt(4) == 0 ? 200 : 30), f = shelf();
        switch (random.nextInt(9)) {
            case 0: note("later", x.later(a, n), m.later(a, n), a, n); return;
            case 1: note("pushes", x.pushes(n, w), m.pushes(n, w), n, w); return;
            case 2: note("met", x.met(ab, n), m.met(ab, n), ab, n); return;
            case 3: note("again", x.again(w), m.again(w), w); return;
            case 4: book(f, a); return;
            case 5: note("judge", x.judge(f, a), m.judge(f, a), f, a); return;
            case 6: note("liking", x.liking(f, ab, a, w), m.liking(f, ab, a, w), f, ab, a, w); return;
            case 7: note("whose", x.whose(f), m.whose(f), f); return;
            default: {
                int years = random.nextInt(5) == 0 ? near(1, 30) : in(1, 4);
                int nms = 10000 * years + 100 * near(1, random.nextInt(4) == 0 ? 60 : 9) + near(0, 12);
                int seed = random.nextInt(), told = random.nextInt(3) == 0 ? -1 : a;
                note("drawn", x.drawn(seed, nms, told), m.drawn(seed, nms, told), seed, nms, told);
                return;
            }
        }
    }

    // A book of what will be, once in a while with one day that will not.
    private void book(int shelf, int one) {
        if (shelf < 0 || shelf > 5 || !m.isOne(one)) {
            note("judge", x.judge(shelf, one), m.judge(shelf, one), shelf, one);
            return;
        }
        int n = in(0, 12);
        note("row", x.row(shelf, 0, n), m.row(shelf, 0, n), shelf, 0, n);
        for (int i = 0; i < n && got == want; i++) {
            int place = random.nextInt(15) == 0 ? in(0, 59) : m.later(one, i + 1);
            note("put", x.put(shelf, i, place), m.put(shelf, i, place), shelf, i, place);
        }
        if (got == want) note("judge", x.judge(shelf, one), m.judge(shelf, one), shelf, one);
    }

    private void deeds() {
        int a;
        switch (random.nextInt(12)) {
            case 0: case 1: note("day", x.day(), m.day()); return;
            case 2: case 3: {
                int one = one(), v = near(-9, 9);
                note("nudged", x.nudged(one, v), m.nudged(one, v), one, v);
                return;
            }
            case 4: a = near(0, 3); note("led", x.led(a), m.led(a), a); return;
            case 5: note("image", x.image(), m.image()); return;
            case 6: note("back", x.back(), m.back()); return;
            case 7: case 8: case 9: note("undo", x.undo(), m.undo()); return;
            default: note("redo", x.redo(), m.redo()); return;
        }
    }

    private void shelves() {
        int f = shelf(), i = near(0, 8);
        switch (random.nextInt(12)) {
            case 0: { int kind = near(0, 7); note("body", x.body(kind), m.body(kind), kind); return; }
            case 1: case 2: {
                int body = near(0, Math.max(0, m.moods.size() - 1)), act = near(0, 3);
                int with = random.nextBoolean() ? in(-9, 9) : random.nextInt();
                note("act", x.act(body, act, with), m.act(body, act, with), body, act, with);
                return;
            }
            case 3: case 4: note("trace", x.trace(i), m.trace(i), i); return;
            case 5: {
                int body = near(-1, Math.max(0, m.moods.size() - 1));
                note("keep", x.keep(f, body), m.keep(f, body), f, body);
                return;
            }
            case 6: {
                int sort = random.nextBoolean() ? 0 : near(0, 4), n = near(0, random.nextInt(3) == 0 ? 60 : 9);
                note("row", x.row(f, sort, n), m.row(f, sort, n), f, sort, n);
                return;
            }
            case 7: case 8: {
                long v = random.nextInt(3) == 0 ? random.nextLong() : in(-2, 12);
                note("put", x.put(f, i, v), m.put(f, i, v), f, i, v);
                return;
            }
            case 9: note("element", x.element(f, i), m.element(f, i), f, i); return;
            case 10: {
                int other = random.nextInt(3) == 0 ? f : shelf(), j = near(0, 8), n = near(0, 6);
                note("shift", x.shift(f, i, other, j, n), m.shift(f, i, other, j, n), f, i, other, j, n);
                return;
            }
            default: { int k = near(0, 7); note("taken", x.taken(f, k), m.taken(f, k), f, k); return; }
        }
    }
}
