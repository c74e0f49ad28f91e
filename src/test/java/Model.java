import java.lang.reflect.Array;
import java.util.ArrayDeque;
import java.util.ArrayList;
import java.util.Collections;
import java.util.Deque;
import java.util.HashMap;
import java.util.List;
import java.util.Map;

/**
 * The document once more, in other ways than the program's: with the library, real classes for the moods,
 * real arrays for the rows, an automaton for the tape, texts split for the law. RunsAgainstModel compares.
 */
final class Model {
    static final int BAD = -1, NOT = -2, FULL = -3, STATE = -5, VOID = -2000000000;

    static final class Body {
        int round, place, weight = 1;
    }

    record Change(int number, int what, int was, int becomes) { }

    record Image(int[] places, int[] led) { }

    final List<Body> sky = new ArrayList<>();
    final Map<Integer, Integer> likes = new HashMap<>();
    int near = 10;
    StringBuilder tape = new StringBuilder();
    String law;
    int[] led = new int[4];
    Image image;
    final Deque<Change> undone = new ArrayDeque<>();
    final Deque<Change> done = new ArrayDeque<>();
    final List<Mood> moods = new ArrayList<>();
    static final List<Integer> RAN = new ArrayList<>();
    final Object[] shelves = new Object[6];

    // ---- bodies

    int orb(int round, int place) {
        if (round < 1 || round > 60 || place < 0 || place >= round) return BAD;
        if (sky.size() == 8) return FULL;
        Body body = new Body();
        body.round = round;
        body.place = place;
        sky.add(body);
        return sky.size() - 1;
    }

    int orbs(int shelf, int i, int n) {
        if (shelf < 0 || shelf > 5 || n < 1 || n > 8) return BAD;
        if (shelves[shelf] != null && !(shelves[shelf] instanceof byte[])) return -12;
        int came = 0;
        try {
            byte[] row = (byte[]) shelves[shelf];
            for (int k = 0; k < n; k++) {
                int at = i + 3 * k;
                int round = row[at], place = row[at + 1], weight = row[at + 2];
                if (weight < 0 || weight > 9) return came;
                int number = orb(round, place);
                if (number < 0) return came;
                sky.get(number).weight = weight;
                came++;
            }
        } catch (NullPointerException | ArrayIndexOutOfBoundsException e) {
            return came;
        }
        return came;
    }

    boolean isPair(int ab) {
        return ab >= 0 && ab <= 77 && ab / 10 < sky.size() && ab % 10 < sky.size() && ab / 10 != ab % 10;
    }

    boolean isOne(int one) {
        return one >= 0 && one < sky.size();
    }

    boolean isSet(int set) {
        return set >= 0 && set < Math.pow(2, sky.size());
    }

    int of(int number, int what) {
        if (what == 0 && isOne(number)) return sky.get(number).place;
        if (what == 1 && isOne(number)) return sky.get(number).weight;
        if (what == 2 && isPair(number)) return likes.getOrDefault(number, 0);
        if (what == 3 && number == 0) return near;
        if (what == 4 && isOne(number)) return sky.get(number).round;
        return VOID;
    }

    void set(int number, int what, int v) {
        if (what == 0) sky.get(number).place = v;
        if (what == 1) sky.get(number).weight = v;
        if (what == 2) likes.put(number, v);
        if (what == 3) near = v;
    }

    int mend(int number, int what, int v) {
        int was = of(number, what);
        if (was == VOID || what == 4) return VOID;
        int least = what == 2 ? -9 : 0;
        int most = what == 0 ? sky.get(number).round - 1 : what == 3 ? 90 : 9;
        if (v < least || v > most) return VOID;
        if (v != was) {
            set(number, what, v);
            done.addLast(new Change(number, what, was, v));
            undone.clear();
            if (done.size() > 40) done.removeFirst();
        }
        return was;
    }

    int feed(int letter) {
        if (letter < 0 || letter > 255) return BAD;
        if (tape.length() == 120) return FULL;
        tape.append((char) letter);
        return tape.length();
    }

    int law() {
        String text = tape.toString();
        tape = new StringBuilder();
        int fault = fault(text);
        if (fault >= 0) return -100 - fault;
        law = text;
        return 1;
    }

    // What is open, from the outside in: L a line, ( a bracket, ! and - turned operands; each with whether
    // a comparison is done in the B that now stands in it.
    static int fault(String text) {
        Deque<Character> open = new ArrayDeque<>();
        Deque<Boolean> compared = new ArrayDeque<>();
        open.push('L');
        compared.push(false);
        boolean asked = false;
        boolean wanting = true;
        int digits = 0;
        for (int i = 0; i < text.length(); i++) {
            char c = text.charAt(i);
            int turned = open.size() - 1;
            if (wanting) {
                if (c == '(' || c == '!' || c == '-') {
                    if (turned == 6) return i;
                    open.push(c);
                    compared.push(false);
                    continue;
                }
                boolean digit = c >= '0' && c <= '9';
                if (!digit && "lwradp".indexOf(c) < 0) return i;
                digits = digit ? 1 : 0;
                wanting = false;
                closeTurned(open, compared);
                continue;
            }
            if (c >= '0' && c <= '9' && digits > 0 && digits < 4) {
                digits++;
                continue;
            }
            digits = 0;
            if (c == ')' && open.peek() == '(') {
                open.pop();
                compared.pop();
                closeTurned(open, compared);
            } else if ("+-*/%".indexOf(c) >= 0) {
                wanting = true;
            } else if ("<=>".indexOf(c) >= 0 && !compared.peek()) {
                compared.pop();
                compared.push(true);
                wanting = true;
            } else if (c == '&' || c == '|' || (c == '?' && !asked && open.peek() == 'L') || (c == ';' && open.peek() == 'L')) {
                compared.pop();
                compared.push(false);
                if (c == '?') asked = true;
                if (c == ';') asked = false;
                wanting = true;
            } else {
                return i;
            }
        }
        return wanting || open.size() > 1 ? text.length() : -1;
    }

    static void closeTurned(Deque<Character> open, Deque<Boolean> compared) {
        while (open.peek() == '!' || open.peek() == '-') {
            open.pop();
            compared.pop();
        }
    }

    // The last sign of some, outside brackets and between two sides.
    static int lastSign(String e, String signs) {
        int depth = 0;
        for (int i = e.length() - 1; i > 0; i--) {
            char c = e.charAt(i);
            if (c == ')') depth++;
            if (c == '(') depth--;
            char before = e.charAt(i - 1);
            boolean betweenSides = Character.isLetterOrDigit(before) || before == ')';
            if (depth == 0 && betweenSides && signs.indexOf(c) >= 0) return i;
        }
        return -1;
    }

    static int value(String e, Map<Character, Integer> names) {
        for (String signs : new String[] {"|", "&", "<=>", "+-", "*/%"}) {
            int at = lastSign(e, signs);
            if (at < 0) continue;
            int x = value(e.substring(0, at), names);
            int y = value(e.substring(at + 1), names);
            switch (e.charAt(at)) {
                case '|': return x != 0 | y != 0 ? 1 : 0;
                case '&': return x != 0 & y != 0 ? 1 : 0;
                case '<': return x < y ? 1 : 0;
                case '=': return x == y ? 1 : 0;
                case '>': return x > y ? 1 : 0;
                case '+': return x + y;
                case '-': return x - y;
                case '*': return x * y;
                case '/': return y == 0 ? 0 : (int) ((long) x / y);
                default: return y == 0 ? 0 : (int) ((long) x % y);
            }
        }
        char c = e.charAt(0);
        if (c == '!') return value(e.substring(1), names) == 0 ? 1 : 0;
        if (c == '-') return -value(e.substring(1), names);
        if (c == '(') return value(e.substring(1, e.length() - 1), names);
        return names.containsKey(c) ? names.get(c) : Integer.parseInt(e);
    }

    int pushOn(int one, int other, int[] places, int day) {
        int l = likes.getOrDefault(10 * one + other, 0);
        int w = sky.get(other).weight;
        int v = l * w;
        if (law != null) {
            Map<Character, Integer> names = Map.of('l', l, 'w', w, 'r', sky.get(one).round,
                'a', gap(one, places[one], other, places[other]), 'd', day, 'p', places[one]);
            v = 0;
            for (String line : law.split(";")) {
                int ask = line.indexOf('?');
                if (ask < 0 || value(line.substring(0, ask), names) != 0) {
                    v = value(line.substring(ask + 1), names);
                    break;
                }
            }
        }
        return v > 9 ? 9 : v < -9 ? -9 : v;
    }

    // ---- by the clock

    int mod(long a, int b) {
        return (int) (((a % b) + b) % b);
    }

    int degrees(int one, int place) {
        return 360 * place / sky.get(one).round;
    }

    int gap(int one, int place, int other, int otherPlace) {
        int way = mod(degrees(one, place) - degrees(other, otherPlace), 360);
        return way > 180 ? 360 - way : way;
    }

    int placeOn(int one, long day) {
        return mod(sky.get(one).place + day, sky.get(one).round);
    }

    boolean meet(int one, int other, int day) {
        return gap(one, placeOn(one, day), other, placeOn(other, day)) <= near;
    }

    static boolean isDay(int day) {
        return day >= 0 && day < 100000;
    }

    static boolean isWhat(int what) {
        return what == 0 || what == 1;
    }

    int at(int one, int day, int what) {
        if (!isOne(one) || !isDay(day) || !isWhat(what)) return BAD;
        return what == 0 ? placeOn(one, day) : degrees(one, placeOn(one, day));
    }

    int apart(int ab, int day, int what) {
        if (!isPair(ab) || !isDay(day) || !isWhat(what)) return BAD;
        int gap = gap(ab / 10, placeOn(ab / 10, day), ab % 10, placeOn(ab % 10, day));
        return what == 0 ? gap : gap > near ? 0 : 1;
    }

    int meets(int ab, int day) {
        if (!isPair(ab) || !isDay(day)) return BAD;
        for (int d = day; d < 100000; d++) if (meet(ab / 10, ab % 10, d)) return d;
        return NOT;
    }

    int often(int ab, int day, int n) {
        if (!isPair(ab) || !isDay(day) || n < 1 || n > 999) return BAD;
        int many = 0;
        for (int k = 0; k < n; k++) if (meet(ab % 10, ab / 10, day + k)) many++;
        return many;
    }

    List<Integer> members(int set) {
        List<Integer> members = new ArrayList<>();
        for (int one = 0; one < sky.size(); one++) if ((set & 1 << one) != 0) members.add(one);
        return members;
    }

    static long gcd(long a, long b) {
        return b == 0 ? a : gcd(b, a % b);
    }

    long together(int set) {
        if (!isSet(set)) return Long.MIN_VALUE;
        long days = 1;
        for (int one : members(set)) days = days / gcd(days, sky.get(one).round) * sky.get(one).round;
        return days;
    }

    // No day is searched for: a told one is right if it suits all and lies within the common round.
    boolean isStart(int set, long told) {
        if (!isSet(set)) return told == Long.MIN_VALUE;
        List<Integer> members = members(set);
        if (told == NOT) {
            for (int a : members) {
                for (int b : members) {
                    long g = gcd(sky.get(a).round, sky.get(b).round);
                    if ((sky.get(a).place - sky.get(b).place) % g != 0) return true;
                }
            }
            return false;
        }
        for (int one : members) if (placeOn(one, told) != 0) return false;
        return told >= 0 && told < together(set);
    }

    int mood(int one, int day) {
        if (!isOne(one) || !isDay(day)) return VOID;
        int sum = 0;
        for (int other : members(crowd(one, day, 1))) sum += likes.getOrDefault(10 * one + other, 0);
        return sum;
    }

    int best(int one, int dn, int what) {
        int n = dn % 1000;
        if (!isOne(one) || dn < 0 || dn > 9999999 || n == 0 || !isWhat(what)) return VOID;
        int best = dn / 1000;
        for (int day = best; day < dn / 1000 + n; day++) if (mood(one, day) > mood(one, best)) best = day;
        return what == 0 ? best : mood(one, best);
    }

    boolean isFree(int set, int day) {
        for (int a : members(set)) {
            for (int b = 0; b < sky.size(); b++) if (a != b && meet(a, b, day)) return false;
        }
        return true;
    }

    int sign(int set, int day, int n) {
        if (!isSet(set) || !isDay(day) || n < 0 || n > 999) return BAD;
        int many = 0;
        for (int d = day; n == 0 ? d < 100000 : d < day + n; d++) {
            if (isFree(set, d)) many++;
            if (n == 0 && many > 0) return d;
        }
        return n == 0 ? NOT : many;
    }

    boolean meetMoved(int one, int by, int other, int day) {
        return gap(one, placeOn(one, day + by), other, placeOn(other, day)) <= near;
    }

    int nudge(int ab, int day) {
        if (!isPair(ab) || !isDay(day)) return VOID;
        int best = -1000;
        for (int by = -60; by <= 60; by++) {
            boolean less = Math.abs(by) < Math.abs(best) || (by > 0 && by == -best);
            if (less && meetMoved(ab / 10, by, ab % 10, day)) best = by;
        }
        return best;
    }

    int never(int ab, int n, int what) {
        if (!isPair(ab) || n < 1 || n > 999 || !isWhat(what)) return BAD;
        List<Integer> lonely = new ArrayList<>();
        int was = sky.get(ab / 10).place;
        for (int place = 0; place < sky.get(ab / 10).round; place++) {
            sky.get(ab / 10).place = place;
            if (often(ab, 0, n) == 0) lonely.add(place);
        }
        sky.get(ab / 10).place = was;
        return what == 0 ? lonely.size() : lonely.isEmpty() ? NOT : lonely.get(0);
    }

    int scene(int ab) {
        if (!isPair(ab)) return BAD;
        for (int ago = 1; ago <= 3600; ago++) {
            int ra = sky.get(ab / 10).round, rb = sky.get(ab % 10).round;
            if (placeOn(ab / 10, -ago) * rb == placeOn(ab % 10, -ago) * ra) return ago;
        }
        return NOT;
    }

    // ---- pushed

    final class Days {
        int[] places = new int[sky.size()];
        int day;
        int pushes;
        List<Integer> pairs;

        Days() {
            for (int i = 0; i < places.length; i++) places[i] = sky.get(i).place;
        }

        void next() {
            int[] then = places.clone();
            pushes = 0;
            pairs = new ArrayList<>();
            for (int a = 0; a < places.length; a++) {
                for (int b = 0; b < places.length; b++) {
                    if (a == b || gap(a, places[a], b, places[b]) > near) continue;
                    pairs.add(10 * a + b);
                    int v = pushOn(a, b, places, day);
                    then[a] += v;
                    if (v != 0) pushes++;
                }
            }
            for (int a = 0; a < places.length; a++) places[a] = mod(then[a] + 1, sky.get(a).round);
            day++;
        }
    }

    int later(int one, int n) {
        if (!isOne(one) || n < 0 || n > 200) return BAD;
        Days days = new Days();
        while (days.day < n) days.next();
        return days.places[one];
    }

    int pushes(int n, int what) {
        if (n < 0 || n > 200 || !isWhat(what)) return BAD;
        Days days = new Days();
        int many = 0, first = NOT;
        while (days.day < n) {
            days.next();
            many += days.pushes;
            if (first == NOT && days.pushes > 0) first = days.day - 1;
        }
        return what == 0 ? many : first;
    }

    int met(int ab, int n) {
        if (!isPair(ab) || n < 0 || n > 200) return BAD;
        Days days = new Days();
        int many = 0;
        while (days.day < n) {
            days.next();
            if (days.pairs.contains(ab)) many++;
        }
        return many;
    }

    int again(int what) {
        if (!isWhat(what)) return BAD;
        List<String> seen = new ArrayList<>();
        Days days = new Days();
        while (days.day <= 300) {
            String stand = java.util.Arrays.toString(days.places);
            if (seen.contains(stand)) return what == 0 ? days.day : seen.indexOf(stand);
            seen.add(stand);
            days.next();
        }
        return NOT;
    }

    int judged(byte[] book, int one) {
        Days days = new Days();
        for (int i = 0; i < book.length; i++) {
            days.next();
            if (days.places[one] != book[i]) return i;
        }
        return NOT;
    }

    int judge(int shelf, int one) {
        if (shelf < 0 || shelf > 5 || !isOne(one)) return BAD;
        if (shelves[shelf] == null) return -11;
        return shelves[shelf] instanceof byte[] book ? judged(book, one) : -12;
    }

    int liking(int shelf, int ab, int one, int what) {
        if (shelf < 0 || shelf > 5 || !isPair(ab) || !isOne(one) || !isWhat(what)) return VOID;
        if (!(shelves[shelf] instanceof byte[] book)) return VOID;
        int was = likes.getOrDefault(ab, 0), many = 0, least = -99;
        for (int like = 9; like >= -9; like--) {
            likes.put(ab, like);
            if (judged(book, one) == NOT) {
                many++;
                least = like;
            }
        }
        likes.put(ab, was);
        return what == 0 ? many : least;
    }

    int whose(int shelf) {
        if (shelf < 0 || shelf > 5) return BAD;
        if (shelves[shelf] == null) return -11;
        if (!(shelves[shelf] instanceof byte[] book)) return -12;
        int bits = 0;
        for (int one = 0; one < sky.size(); one++) if (judged(book, one) == NOT) bits += 1 << one;
        return bits;
    }

    int byTurns(int ab, int day, int nw) {
        int n = nw / 10, what = nw % 10;
        if (!isPair(ab) || !isDay(day) || nw < 0 || n < 1 || n > 6 || !isWhat(what)) return VOID;
        // Backwards from the last nudge: met[by + 7] tells whether it ends well once moved by so much.
        boolean[] met = new boolean[15];
        for (int by = -7; by <= 7; by++) met[by + 7] = meetMoved(ab / 10, by, ab % 10, day);
        for (int turn = n - 1; turn >= 1; turn--) {
            boolean[] ahead = new boolean[15];
            for (int i = 1; i < 14; i++) {
                boolean any = met[i - 1] || met[i] || met[i + 1], all = met[i - 1] && met[i] && met[i + 1];
                ahead[i] = turn % 2 == 0 ? any : all;
            }
            met = ahead;
        }
        boolean does = met[6] || met[7] || met[8];
        if (what == 0) return does ? 1 : 0;
        return !does || met[6] ? -1 : met[7] ? 0 : 1;
    }

    int crowd(int one, int day, int what) {
        if (!isOne(one) || !isDay(day) || !isWhat(what)) return BAD;
        int bits = 0, many = 0;
        for (int other = 0; other < sky.size(); other++) {
            if (other == one || !meet(other, one, day)) continue;
            bits += 1 << other;
            many++;
        }
        return what == 0 ? many : bits;
    }

    int arc(int set, int day) {
        if (!isSet(set) || !isDay(day)) return BAD;
        List<Integer> stand = new ArrayList<>();
        for (int one : members(set)) stand.add(degrees(one, placeOn(one, day)));
        if (stand.size() < 2) return 0;
        Collections.sort(stand);
        int widest = 360 - stand.get(stand.size() - 1) + stand.get(0);
        for (int i = 1; i < stand.size(); i++) widest = Math.max(widest, stand.get(i) - stand.get(i - 1));
        return 360 - widest;
    }

    int drawn(int seed, int nms, int one) {
        int n = nms / 10000, m = nms % 10000 / 100, slips = nms % 100;
        if (nms < 0 || n < 1 || n > 30 || m < 1 || m > 60 || slips > 12) return BAD;
        if (one != -1 && !isOne(one)) return BAD;
        int z = seed, often = 0, ends = 0;
        for (int year = 0; year < n; year++) {
            Days days = new Days();
            while (days.day < m) {
                days.next();
                boolean metAny = false;
                for (int pair : days.pairs) metAny |= pair / 10 == one;
                if (metAny) often++;
                for (int i = 0; i < sky.size(); i++) {
                    z = z * 1103515245 + 12345;
                    if ((z >>> 8) % 12 < slips) days.places[i] = mod(days.places[i] - 1, sky.get(i).round);
                }
            }
            boolean all = true;
            for (int place : days.places) all &= place == 0;
            if (all) ends++;
        }
        return one == -1 ? ends : often;
    }

    // ---- in deed

    int day() {
        Days days = new Days();
        days.next();
        for (int i = 0; i < sky.size(); i++) sky.get(i).place = days.places[i];
        led[0]++;
        led[1] += days.pushes;
        led[2] += days.pairs.size() / 2;
        return days.pushes;
    }

    int nudged(int one, int v) {
        if (!isOne(one) || v < -9 || v > 9) return BAD;
        led[3]++;
        return sky.get(one).place = mod(sky.get(one).place + v, sky.get(one).round);
    }

    int led(int what) {
        return what < 0 || what > 3 ? BAD : led[what];
    }

    int image() {
        int[] places = sky.stream().mapToInt(body -> body.place).toArray();
        image = new Image(places, led.clone());
        return led[0];
    }

    int back() {
        if (image == null) return STATE;
        for (int i = 0; i < image.places().length; i++) sky.get(i).place = image.places()[i];
        led = image.led().clone();
        return led[0];
    }

    int undo() {
        if (done.isEmpty()) return STATE;
        Change change = done.removeLast();
        set(change.number(), change.what(), change.was());
        undone.addLast(change);
        return done.size();
    }

    int redo() {
        if (undone.isEmpty()) return STATE;
        Change change = undone.removeLast();
        set(change.number(), change.what(), change.becomes());
        done.addLast(change);
        return undone.size();
    }

    // ---- acts

    interface Draws {
        int n();

        default int draws(int x) {
            RAN.add(1);
            return x + n();
        }
    }

    interface Tells {
        int meets(int x);

        int shuns(int x);

        default int tells(int x) {
            RAN.add(2);
            return meets(x) - shuns(1);
        }
    }

    static class Mood implements Draws, Tells {
        int n;
        public int n() { return n; }
        public int meets(int x) { RAN.add(10); return draws(x) * 2; }
        public int shuns(int x) { RAN.add(11); return x ^ n; }
    }

    static class Aunt extends Mood {
        public int draws(int x) { RAN.add(20); return super.draws(x) + 3; }
    }

    static class Mars extends Mood {
        public int meets(int x) { RAN.add(30); return -super.meets(x); }
    }

    static class Scene extends Mars {
        public int shuns(int x) { RAN.add(40); return super.shuns(x) * 3; }
        public int meets(int x) { RAN.add(41); return super.meets(x + 1); }
    }

    static class Leeds extends Aunt {
        public int shuns(int x) { RAN.add(50); return super.shuns(x) - draws(2); }
    }

    static class Uncle extends Scene {
        public int tells(int x) { RAN.add(60); return super.tells(x) ^ 5; }
    }

    static class Rule extends Mood {
        public int draws(int x) { RAN.add(70); return super.draws(x) * 2; }
    }

    static class Mustard extends Leeds {
        public int meets(int x) { RAN.add(80); return super.meets(x) + shuns(2); }
        public int tells(int x) { RAN.add(81); return super.tells(x) - 1; }
    }

    static final Class<?>[] KINDS = {Mood.class, Aunt.class, Mars.class, Scene.class, Leeds.class, Uncle.class,
        Rule.class, Mustard.class};

    int body(int kind) {
        if (kind < 0 || kind > 7) return BAD;
        if (moods.size() == 50) return FULL;
        Mood[] fresh = {new Mood(), new Aunt(), new Mars(), new Scene(), new Leeds(), new Uncle(), new Rule(),
            new Mustard()};
        fresh[kind].n = moods.size();
        moods.add(fresh[kind]);
        return moods.size() - 1;
    }

    int act(int body, int act, int x) {
        RAN.clear();
        if (body < 0 || body >= moods.size()) return 0;
        Mood mood = moods.get(body);
        return act == 0 ? mood.draws(x) : act == 1 ? mood.meets(x) : act == 2 ? mood.shuns(x)
            : act == 3 ? mood.tells(x) : 0;
    }

    int trace(int i) {
        return i < 0 || i > 23 || i >= RAN.size() ? BAD : RAN.get(i);
    }

    // ---- shelves

    int keep(int shelf, int body) {
        if (shelf < 0 || shelf > 5 || body < -1 || body >= moods.size()) return BAD;
        shelves[shelf] = body == -1 ? null : moods.get(body);
        return 1;
    }

    int row(int shelf, int sort, int n) {
        if (shelf < 0 || shelf > 5 || sort < 0 || sort > 4 || n > 60) return BAD;
        Class<?>[] sorts = {byte.class, short.class, int.class, long.class, boolean.class};
        try {
            shelves[shelf] = Array.newInstance(sorts[sort], n);
        } catch (NegativeArraySizeException e) {
            return -14;
        }
        return 1;
    }

    static void putInto(Object row, int i, long v) {
        if (row instanceof byte[] bytes) bytes[i] = (byte) v;
        else if (row instanceof short[] shorts) shorts[i] = (short) v;
        else if (row instanceof int[] ints) ints[i] = (int) v;
        else if (row instanceof long[] longs) longs[i] = v;
        else ((boolean[]) row)[i] = v != 0;
    }

    int put(int shelf, int i, long v) {
        if (shelf < 0 || shelf > 5) return BAD;
        if (shelves[shelf] == null) return -11;
        try {
            putInto(shelves[shelf], i, v);
        } catch (ClassCastException e) {
            return -12;
        } catch (IndexOutOfBoundsException e) {
            return -13;
        }
        return 1;
    }

    long element(int shelf, int i) {
        if (shelf < 0 || shelf > 5 || shelves[shelf] == null) return Long.MIN_VALUE;
        Object row = shelves[shelf];
        if (row instanceof Mood || i < 0 || i >= Array.getLength(row)) return Long.MIN_VALUE;
        return row instanceof boolean[] booleans ? (booleans[i] ? 1 : 0) : Array.getLong(row, i);
    }

    int shift(int shelf, int i, int other, int j, int n) {
        if (shelf < 0 || shelf > 5 || other < 0 || other > 5) return BAD;
        try {
            System.arraycopy(shelves[shelf], i, shelves[other], j, n);
        } catch (NullPointerException e) {
            return -11;
        } catch (ArrayStoreException e) {
            return -12;
        } catch (IndexOutOfBoundsException e) {
            return -13;
        }
        return n;
    }

    int taken(int shelf, int k) {
        if (shelf < 0 || shelf > 5 || k < 0 || k > 7) return BAD;
        if (shelves[shelf] == null) return -11;
        if (!KINDS[k].isInstance(shelves[shelf])) return -12;
        return List.of(KINDS).indexOf(shelves[shelf].getClass());
    }

    int count(int what) {
        int[] counts = {sky.size(), tape.length(), done.size(), moods.size(), RAN.size()};
        return what < 0 || what > 4 ? BAD : counts[what];
    }
}
