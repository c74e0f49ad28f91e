import java.util.Random;

/** Texts drawn by a fixed seed, whole, spoilt and cut: the program and the model find the same fault, the same pushes. */
public final class TextsAgainstModel {
    private static final int TEXTS = 20000;
    private static final String LETTERS = "lwradp0123456789+-*/%<=>&|!();?x ";

    private static final Random RANDOM = new Random(1799);

    public static void main(String[] arguments) {
        int wrong = 0;
        int whole = 0;
        for (int k = 0; k < TEXTS && wrong < 10; k++) {
            String text = text();
            OrbitsWed x = new OrbitsWed();
            Model m = new Model();
            for (int one = 0; one < 3; one++) {
                int round = 1 + RANDOM.nextInt(60);
                int place = RANDOM.nextInt(round);
                x.orb(round, place);
                m.orb(round, place);
            }
            x.mend(0, 3, 90);
            m.mend(0, 3, 90);
            for (int one = 0; one < 3; one++) {
                int other = (one + 1) % 3, like = RANDOM.nextInt(19) - 9, weight = RANDOM.nextInt(10);
                x.mend(10 * one + other, 2, like);
                m.mend(10 * one + other, 2, like);
                x.mend(one, 1, weight);
                m.mend(one, 1, weight);
            }
            for (int i = 0; i < text.length(); i++) {
                x.feed(text.charAt(i));
                m.feed(text.charAt(i));
            }
            int told = x.law(), due = m.law();
            whole += due == 1 ? 1 : 0;
            boolean alike = told == due && x.count(1) == 0;
            for (int one = 0; one < 3 && alike; one++) {
                alike = x.later(one, 5) == m.later(one, 5) && x.pushes(9, 0) == m.pushes(9, 0);
            }
            if (!alike) {
                wrong++;
                System.out.println("text " + text + ": law() answered " + told + ", the model " + due + ", or they go on unlike");
            }
        }
        System.out.println(wrong == 0 ? TEXTS + " texts, " + whole + " of them whole, are read alike" : wrong + " texts are not");
        if (wrong != 0) System.exit(1);
    }

    private static String text() {
        StringBuilder text = new StringBuilder();
        for (int k = RANDOM.nextInt(4); k >= 0; k--) {
            if (RANDOM.nextBoolean()) text.append(either(4)).append('?');
            text.append(either(4)).append(k > 0 ? ";" : "");
        }
        int kind = RANDOM.nextInt(4);
        if (kind == 0) text.setCharAt(RANDOM.nextInt(text.length()), LETTERS.charAt(RANDOM.nextInt(LETTERS.length())));
        if (kind == 1 && RANDOM.nextBoolean()) text.setLength(RANDOM.nextInt(text.length()));
        if (text.length() > 120) text.setLength(120);
        return text.toString();
    }

    private static String either(int depth) {
        StringBuilder text = new StringBuilder(operand(depth));
        for (int k = RANDOM.nextInt(5); k > 0; k--) {
            text.append("+-*/%+-*<=>&|".charAt(RANDOM.nextInt(13))).append(operand(depth));
        }
        return text.toString();
    }

    private static String operand(int depth) {
        int kind = RANDOM.nextInt(10);
        if (kind < 2 && depth > 0) return "(" + either(depth - 1) + ")";
        if (kind == 2) return "!" + operand(depth);
        if (kind == 3) return "-" + operand(depth);
        if (kind < 6) return "" + RANDOM.nextInt(RANDOM.nextInt(9) == 0 ? 20000 : 30);
        return "" + "lwradp".charAt(RANDOM.nextInt(6));
    }
}
