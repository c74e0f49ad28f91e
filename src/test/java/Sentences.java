import java.util.ArrayList;
import java.util.List;
import java.util.regex.Matcher;
import java.util.regex.Pattern;

/**
 * The document's words, and which of them have a test: a test names the words that it holds the class to.
 * Parts: the Terms, the promises by their numbers, how many calls an object is used for.
 * Words of them that no test names are told at the end, and fail.
 */
final class Sentences {
    static final int TERMS = 0, PROMISES = 47, CALLS = 48;

    private final String[] texts = new String[CALLS + 1];
    private final boolean[][] tried = new boolean[CALLS + 1][];
    private String named = "nothing yet";
    private int checksOfNamed = 1;
    private int tests;
    private int checks;
    private int wrong;

    Sentences(String document) {
        texts[TERMS] = between(document, "## Terms", "## Promise 1:");
        for (int promise = 1; promise <= PROMISES; promise++) {
            String next = promise == PROMISES ? "## Not promised" : "## Promise " + (promise + 1) + ":";
            texts[promise] = words(between(document, "## Promise " + promise + ":", next));
        }
        texts[CALLS] = between(document, "each push and day led. An object", "## The public face");
        for (int part = 0; part <= CALLS; part++) tried[part] = new boolean[texts[part].length()];
    }

    private static String between(String document, String from, String to) {
        String text = document.replaceAll("\\s+", " ");
        int begin = text.indexOf(from), end = text.indexOf(to);
        if (begin < 0 || end < begin) throw new IllegalStateException("no part from " + from + " to " + to);
        return text.substring(begin + from.length(), end).trim();
    }

    // Behind the title and the signature, which LanguageRules looks at.
    private static String words(String promise) {
        Matcher matcher = Pattern.compile("^.*?`[^`]*`: (.*)$").matcher(promise);
        if (!matcher.find()) throw new IllegalStateException("no signature: " + promise);
        return matcher.group(1);
    }

    /** A test of its own for these words begins. */
    void test(int part, String words) {
        endTest();
        named = part >= 1 && part <= PROMISES ? "promise " + part + ", " + words : words;
        checksOfNamed = 0;
        tests++;
        mark(part, words);
    }

    /** Words that name no boundary: they only join others, or are tried with those. */
    void plain(int part, String words) {
        mark(part, words);
    }

    private void mark(int part, String words) {
        int at = texts[part].indexOf(words);
        if (at < 0) fail("the document has no such words: " + part + ", " + words);
        for (; at >= 0; at = texts[part].indexOf(words, at + 1)) {
            for (int i = at; i < at + words.length(); i++) tried[part][i] = true;
        }
    }

    void due(String call, long got, long want) {
        checks++;
        checksOfNamed++;
        if (got != want) fail(named + ": " + call + " answered " + got + ", due is " + want);
    }

    /** Any answer but that one. */
    void dueNot(String call, long got, long refusal) {
        checks++;
        checksOfNamed++;
        if (got == refusal) fail(named + ": " + call + " answered " + got + ", due is another answer");
    }

    private void endTest() {
        if (checksOfNamed == 0) fail("a test without a check: " + named);
    }

    private void fail(String what) {
        wrong++;
        System.out.println(what);
    }

    /** Tells what has no test; whether all is as due. */
    boolean end() {
        endTest();
        for (int part = 0; part <= CALLS; part++) {
            for (String words : untried(part)) fail("without a test: " + part + ", " + words);
        }
        System.out.println(tests + " tests of the document's words, " + checks + " checks, " + wrong + " wrong");
        return wrong == 0;
    }

    private List<String> untried(int part) {
        List<String> untried = new ArrayList<>();
        int begin = 0;
        for (int i = 0; i <= texts[part].length(); i++) {
            if (i < texts[part].length() && !tried[part][i]) continue;
            String words = texts[part].substring(begin, i).trim();
            if (!words.isEmpty()) untried.add(words);
            begin = i + 1;
        }
        return untried;
    }
}
