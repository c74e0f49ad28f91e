import java.lang.reflect.Constructor;
import java.lang.reflect.Field;
import java.lang.reflect.Method;
import java.lang.reflect.Modifier;
import java.nio.file.Files;
import java.nio.file.Path;
import java.util.ArrayList;
import java.util.HashSet;
import java.util.List;
import java.util.Set;
import java.util.TreeSet;
import java.util.regex.Matcher;
import java.util.regex.Pattern;

/**
 * What of LANGUAGE.md can be seen without understanding the program: its words, its face, its measures.
 * Arguments: the program's file, the document.
 */
public final class LanguageRules {
    private static int wrong;

    public static void main(String[] arguments) throws Exception {
        String source = Files.readString(Path.of(arguments[0]));
        String document = Files.readString(Path.of(arguments[1]));
        String code = withoutComments(source);
        words(code);
        face(document);
        classes();
        methodLengths(source);
        System.out.println(wrong == 0 ? "the rules that can be seen are kept" : wrong + " rules are not kept");
        if (wrong != 0) System.exit(1);
    }

    private static void hold(boolean holds, String rule) {
        if (!holds) {
            wrong++;
            System.out.println("not kept: " + rule);
        }
    }

    private static String withoutComments(String source) {
        return source.replaceAll("(?s)/\\*.*?\\*/", "").replaceAll("//[^\n]*", "").replaceAll("'.'", "0");
    }

    private static void words(String code) {
        String[] refused = {"throw", "throws", "try", "catch", "finally", "synchronized", "assert", "volatile", "var",
            "Random", "Thread", "System.in", "System.out", "System.currentTimeMillis", "System.nanoTime", "hashCode",
            "toString", "Object", "protected", "package", "goto", "native", "transient", "List", "HashMap", "Exact"};
        for (String word : refused) {
            hold(!Pattern.compile("\\b" + Pattern.quote(word) + "\\b").matcher(code).find(), "no " + word);
        }
        hold(!code.contains("->"), "no lambda, no switch by arrows");
        hold(!code.contains("::"), "no method reference");
        hold(!code.contains("while (true)") && !code.contains("for (;;)"), "each loop has an end");
        Set<String> imports = new TreeSet<>();
        Matcher matcher = Pattern.compile("import ([\\w.]+);").matcher(code);
        while (matcher.find()) imports.add(matcher.group(1));
        hold(imports.equals(Set.of("java.util.Arrays")), "no library but java.util.Arrays: " + imports);
        Set<String> library = new TreeSet<>();
        matcher = Pattern.compile("\\b(System|Arrays|Math|Integer|Long)\\.\\w+").matcher(code);
        while (matcher.find()) library.add(matcher.group());
        Set<String> listed = Set.of("System.arraycopy", "Arrays.fill", "Math.floorMod", "Math.abs", "Math.min", "Math.max",
            "Integer.bitCount", "Long.MIN_VALUE");
        hold(listed.containsAll(library), "only the listed library: " + library);
    }

    // The document's face, line by line, against what the class shows.
    private static void face(String document) {
        Set<String> promised = new TreeSet<>();
        Matcher matcher = Pattern.compile("    public (int|long) (\\w+)\\(([^)]*)\\);").matcher(document);
        while (matcher.find()) {
            List<String> types = new ArrayList<>();
            for (String parameter : matcher.group(3).split(", ")) {
                if (!parameter.isEmpty()) types.add(parameter.split(" ")[0]);
            }
            promised.add(matcher.group(1) + " " + matcher.group(2) + types);
        }
        Set<String> shown = new TreeSet<>();
        for (Method method : OrbitsWed.class.getDeclaredMethods()) {
            if (Modifier.isPrivate(method.getModifiers()) || method.isSynthetic()) continue;
            List<String> types = new ArrayList<>();
            for (Class<?> type : method.getParameterTypes()) types.add(type.getName());
            shown.add(method.getReturnType().getName() + " " + method.getName() + types);
            hold(Modifier.isPublic(method.getModifiers()), "public, or private: " + method);
        }
        hold(promised.size() == 46 && promised.equals(shown), "the document's face: " + promised + " is not " + shown);
        for (Field field : OrbitsWed.class.getDeclaredFields()) {
            boolean constant = Set.of("BAD", "NOT", "FULL", "STATE", "VOID").contains(field.getName());
            int modifiers = field.getModifiers();
            hold(constant ? Modifier.isPublic(modifiers) : Modifier.isPrivate(modifiers), "private, or a constant: " + field);
        }
        Constructor<?>[] constructors = OrbitsWed.class.getDeclaredConstructors();
        hold(constructors.length == 1 && constructors[0].getParameterCount() == 0, "one constructor");
    }

    private static void classes() {
        Set<String> names = new HashSet<>();
        for (Method method : OrbitsWed.class.getDeclaredMethods()) {
            if (Modifier.isPublic(method.getModifiers())) names.add(method.getName());
        }
        List<Class<?>> all = new ArrayList<>(List.of(OrbitsWed.class.getDeclaredClasses()));
        hold(all.size() <= 11, "at most some twelve classes");
        for (Class<?> inside : all) {
            hold(Modifier.isStatic(inside.getModifiers()), "static: " + inside);
            for (Method method : inside.getDeclaredMethods()) {
                hold(!names.contains(method.getName()), "no name of the face: " + method);
            }
        }
        all.add(OrbitsWed.class);
        for (Class<?> one : all) {
            int fields = 0;
            for (Field field : one.getDeclaredFields()) {
                if (Modifier.isStatic(field.getModifiers())) hold(Modifier.isFinal(field.getModifiers()), "final: " + field);
                else fields++;
            }
            hold(fields <= 20, "at most some twenty fields: " + one);
            for (Method method : one.getDeclaredMethods()) {
                hold(method.getParameterCount() <= 7, "at most seven parameters: " + method);
            }
        }
    }

    private static void methodLengths(String source) {
        int begun = -1;
        String indent = "";
        String[] lines = source.split("\n");
        for (int i = 0; i < lines.length; i++) {
            Matcher matcher = Pattern.compile("^( {4}| {8})\\S.*\\) \\{$").matcher(lines[i]);
            if (begun < 0 && matcher.find()) {
                begun = i;
                indent = matcher.group(1);
            } else if (begun >= 0 && lines[i].equals(indent + "}")) {
                hold(i - begun <= 60, "some sixty lines: " + lines[begun].trim());
                begun = -1;
            }
        }
    }
}
