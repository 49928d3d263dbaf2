import java.io.IOException;
import java.lang.reflect.Field;
import java.lang.reflect.Modifier;
import java.nio.file.Files;
import java.nio.file.Path;
import java.util.List;
import java.util.Set;
import java.util.TreeSet;
import java.util.regex.Matcher;
import java.util.regex.Pattern;

/** The rules of LANGUAGE.md that can be seen from the text of the program or from its classes. */
public final class LanguageTest {
    private static final Path SOURCE = Path.of("src/main/java/TurningPlans.java");
    private static final int LONGEST_METHOD = 60;
    private static final int MOST_PARAMETERS = 7;
    private static final int MOST_CLASSES = 12;
    private static final int MOST_FIELDS = 20;
    private static final List<String> RULED_OUT = List.of("throw", "throws", "try", "catch", "synchronized", "assert",
            "->", "::", "Exact", "Thread", "Random", "System.currentTimeMillis", "System.nanoTime", "package");
    /** What the program needs of the library that rule 4 lists. */
    private static final Set<String> LIBRARY = Set.of("Arrays.fill", "Math.min");
    private static final Pattern LIBRARY_USE = Pattern.compile("(?<![.\\w])([A-Z]\\w*[a-z]\\w*)\\.(\\w+)");
    private static final Pattern METHOD =
            Pattern.compile("^ +(public |private |)(static |)(int|boolean|void) (\\w+)\\(([^)]*)\\) \\{$");

    public static void main(String[] args) throws IOException {
        Checks checks = new Checks("LanguageTest");
        List<String> lines = Files.readAllLines(SOURCE);
        checkWords(checks, lines);
        checkMethods(checks, lines);
        checkClass(checks, TurningPlans.class);
        for (Class<?> inside : TurningPlans.class.getDeclaredClasses()) {
            checks.due(inside + " is static", Modifier.isStatic(inside.getModifiers()), true);
            checkClass(checks, inside);
        }
        checks.end();
    }

    private static void checkWords(Checks checks, List<String> lines) {
        String code = String.join("\n", lines).replaceAll("(?s)/\\*.*?\\*/", "").replaceAll("//.*", "");
        for (String word : RULED_OUT) {
            String edge = Character.isLetter(word.charAt(0)) ? "\\b" : "";
            boolean found = Pattern.compile(edge + Pattern.quote(word) + edge).matcher(code).find();
            checks.due("has " + word, found, false);
        }
        Matcher imports = Pattern.compile("^import (.*);$", Pattern.MULTILINE).matcher(code);
        while (imports.find()) {
            checks.due("import " + imports.group(1), imports.group(1).equals("java.util.Arrays"), true);
        }
        Matcher uses = LIBRARY_USE.matcher(code.replaceAll("(?m)^import .*$", ""));
        while (uses.find()) {
            checks.due("uses " + uses.group(), LIBRARY.contains(uses.group()), true);
        }
        int classes = code.split("\\bclass ").length - 1;
        checks.due("classes", classes <= MOST_CLASSES, true);
    }

    private static void checkMethods(Checks checks, List<String> lines) {
        Set<String> publicNames = new TreeSet<>();
        Set<String> otherNames = new TreeSet<>();
        for (int i = 0; i < lines.size(); i++) {
            Matcher method = METHOD.matcher(lines.get(i));
            if (method.matches()) {
                (method.group(1).startsWith("public") ? publicNames : otherNames).add(method.group(4));
                checks.due("parameters of " + method.group(4),
                        method.group(5).split(",").length <= MOST_PARAMETERS, true);
                checks.due("length of " + method.group(4), lengthFrom(lines, i) <= LONGEST_METHOD, true);
            }
        }
        checks.due("public methods", publicNames.size(), 18);
        otherNames.retainAll(publicNames);
        checks.due("names of public methods used again", otherNames.toString(), "[]");
    }

    private static void checkClass(Checks checks, Class<?> type) {
        int fields = 0;
        for (Field field : type.getDeclaredFields()) {
            if (Modifier.isStatic(field.getModifiers())) {
                checks.due(field + " is final", Modifier.isFinal(field.getModifiers()), true);
                checks.due(field + " is a number", field.getType() == int.class, true);
            } else {
                fields++;
            }
        }
        checks.due("fields of " + type, fields <= MOST_FIELDS, true);
    }

    private static int lengthFrom(List<String> lines, int start) {
        String indent = lines.get(start).replaceAll("\\S.*", "");
        int end = start;
        while (end < lines.size() && !lines.get(end).equals(indent + "}")) {
            end++;
        }
        return end - start + 1;
    }

    private LanguageTest() {
    }
}
