import java.lang.reflect.Field;
import java.lang.reflect.Method;
import java.lang.reflect.Modifier;
import java.nio.file.Files;
import java.nio.file.Path;
import java.util.List;
import java.util.regex.Matcher;
import java.util.regex.Pattern;

/**
 * The rules of ../shared/LANGUAGE.md, by their numbers, as far as they can be seen in the class or
 * in its text. Rule 1 is FaceTest's, 7 is RefusalTest's and ModelTest's, and 12 is RoomTest's.
 */
public final class LanguageTest {
    private static final Path SOURCE = Path.of("src/main/java/GrateLayers.java");
    private static final Pattern CALL = Pattern.compile("\\b([A-Z][A-Za-z]*)\\.([a-z][A-Za-z]*)\\(");
    private static final Pattern HEAD = Pattern.compile(" +[^=;.]*\\([^;]*\\) \\{");
    private static final List<String> FOREIGN = List.of("import", "package", "try", "catch",
        "finally", "throw", "throws", "synchronized", "assert", "volatile", "instanceof", "double",
        "float", "var", "yield", "native", "Object", "System", "Thread", "Random", "String");

    public static void main(String[] args) throws Exception {
        List<String> lines = Files.readAllLines(SOURCE);
        String code = String.join("\n", lines)
            .replaceAll("(?s)/\\*.*?\\*/", "").replaceAll("//[^\n]*", "");
        wordsAreTheLanguages(code);
        theLibraryIsSmall(code);
        methodsAreShort(lines);
        classesAreFewAndSmall();
        Check.end();
    }

    /** Rules 2, 3, 6 and 13: what the class has no need of does not come in unseen. */
    private static void wordsAreTheLanguages(String code) {
        for (String word : FOREIGN) {
            Check.no("the word " + word, Pattern.compile("\\b" + word + "\\b").matcher(code).find());
        }
        for (String sign : new String[] {"->", "::", "@", "static {", "\""}) {
            Check.no("the sign " + sign, code.contains(sign));
        }
        Check.yes("characters 0 to 127 alone", code.chars().allMatch(c -> c < 128));
    }

    /** Rule 4. */
    private static void theLibraryIsSmall(String code) {
        Matcher calls = CALL.matcher(code);
        while (calls.find()) {
            String call = calls.group(1) + "." + calls.group(2);
            Check.yes(call + " is of the library", List.of("Math.max", "Math.min", "Math.floorDiv")
                .contains(call));
        }
    }

    /** Rule 11: "Methods stay short (some sixty lines)". */
    private static void methodsAreShort(List<String> lines) {
        int methods = 0;
        for (int begin = 0; begin < lines.size(); begin++) {
            String head = lines.get(begin);
            int depth = head.length() - head.stripLeading().length();
            if ((depth == 4 || depth == 8) && HEAD.matcher(head).matches()
                && !head.matches(" +(if|for|while|switch) .*")) {
                int end = begin;
                while (!lines.get(end).equals(" ".repeat(depth) + "}")) {
                    end++;
                }
                methods++;
                Check.yes(head.strip() + " has " + (end - begin + 1) + " lines", end - begin < 60);
            }
        }
        Check.yes("the methods are found: " + methods, methods > 50);
    }

    /** Rules 1, 2, 5 and 11. */
    private static void classesAreFewAndSmall() {
        Class<?>[] inside = GrateLayers.class.getDeclaredClasses();
        Check.yes("some twelve classes: " + (inside.length + 1), inside.length + 1 <= 12);
        oneClass(GrateLayers.class);
        for (Class<?> one : inside) {
            Check.yes(one + " is static", Modifier.isStatic(one.getModifiers()));
            Check.yes(one + " has no class inside", one.getDeclaredClasses().length == 0);
            oneClass(one);
        }
    }

    private static void oneClass(Class<?> one) {
        int fields = 0;
        for (Field field : one.getDeclaredFields()) {
            if (Modifier.isStatic(field.getModifiers())) {
                Check.yes(field + " is a constant", Modifier.isFinal(field.getModifiers())
                    && field.getType() == int.class);
            } else {
                fields++;
            }
        }
        Check.yes(one + " has some twenty fields: " + fields, fields <= 20);
        for (Method method : one.getDeclaredMethods()) {
            Check.yes(method + " has seven parameters", method.getParameterCount() <= 7);
        }
    }
}
