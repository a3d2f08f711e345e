import java.nio.file.Files;
import java.nio.file.Path;
import java.util.Arrays;
import java.util.HashSet;
import java.util.List;
import java.util.Set;
import java.util.regex.Matcher;
import java.util.regex.Pattern;

/**
 * The rules of ../shared/LANGUAGE.md that can be seen from the program's text and face alone.
 * To be started in the project's own folder.
 */
public final class LanguageTest {
    private static final List<String> FACE = List.of("feed", "cut", "tape", "parse", "wrong", "about",
        "node", "sum", "at", "placed", "life", "places", "name", "run", "ran", "told", "value", "row",
        "worked", "step", "home", "works", "write");

    public static void main(String[] args) throws Exception {
        String text = Files.readString(Path.of("src/main/java/LateAndEarly.java"));
        String code = text.replaceAll("(?s)/\\*.*?\\*/", "").replaceAll("//[^\n]*", "");
        forbiddenWords(code.replaceAll("\"(\\\\.|[^\"\\\\])*\"", "\"\"").replaceAll("'(\\\\.|[^'])'", "' '"));
        face();
        methods(code);
        Check.due("signs are 1 to 127", text.chars().allMatch(c -> c > 0 && c < 128) ? 1 : 0, 1);
        Check.end("LanguageTest");
    }

    private static void forbiddenWords(String code) {
        String[] words = {"throw", "throws", "try", "catch", "finally", "synchronized", "assert", "package",
            "protected", "volatile", "transient", "native", "Object", "equals", "hashCode", "System\\.out",
            "System\\.in", "System\\.exit", "System\\.nanoTime", "Thread", "Random", "instanceof", "var"};
        for (String word : words) {
            boolean found = Pattern.compile("\\b" + word + "\\b").matcher(code).find();
            Check.due("the word " + word, found ? 1 : 0, 0);
        }
        Check.due("lambdas and references", code.contains("->") || code.contains("::") ? 1 : 0, 0);
        Matcher imports = Pattern.compile("import ([^;]*);").matcher(code);
        while (imports.find()) {
            Check.due("import", imports.group(1), "java.util.Arrays");
        }
        Matcher statics = Pattern.compile("\\bstatic (?!final)(?!.*\\()[^;{]*;").matcher(code);
        Check.due("static fields that are not final", statics.find() ? 1 : 0, 0);
        Check.due("texts joined by +", Pattern.compile("\"\" *\\+|\\+ *\"\"").matcher(code).find() ? 1 : 0, 0);
    }

    private static void face() {
        Set<String> found = new HashSet<>();
        Arrays.stream(LateAndEarly.class.getDeclaredMethods())
            .filter(m -> !java.lang.reflect.Modifier.isPrivate(m.getModifiers()))
            .forEach(m -> found.add(m.getName()));
        Check.due("the face", found.equals(new HashSet<>(FACE)) ? 1 : 0, 1);
        for (Class<?> inner : LateAndEarly.class.getDeclaredClasses()) {
            Check.due("static: " + inner, java.lang.reflect.Modifier.isStatic(inner.getModifiers()) ? 1 : 0, 1);
            Check.due("fields of " + inner, inner.getDeclaredFields().length <= 20 ? 1 : 0, 1);
            for (java.lang.reflect.Method m : inner.getDeclaredMethods()) {
                Check.due("a name of the face: " + m, FACE.contains(m.getName()) ? 1 : 0, 0);
                Check.due("parameters of " + m, m.getParameterCount() <= 7 ? 1 : 0, 1);
            }
        }
        Check.due("classes", LateAndEarly.class.getDeclaredClasses().length <= 11 ? 1 : 0, 1);
    }

    private static void methods(String code) {
        String[] lines = code.split("\n");
        int start = -1;
        String close = "";
        for (int i = 0; i < lines.length; i++) {
            Matcher m = Pattern.compile("^( {4}| {8})[a-zA-Z].*\\) \\{$").matcher(lines[i]);
            if (m.find()) {
                start = i;
                close = m.group(1) + "}";
            } else if (start >= 0 && lines[i].equals(close)) {
                Check.due("lines of " + lines[start].trim(), i - start < 60 ? 1 : 0, 1);
                start = -1;
            }
        }
    }
}
