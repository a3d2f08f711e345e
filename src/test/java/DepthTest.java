import java.nio.file.Files;
import java.nio.file.Path;
import java.util.ArrayList;
import java.util.LinkedHashMap;
import java.util.List;
import java.util.Map;
import java.util.regex.Matcher;
import java.util.regex.Pattern;

/**
 * How deep calls of the program go (LANGUAGE.md, rule 11), and that none comes back to itself (rule 8),
 * as its text shows it. To be started in the project's own folder.
 */
public final class DepthTest {
    private static final Pattern CLASS = Pattern.compile("^ {4}private static final class (\\w+) \\{$");
    private static final Pattern METHOD =
        Pattern.compile("^ {4}(?: {4})?(?:(?:public|private|static) )*[\\w\\[\\]]+ (\\w+)\\([^()]*\\) \\{$");
    private static final Pattern CALL = Pattern.compile("(?:(\\w+)(?:\\[\\w+\\])?\\.)?\\b(\\w+)\\(");
    /** Of what class a thing is by whose name a method is called; all others are the library's. */
    private static final Map<String, String> THINGS = Map.ofEntries(Map.entry("tape", "Tape"),
        Map.entry("text", "Tape"), Map.entry("tokens", "Tokens"), Map.entry("Tokens", "Tokens"),
        Map.entry("parser", "Parser"), Map.entry("r", "Routine"), Map.entry("read", "Routine"),
        Map.entry("routine", "Routine"), Map.entry("sums", "Sums"), Map.entry("facts", "Facts"),
        Map.entry("runner", "Runner"), Map.entry("writer", "Writer"));

    /** Each method, as Class.name, with those that it calls. */
    private static final Map<String, List<String>> calls = new LinkedHashMap<>();
    private static final List<String> open = new ArrayList<>();
    private static List<String> deepest = new ArrayList<>();

    public static void main(String[] args) throws Exception {
        String text = Files.readString(Path.of("src/main/java/LateAndEarly.java"));
        String code = text.replaceAll("(?s)/\\*.*?\\*/", "").replaceAll("//[^\n]*", "")
            .replaceAll("\"(\\\\.|[^\"\\\\\n])*\"", "\"\"").replaceAll("'(\\\\.|[^'\n])'", "' '");
        String[] lines = code.split("\n");
        readMethods(lines, false);
        readMethods(lines, true);
        Check.due("methods are found", calls.size() > 100 ? 1 : 0, 1);
        for (String method : calls.keySet()) {
            goInto(method);
        }
        Check.due("how deep " + deepest, deepest.size() <= 8 ? 1 : 0, 1);
        Check.due("the way of a text is found", deepest.size() > 5 ? 1 : 0, 1);
        Check.end("DepthTest");
    }

    /** Finds the methods; or, when all of them are known, what each one calls. */
    private static void readMethods(String[] lines, boolean known) {
        String inside = "LateAndEarly";
        String method = "";
        for (String line : lines) {
            Matcher c = CLASS.matcher(line);
            Matcher m = METHOD.matcher(line);
            if (c.find()) {
                inside = c.group(1);
            } else if (line.equals("    }") && !inside.equals("LateAndEarly")) {
                inside = "LateAndEarly";
            } else if (m.find()) {
                method = inside + "." + m.group(1);
                calls.putIfAbsent(method, new ArrayList<>());
            } else if (known) {
                readCalls(line, inside, method);
            }
        }
    }

    private static void readCalls(String line, String inside, String method) {
        Matcher m = CALL.matcher(line);
        while (m.find()) {
            String of = m.group(1) == null ? inside : THINGS.getOrDefault(m.group(1), "");
            String called = of + "." + m.group(2);
            if (m.group(1) == null && !calls.containsKey(called)) {
                called = "LateAndEarly." + m.group(2);
            }
            if (calls.containsKey(called)) {
                calls.get(method).add(called);
            } else {
                boolean library = line.contains("new " + m.group(2) + "(") || !isOurs(m.group(2))
                    || List.of("Math", "Arrays", "System").contains(String.valueOf(m.group(1)));
                Check.due("a call that this test knows: " + line.trim(), library ? 1 : 0, 1);
            }
        }
    }

    private static boolean isOurs(String name) {
        return calls.keySet().stream().anyMatch(k -> k.endsWith("." + name));
    }

    private static void goInto(String method) {
        if (open.contains(method)) {
            Check.due("comes back to itself: " + open + " " + method, 1, 0);
            return;
        }
        open.add(method);
        if (open.size() > deepest.size()) {
            deepest = new ArrayList<>(open);
        }
        for (String called : calls.get(method)) {
            goInto(called);
        }
        open.remove(open.size() - 1);
    }
}
