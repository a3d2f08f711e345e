import java.nio.file.Files;
import java.nio.file.Path;
import java.util.ArrayList;
import java.util.List;
import java.util.regex.Matcher;
import java.util.regex.Pattern;
import java.util.stream.Stream;

/** README.md shows what is so. To be started in the project's own folder. */
public final class ReadmeTest {
    public static void main(String[] args) throws Exception {
        String page = Files.readString(Path.of("README.md"));
        firstSteps();
        placedTexts(blocks(page, "text"));
        everyCallIsThere(page);
        everyTestIsThere(page);
        Check.end("ReadmeTest");
    }

    private static List<String> blocks(String page, String kind) {
        List<String> found = new ArrayList<>();
        Matcher m = Pattern.compile("```" + kind + "\n(.*?)```", Pattern.DOTALL).matcher(page);
        while (m.find()) {
            found.add(m.group(1));
        }
        return found;
    }

    private static void firstSteps() {
        LateAndEarly x = new LateAndEarly();
        Check.due("feed", x.feed(0x62303a6c65617665L, 8), 8);
        Check.due("feed", x.feed(0x3b, 1), 9);
        Check.due("parse", x.parse(0), 1);
        Check.due("run", x.run(0, 2), 0);
        Check.due("write", x.write(0, 2), 13);
        Check.due("tape", Check.tape(x), "b0:\n  leave;\n");
    }

    private static void placedTexts(List<String> texts) {
        Check.due("texts", texts.size(), 3);
        LateAndEarly x = Check.with(texts.get(0));
        for (int placing = 0; placing < 3; placing++) {
            Check.due("write", x.write(0, placing), texts.get(placing).length());
            Check.due("tape", Check.tape(x), texts.get(placing));
        }
        int[] oftenByB1 = {2, 1, 1};
        x.step(0, 0);
        x.step(0, 1);
        x.step(0, 3);
        for (int placing = 0; placing < 3; placing++) {
            Check.due("works", x.works(0, placing, 0), oftenByB1[placing]);
        }
        Check.due("places of v1 + 1, LATE", x.places(0, 2, 1, 0), 0);
    }

    private static void everyCallIsThere(String page) {
        for (java.lang.reflect.Method m : LateAndEarly.class.getDeclaredMethods()) {
            if (java.lang.reflect.Modifier.isPublic(m.getModifiers())) {
                Check.due("the call " + m.getName(), page.contains("`" + m.getName() + "`") ? 1 : 0, 1);
            }
        }
    }

    private static void everyTestIsThere(String page) throws Exception {
        try (Stream<Path> files = Files.list(Path.of("src/test/java"))) {
            for (Path file : files.toList()) {
                String name = file.getFileName().toString().replace(".java", "");
                Check.due("the file " + name, page.contains("`" + name + "`") ? 1 : 0, 1);
            }
        }
    }
}
