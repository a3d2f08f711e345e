import java.nio.charset.StandardCharsets;

/** What the tests share: answers that are due, and texts put on THE TAPE and read from it. */
final class Check {
    private static int wrong = 0;
    private static int right = 0;

    private Check() {
    }

    static void due(String call, long got, long want) {
        if (got == want) {
            right++;
        } else {
            wrong++;
            System.out.println(call + " answered " + got + ", due is " + want);
        }
    }

    static void due(String call, String got, String want) {
        if (got.equals(want)) {
            right++;
        } else {
            wrong++;
            System.out.println(call + " gave\n" + got + "\ndue is\n" + want);
        }
    }

    /** The last call of a test: tells how it went, and ends with exit code 1 if it went wrong. */
    static void end(String test) {
        System.out.println(test + ": " + right + " answers as due, " + wrong + " not");
        if (wrong != 0) {
            System.exit(1);
        }
    }

    /** Puts a text behind THE TAPE, eight bytes a call; how many calls that took. */
    static int feed(LateAndEarly x, String text) {
        byte[] bytes = text.getBytes(StandardCharsets.ISO_8859_1);
        int calls = 0;
        for (int i = 0; i < bytes.length; i += 8) {
            int n = Math.min(8, bytes.length - i);
            long w = 0;
            for (int k = 0; k < n; k++) {
                w = w << 8 | (bytes[i + k] & 255);
            }
            x.feed(w, n);
            calls++;
        }
        return calls;
    }

    static int parse(LateAndEarly x, int p, String text) {
        x.cut(0);
        feed(x, text);
        return x.parse(p);
    }

    /** A new object with a ROUTINE at place 0. */
    static LateAndEarly with(String text) {
        LateAndEarly x = new LateAndEarly();
        int answer = parse(x, 0, text);
        if (answer < 0) {
            due("parse of " + text, answer, 0);
        }
        return x;
    }

    static String tape(LateAndEarly x) {
        StringBuilder text = new StringBuilder();
        for (int i = 0; x.tape(i) >= 0; i++) {
            text.append((char) x.tape(i));
        }
        return text.toString();
    }

    /** What at() answers of a SUM at each NODE, a digit a NODE. */
    static String at(LateAndEarly x, int e, int what) {
        StringBuilder digits = new StringBuilder();
        for (int n = 0; n < x.about(0, 1); n++) {
            digits.append(x.at(0, e, n, what));
        }
        return digits.toString();
    }

    static String placed(LateAndEarly x, int placing, int e, int what) {
        StringBuilder digits = new StringBuilder();
        for (int n = 0; n < x.about(0, 1); n++) {
            digits.append(x.placed(0, placing, e, n, what));
        }
        return digits.toString();
    }
}
