import java.util.ArrayList;
import java.util.List;

/**
 * Calls that can be made on a new object again and again, so that a test can look at all that an
 * object answers without more than the 512 calls that the document gives it.
 */
final class Script {
    interface Call {
        int on(LateAndEarly x);
    }

    interface Look {
        String on(LateAndEarly x);
    }

    private static final int MOST_CALLS = 512;
    private static final List<Call> ASKS = asks();
    private final List<Call> calls = new ArrayList<>();

    Script call(Call call) {
        calls.add(call);
        return this;
    }

    Script feed(String text) {
        for (int i = 0; i < text.length(); i += 8) {
            String part = text.substring(i, Math.min(text.length(), i + 8));
            calls.add(x -> {
                Check.feed(x, part);
                return 0;
            });
        }
        return this;
    }

    /** A text read at a place; THE TAPE is empty then. */
    Script parse(int p, String text) {
        return call(x -> x.cut(0)).feed(text).call(x -> x.parse(p));
    }

    /** These calls and then those of another one. */
    Script and(Script more) {
        Script both = new Script();
        both.calls.addAll(calls);
        both.calls.addAll(more.calls);
        return both;
    }

    LateAndEarly play() {
        LateAndEarly x = new LateAndEarly();
        for (Call call : calls) {
            call.on(x);
        }
        return x;
    }

    /** All that an object answers after these calls, but its TAPE. */
    String seen() {
        StringBuilder answers = new StringBuilder();
        int part = MOST_CALLS - calls.size() - 1;
        for (int i = 0; i < ASKS.size(); i += part) {
            LateAndEarly x = play();
            for (int k = i; k < Math.min(ASKS.size(), i + part); k++) {
                answers.append(ASKS.get(k).on(x)).append(' ');
            }
        }
        for (Look look : changingLooks()) {
            answers.append('\n').append(look.on(play()));
        }
        return answers.toString();
    }

    /** THE TAPE after these calls. */
    String tape() {
        StringBuilder text = new StringBuilder();
        int part = MOST_CALLS - calls.size() - 1;
        boolean more = true;
        for (int i = 0; more; i += part) {
            LateAndEarly x = play();
            for (int k = i; more && k < i + part; k++) {
                int b = x.tape(k);
                more = b >= 0;
                if (more) {
                    text.append((char) b);
                }
            }
        }
        return text.toString();
    }

    private static List<Call> asks() {
        List<Call> asks = new ArrayList<>();
        asks.add(x -> x.wrong());
        addOfRoutines(asks);
        addOfSums(asks);
        addOfTheRun(asks);
        return asks;
    }

    private static void addOfRoutines(List<Call> asks) {
        for (int i = 0; i < 4 * 5; i++) {
            int p = i / 5;
            int what = i % 5;
            asks.add(x -> x.about(p, what));
        }
        for (int i = 0; i < 4 * 16 * 6; i++) {
            int p = i / 96;
            int n = i / 6 % 16;
            int what = i % 6;
            asks.add(x -> x.node(p, n, what));
        }
    }

    private static void addOfSums(List<Call> asks) {
        for (int i = 0; i < 4 * 4 * 5; i++) {
            int p = i / 20;
            int e = i / 5 % 4;
            int what = i % 5;
            asks.add(x -> x.sum(p, e, what));
        }
        for (int i = 0; i < 4 * 16 * 8; i++) {
            int p = i / 128;
            int n = i / 8 % 16;
            int what = i % 8;
            asks.add(x -> x.at(p, 0, n, what));
        }
        for (int i = 0; i < 4 * 3 * 4; i++) {
            int p = i / 12;
            int placing = i / 4 % 3;
            int e = i % 4;
            asks.add(x -> x.life(p, placing, e));
            asks.add(x -> x.places(p, placing, e, 0));
            asks.add(x -> x.places(p, placing, e, 1));
            asks.add(x -> x.works(p, placing, e));
            asks.add(x -> x.placed(p, placing, e, 2, 0));
        }
    }

    private static void addOfTheRun(List<Call> asks) {
        for (int i = 0; i < 48; i++) {
            int k = i;
            asks.add(x -> x.value(k));
            asks.add(x -> x.told(k));
            asks.add(x -> x.worked(k % 32));
            asks.add(x -> x.row(k / 8 % 2, k % 8));
            asks.add(x -> x.ran(k % 5));
        }
    }

    /** What can be seen only by calls that change something. */
    private static List<Look> changingLooks() {
        List<Look> looks = new ArrayList<>();
        for (int i = 0; i < 4; i++) {
            int p = i;
            looks.add(x -> "home " + x.home(p));
            looks.add(x -> "steps " + x.step(p, 0) + " " + x.step(p, 1) + " " + x.step(p, 2));
            looks.add(x -> "write 0: " + x.write(p, 0));
            looks.add(x -> "write 2: " + x.write(p, 2));
            looks.add(x -> "run 1: " + x.run(p, 1) + " " + x.ran(4) + " " + x.told(0) + " " + x.value(5));
        }
        looks.add(x -> {
            StringBuilder names = new StringBuilder("names");
            for (int k = 0; k < 48; k++) {
                names.append(' ').append(x.name(k, 0));
            }
            return names.toString();
        });
        return looks;
    }
}
