/** Promises 1 to 4: a new object and THE TAPE. */
public final class TapeTest {
    public static void main(String[] args) {
        newObject();
        feedTakesTheLowestBytes();
        feedRefuses();
        cutKeepsTheFirstBytes();
        tapeTellsBytes();
        Check.end("TapeTest");
    }

    private static void newObject() {
        LateAndEarly x = new LateAndEarly();
        Check.due("tape(0) of a new object", x.tape(0), -1);
        Check.due("cut(0) of a new object", x.cut(0), 0);
        for (int p = -1; p <= 4; p++) {
            Check.due("about of a new object", x.about(p, 0), -1);
        }
        for (int k = 0; k < 48; k++) {
            Check.due("name of a new object", x.name(k, 0), 0);
            Check.due("value of a new object", x.value(k), 0);
        }
        for (int what = 0; what < 5; what++) {
            Check.due("ran of a new object", x.ran(what), 0);
        }
        Check.due("wrong of a new object", x.wrong(), 0);
        Check.parse(x, 0, "b0:leave;");
        Check.due("home of a new ROUTINE", x.home(0), 0);
    }

    private static void feedTakesTheLowestBytes() {
        LateAndEarly x = new LateAndEarly();
        Check.due("feed 3", x.feed(0x4142434445464748L, 3), 3);
        Check.due("tape 0", x.tape(0), 0x46);
        Check.due("tape 2", x.tape(2), 0x48);
        Check.due("feed 8", x.feed(0x8142434445464700L, 8), 11);
        Check.due("tape 3", x.tape(3), 0x81);
        Check.due("tape 10", x.tape(10), 0);
        Check.due("feed 1 of -1", x.feed(-1L, 1), 12);
        Check.due("tape 11", x.tape(11), 255);
    }

    private static void feedRefuses() {
        LateAndEarly x = new LateAndEarly();
        Check.due("feed 0", x.feed(1, 0), -2);
        Check.due("feed 9", x.feed(1, 9), -2);
        Check.due("feed -1", x.feed(1, -1), -2);
        Check.due("feed least", x.feed(1, Integer.MIN_VALUE), -2);
        Check.due("feed greatest", x.feed(1, Integer.MAX_VALUE), -2);
        for (int i = 0; i < 374; i++) {
            x.feed(i, 8);
        }
        Check.due("feed up to 2999", x.feed(1, 7), 2999);
        Check.due("feed beyond 3000", x.feed(1, 2), -3);
        Check.due("the tape stays", x.tape(2999), -1);
        Check.due("feed up to 3000", x.feed(7, 1), 3000);
        Check.due("the last byte", x.tape(2999), 7);
        Check.due("feed when full", x.feed(7, 1), -3);
        Check.due("BAD ahead of FULL", x.feed(7, 9), -2);
        Check.due("cut of all", x.cut(3000), 3000);
        Check.due("cut of more", x.cut(3001), -2);
    }

    private static void cutKeepsTheFirstBytes() {
        LateAndEarly x = new LateAndEarly();
        Check.feed(x, "abcdef");
        Check.due("cut 7", x.cut(7), -2);
        Check.due("cut -1", x.cut(-1), -2);
        Check.due("cut 4", x.cut(4), 4);
        Check.due("text", Check.tape(x), "abcd");
        Check.due("cut 5", x.cut(5), -2);
        Check.due("cut 4 again", x.cut(4), 4);
        Check.feed(x, "xy");
        Check.due("text", Check.tape(x), "abcdxy");
        Check.due("cut 0", x.cut(0), 0);
        Check.due("text", Check.tape(x), "");
    }

    private static void tapeTellsBytes() {
        LateAndEarly x = new LateAndEarly();
        x.feed(0x80ff00L, 3);
        Check.due("tape 0", x.tape(0), 128);
        Check.due("tape 1", x.tape(1), 255);
        Check.due("tape 2", x.tape(2), 0);
        Check.due("tape 3", x.tape(3), -1);
        Check.due("tape -1", x.tape(-1), -1);
        Check.due("tape greatest", x.tape(Integer.MAX_VALUE), -1);
        Check.due("tape least", x.tape(Integer.MIN_VALUE), -1);
    }
}
