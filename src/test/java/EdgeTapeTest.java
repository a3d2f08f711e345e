/** The edges that promises 1 to 4 and the refusals of THE TAPE name, a sentence a method. */
public final class EdgeTapeTest {
    private static final int[] FAR = {Integer.MIN_VALUE, Integer.MIN_VALUE + 1, -3000, -256, 256, 257,
        264, 3001, 65536, 65537, Integer.MAX_VALUE - 1, Integer.MAX_VALUE};

    public static void main(String[] args) {
        constants();
        newTapeIsEmpty();
        newHasNoRoutines();
        newNamesAreZero();
        newHasRunNothing();
        newWayIsEmpty();
        objectsShareNothing();
        theLowestBytesHighestFirst();
        behindTheTapes();
        oneToEight();
        atMostThreeThousand();
        fullLeavesTheTape();
        badAheadOfFull();
        cutTakesWhatItHas();
        cutOffBytesAreGone();
        cutOfAFullTape();
        everyByte();
        tapeHasNoPlaceBehindItsEnd();
        lastOf512Calls();
        Check.end("EdgeTapeTest");
    }

    private static LateAndEarly withBytes(int count) {
        LateAndEarly x = new LateAndEarly();
        Check.feed(x, "x".repeat(count));
        return x;
    }

    /** The public face: NONE = -1, BAD = -2, FULL = -3, STATE = -4. */
    private static void constants() {
        Check.due("NONE", LateAndEarly.NONE, -1);
        Check.due("BAD", LateAndEarly.BAD, -2);
        Check.due("FULL", LateAndEarly.FULL, -3);
        Check.due("STATE", LateAndEarly.STATE, -4);
    }

    /** 1: An empty TAPE. */
    private static void newTapeIsEmpty() {
        Check.due("tape 0 of a new one", new LateAndEarly().tape(0), -1);
        Check.due("cut 0 of a new one", new LateAndEarly().cut(0), 0);
        Check.due("cut 1 of a new one", new LateAndEarly().cut(1), -2);
        Check.due("feed of a new one", new LateAndEarly().feed(65, 1), 1);
    }

    /** 1: no ROUTINES. */
    private static void newHasNoRoutines() {
        for (int p = 0; p < 4; p++) {
            LateAndEarly x = new LateAndEarly();
            String at = " of a new one at place " + p;
            Check.due("about" + at, x.about(p, 0), -1);
            Check.due("node" + at, x.node(p, 0, 0), -1);
            Check.due("sum" + at, x.sum(p, 0, 0), -1);
            Check.due("at" + at, x.at(p, 0, 0, 0), -1);
            Check.due("placed" + at, x.placed(p, 0, 0, 0, 0), -1);
            Check.due("life" + at, x.life(p, 0, 0), -1);
            Check.due("places" + at, x.places(p, 0, 0, 0), -1);
            Check.due("run" + at, x.run(p, 0), -1);
            Check.due("step" + at, x.step(p, 0), -1);
            Check.due("home" + at, x.home(p), -1);
            Check.due("works" + at, x.works(p, 0, 0), -1);
            Check.due("write" + at, x.write(p, 0), -1);
        }
    }

    /** 1: all NAMES 0. */
    private static void newNamesAreZero() {
        LateAndEarly x = new LateAndEarly();
        for (int k = 0; k < 48; k++) {
            Check.due("name " + k + " of a new one", x.name(k, 0), 0);
        }
        LateAndEarly y = Check.with("b0: leave;");
        Check.due("run", y.run(0, 0), 0);
        for (int k = 0; k < 48; k++) {
            Check.due("value " + k + " of the first RUN", y.value(k), 0);
        }
    }

    /** 6: 0: there was no text. 16: All 0 at first. 17 to 20: nothing was RUN. */
    private static void newHasRunNothing() {
        LateAndEarly x = new LateAndEarly();
        Check.due("wrong of a new one", x.wrong(), 0);
        for (int what = 0; what < 5; what++) {
            Check.due("ran " + what + " of a new one", x.ran(what), 0);
        }
        for (int i = 0; i < 100; i++) {
            Check.due("told " + i + " of a new one", x.told(i), 0);
        }
        for (int i = 0; i < 48; i++) {
            Check.due("value " + i + " of a new one", x.value(i), 0);
            Check.due("row of a new one", x.row(i / 8 % 2, i % 8), 0);
            Check.due("worked of a new one", x.worked(i % 32), 0);
        }
    }

    /** 1: an empty WAY. */
    private static void newWayIsEmpty() {
        for (int p = 0; p < 4; p++) {
            LateAndEarly x = new LateAndEarly();
            Check.parse(x, p, "b0: leave;");
            Check.due("home of the first ROUTINE", x.home(p), 0);
        }
    }

    /** 1: that of a new object, whatever other objects did. */
    private static void objectsShareNothing() {
        LateAndEarly x = Check.with("b0: v1 = 2 + 3; tell v1; r0[1] = 4; leave;");
        x.name(2, 9);
        x.run(0, 0);
        x.step(0, 0);
        x.feed(65, 1);
        LateAndEarly y = new LateAndEarly();
        Check.due("its tape", y.tape(0), -1);
        Check.due("its ROUTINE", y.about(0, 0), -1);
        Check.due("its NAME", y.name(2, 0), 0);
        Check.due("its value", y.value(1), 0);
        Check.due("its row", y.row(0, 1), 0);
        Check.due("its told", y.told(0), 0);
        Check.due("its worked", y.worked(0), 0);
        y.name(2, 7);
        Check.parse(y, 0, "b0: go b1; b1: leave;");
        Check.due("the other's ROUTINE", x.about(0, 0), 1);
        Check.due("the other's NAME", x.name(2, 0), 9);
        Check.due("the other's tape", x.tape(0), 65);
        Check.due("the other's WAY", x.home(0), 1);
    }

    /** 2: The n lowest bytes of w, the highest first. */
    private static void theLowestBytesHighestFirst() {
        long w = 0x8091A2B3C4D5E6F7L;
        for (int n = 1; n <= 8; n++) {
            LateAndEarly x = new LateAndEarly();
            Check.due("feed " + n, x.feed(w, n), n);
            for (int i = 0; i < n; i++) {
                Check.due("byte " + i + " of " + n, x.tape(i), w >>> 8 * (n - 1 - i) & 255);
            }
            Check.due("behind " + n, x.tape(n), -1);
        }
        LateAndEarly x = new LateAndEarly();
        x.feed(Long.MIN_VALUE, 8);
        x.feed(Long.MAX_VALUE, 8);
        x.feed(-1L, 8);
        Check.due("of the least", x.tape(0), 128);
        Check.due("of the least", x.tape(7), 0);
        Check.due("of the greatest", x.tape(8), 127);
        Check.due("of the greatest", x.tape(15), 255);
        Check.due("of -1", x.tape(16), 255);
    }

    /** 2: come behind THE TAPE's: how many it has. */
    private static void behindTheTapes() {
        LateAndEarly x = new LateAndEarly();
        int all = 0;
        for (int n = 1; n <= 8; n++) {
            all += n;
            Check.due("how many with " + n, x.feed(n, n), all);
            Check.due("the last one of " + n, x.tape(all - 1), n);
        }
        Check.due("the first one stays", x.tape(0), 1);
        Check.due("the second one", x.tape(1), 0);
    }

    /** 2: BAD: n is not 1 .. 8. */
    private static void oneToEight() {
        LateAndEarly x = withBytes(2);
        Check.due("feed 0", x.feed(65, 0), -2);
        Check.due("feed -1", x.feed(65, -1), -2);
        Check.due("feed 9", x.feed(65, 9), -2);
        for (int n : FAR) {
            Check.due("feed " + n, x.feed(65, n), -2);
        }
        Check.due("the tape stays", Check.tape(x), "xx");
        Check.due("feed 1", x.feed(65, 1), 3);
        Check.due("feed 8", x.feed(65, 8), 11);
    }

    /** THE TAPE has at most 3000 bytes. 2: FULL. */
    private static void atMostThreeThousand() {
        for (int n = 1; n <= 8; n++) {
            LateAndEarly x = withBytes(3000 - n);
            Check.due("feed " + n + " up to 3000", x.feed(0x4142434445464748L, n), 3000);
            Check.due("the last byte", x.tape(2999), 'H');
            Check.due("no byte behind it", x.tape(3000), -1);
            LateAndEarly y = withBytes(3001 - n);
            Check.due("feed " + n + " up to 3001", y.feed(0x4142434445464748L, n), -3);
            Check.due("no byte of it", y.tape(3001 - n), -1);
            Check.due("the last byte stays", y.tape(3000 - n), 'x');
        }
    }

    /** REFUSALS change nothing: what fits is still taken behind a FULL. */
    private static void fullLeavesTheTape() {
        LateAndEarly x = withBytes(2997);
        Check.due("feed 8", x.feed(65, 8), -3);
        Check.due("feed 4", x.feed(65, 4), -3);
        Check.due("feed 3", x.feed(0x505152, 3), 3000);
        Check.due("its first byte", x.tape(2997), 0x50);
        Check.due("feed 1", x.feed(65, 1), -3);
        Check.due("its last byte", x.tape(2999), 0x52);
        Check.due("cut 2999", x.cut(2999), 2999);
        Check.due("feed 2", x.feed(65, 2), -3);
        Check.due("feed 1", x.feed(66, 1), 3000);
        Check.due("the new byte", x.tape(2999), 66);
    }

    /** REFUSALS, of several the first one that the act tells. */
    private static void badAheadOfFull() {
        LateAndEarly x = withBytes(3000);
        Check.due("feed 0", x.feed(1, 0), -2);
        Check.due("feed 9", x.feed(1, 9), -2);
        Check.due("feed -1", x.feed(1, -1), -2);
        Check.due("feed greatest", x.feed(1, Integer.MAX_VALUE), -2);
        Check.due("feed 1", x.feed(1, 1), -3);
        Check.due("feed 8", x.feed(1, 8), -3);
    }

    /** 3: THE TAPE keeps its first n bytes: n. BAD: it has not so many, n below 0. */
    private static void cutTakesWhatItHas() {
        LateAndEarly x = new LateAndEarly();
        Check.feed(x, "abcde");
        Check.due("cut 6", x.cut(6), -2);
        Check.due("cut -1", x.cut(-1), -2);
        for (int n : FAR) {
            Check.due("cut " + n, x.cut(n), -2);
        }
        Check.due("the tape stays", Check.tape(x), "abcde");
        Check.due("cut 5", x.cut(5), 5);
        Check.due("all stays", Check.tape(x), "abcde");
        Check.due("cut 4", x.cut(4), 4);
        Check.due("one less", Check.tape(x), "abcd");
        Check.due("cut 5", x.cut(5), -2);
        Check.due("cut 1", x.cut(1), 1);
        Check.due("the first one", Check.tape(x), "a");
        Check.due("cut 0", x.cut(0), 0);
        Check.due("none", Check.tape(x), "");
        Check.due("cut 1 of none", x.cut(1), -2);
        Check.due("cut 0 of none", x.cut(0), 0);
        Check.due("cut -1 of none", x.cut(-1), -2);
    }

    /** 3: keeps its first n bytes: the others are not there any more. */
    private static void cutOffBytesAreGone() {
        LateAndEarly x = new LateAndEarly();
        Check.feed(x, "abcdef");
        x.cut(2);
        Check.due("tape 2", x.tape(2), -1);
        Check.due("feed behind it", x.feed('X', 1), 3);
        Check.due("text", Check.tape(x), "abX");
        Check.due("tape 3", x.tape(3), -1);
        Check.due("cut 4", x.cut(4), -2);
    }

    /** 3: BAD: it has not so many: 3000 and 3001 of a full one. */
    private static void cutOfAFullTape() {
        LateAndEarly x = withBytes(3000);
        Check.due("cut 3001", x.cut(3001), -2);
        Check.due("cut 3000", x.cut(3000), 3000);
        Check.due("tape 2999", x.tape(2999), 'x');
        Check.due("cut 0", x.cut(0), 0);
        Check.due("tape 0", x.tape(0), -1);
        Check.due("feed", x.feed(1, 8), 8);
    }

    /** 4: Byte i of THE TAPE, 0 .. 255. */
    private static void everyByte() {
        LateAndEarly x = new LateAndEarly();
        for (int b = 0; b < 256; b++) {
            x.feed(b, 1);
        }
        for (int b = 0; b < 255; b++) {
            Check.due("byte " + b, x.tape(b), b);
        }
        Check.due("byte 255", x.tape(255), 255);
    }

    /** 4: NONE: there is no such place. */
    private static void tapeHasNoPlaceBehindItsEnd() {
        LateAndEarly x = withBytes(7);
        Check.due("tape 6", x.tape(6), 'x');
        Check.due("tape 7", x.tape(7), -1);
        Check.due("tape -1", x.tape(-1), -1);
        for (int i : FAR) {
            Check.due("tape " + i, x.tape(i), -1);
        }
        LateAndEarly y = withBytes(3000);
        Check.due("tape 2999", y.tape(2999), 'x');
        Check.due("tape 3000", y.tape(3000), -1);
        Check.due("tape 3001", y.tape(3001), -1);
    }

    /** An object is used for at most 512 calls. */
    private static void lastOf512Calls() {
        LateAndEarly x = withBytes(3000);
        for (int i = 375; i < 511; i++) {
            Check.due("call " + i, x.tape(i), 'x');
        }
        Check.due("call 512", x.tape(2999), 'x');
    }
}
