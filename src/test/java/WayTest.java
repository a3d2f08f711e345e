/** Promises 21 to 23: THE WAY of a ROUTINE, and how often SUMS are WORKED on it. */
public final class WayTest {
    private static final String LOOP = "b0: v4 = v1 + v2; go b1;"
        + "b1: v3 = v1 + v2; v1 = v5; if v0 < 1 b1 b2; b2: v6 = v1 + v2; leave;";

    public static void main(String[] args) {
        steps();
        full();
        eachItsOwn();
        works();
        lastBlockWhole();
        bothWays();
        refusals();
        Check.end("WayTest");
    }

    private static void steps() {
        LateAndEarly x = Check.with("b0: if 1 < 2 b1 b2; b1: go b3; b2: go b3; b3: leave;");
        Check.due("home", x.home(0), 0);
        Check.due("first not b0", x.step(0, 1), -2);
        Check.due("no block 4", x.step(0, 4), -1);
        Check.due("no block -1", x.step(0, -1), -1);
        Check.due("no block 40", x.step(0, 40), -1);
        Check.due("b0", x.step(0, 0), 1);
        Check.due("b0 again", x.step(0, 0), -2);
        Check.due("b3 at once", x.step(0, 3), -2);
        Check.due("b2", x.step(0, 2), 2);
        Check.due("b1 behind b2", x.step(0, 1), -2);
        Check.due("b3", x.step(0, 3), 3);
        for (int b = 0; b < 4; b++) {
            Check.due("behind a leave", x.step(0, b), -2);
        }
        Check.due("home", x.home(0), 3);
        Check.due("home again", x.home(0), 0);
        Check.due("b0", x.step(0, 0), 1);
        Check.due("b1", x.step(0, 1), 2);
    }

    private static void full() {
        LateAndEarly x = Check.with(LOOP);
        x.step(0, 0);
        for (int i = 2; i <= 60; i++) {
            Check.due("step", x.step(0, 1), i);
        }
        Check.due("the 61st", x.step(0, 1), -3);
        Check.due("BAD ahead of FULL", x.step(0, 0), -2);
        Check.due("NONE ahead of FULL", x.step(0, 3), -1);
        Check.due("plain", x.works(0, 0, 0), 60);
        Check.due("home", x.home(0), 60);
    }

    private static void eachItsOwn() {
        LateAndEarly x = Check.with(LOOP);
        Check.parse(x, 1, "b0: leave;");
        x.step(0, 0);
        x.step(0, 1);
        Check.due("place 1", x.step(1, 0), 1);
        Check.due("home 1", x.home(1), 1);
        Check.due("home 0", x.home(0), 2);
        x.step(0, 0);
        Check.parse(x, 0, LOOP);
        Check.due("a new ROUTINE", x.home(0), 0);
    }

    private static void works() {
        LateAndEarly x = Check.with(LOOP);
        for (int placing = 0; placing < 3; placing++) {
            Check.due("on no WAY", x.works(0, placing, 0), 0);
        }
        // v1 changes in each round: EARLY behind that, LATE ahead of where it is worked.
        int[] blocks = {0, 1, 1, 1, 2};
        int[][] want = {{1, 2, 3, 4, 5}, {1, 2, 3, 4, 4}, {1, 1, 2, 3, 4}};
        for (int i = 0; i < blocks.length; i++) {
            x.step(0, blocks[i]);
            for (int placing = 0; placing < 3; placing++) {
                Check.due("on " + (i + 1) + " blocks with " + placing, x.works(0, placing, 0),
                    want[placing][i]);
            }
        }
        Check.due("a RUN does as much", x.run(0, 2), 2);
    }

    private static void lastBlockWhole() {
        LateAndEarly x = Check.with("b0: if v0 < 1 b1 b2; b1: v1 = 8 / v2; go b2;"
            + "b2: v3 = 8 / v2; leave;");
        int[][] want = {{0, 1, 2}, {1, 1, 1}, {0, 1, 1}};
        for (int b = 0; b < 3; b++) {
            x.step(0, b);
            for (int placing = 0; placing < 3; placing++) {
                Check.due("works", x.works(0, placing, 0), want[placing][b]);
            }
        }
        x.home(0);
        x.step(0, 0);
        x.step(0, 2);
        Check.due("plain", x.works(0, 0, 0), 1);
        Check.due("early", x.works(0, 1, 0), 1);
        Check.due("late, on the way", x.works(0, 2, 0), 1);
    }

    private static void bothWays() {
        LateAndEarly x = Check.with("b0: v9 = v1 + v2; tell v9; v1 = 3; if v0 < 1 b1 b1;"
            + "b1: v3 = v1 + v2; leave;");
        x.step(0, 0);
        x.step(0, 1);
        Check.due("plain", x.works(0, 0, 0), 2);
        Check.due("early", x.works(0, 1, 0), 2);
        Check.due("late", x.works(0, 2, 0), 2);
    }

    private static void refusals() {
        LateAndEarly x = Check.with(LOOP);
        for (int p : new int[] {-1, 1, 4}) {
            Check.due("step", x.step(p, 0), -1);
            Check.due("home", x.home(p), -1);
            Check.due("works", x.works(p, 0, 0), -1);
        }
        Check.due("works 3", x.works(0, 3, 0), -1);
        Check.due("works -1", x.works(0, -1, 0), -1);
        Check.due("works of no SUM", x.works(0, 0, 1), -1);
        Check.due("works of SUM -1", x.works(0, 0, -1), -1);
    }
}
