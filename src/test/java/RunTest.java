/** Promises 14 to 20: runs and what is told of the latest one. */
public final class RunTest {
    private static final String BOLD = "b0: if v0 < 1 b1 b2;"
        + "b1: v1 = 8 / v2; go b2;"
        + "b2: v3 = 8 / v2; leave;";

    public static void main(String[] args) {
        names();
        sums();
        rows();
        refusedStores();
        refusedAtSums();
        refusedAheadOfNodes();
        ends();
        spent();
        spentWithMostNodes();
        spentOnTheWay();
        told();
        taken();
        latestRunStays();
        refusals();
        Check.end("RunTest");
    }

    private static void ran(LateAndEarly x, long... want) {
        for (int what = 0; what < want.length; what++) {
            Check.due("ran " + what, x.ran(what), want[what]);
        }
    }

    private static void names() {
        LateAndEarly x = Check.with("b0: v0 = v15; t31 = t0; t0 = 4; leave;");
        Check.due("name 15", x.name(15, 7), 0);
        Check.due("name 15 again", x.name(15, -8), 7);
        Check.due("name 16", x.name(16, 9), 0);
        Check.due("name 47", x.name(47, 5), 0);
        Check.due("name 48", x.name(48, 5), 0);
        Check.due("name -1", x.name(-1, 5), 0);
        Check.due("value ahead of a RUN", x.value(15), 0);
        Check.due("run", x.run(0, 0), 0);
        Check.due("v0", x.value(0), -8);
        Check.due("v15", x.value(15), -8);
        Check.due("t31", x.value(47), 9);
        Check.due("t0", x.value(16), 4);
        Check.due("value 48", x.value(48), 0);
        Check.due("value -1", x.value(-1), 0);
        Check.due("names begin as told", x.name(16, 1), 9);
        Check.due("value is of the RUN", x.value(16), 4);
        Check.due("run again", x.run(0, 0), 0);
        Check.due("t31 again", x.value(47), 1);
    }

    private static int work(String sum, int a, int b) {
        LateAndEarly x = Check.with("b0: v2 = " + sum + "; leave;");
        x.name(0, a);
        x.name(1, b);
        Check.due("run of " + sum, x.run(0, 0), 0);
        return x.value(2);
    }

    private static void sums() {
        int least = Integer.MIN_VALUE;
        Check.due("+", work("v0 + v1", 7, -9), -2);
        Check.due("+ wraps", work("v0 + v1", Integer.MAX_VALUE, 1), least);
        Check.due("-", work("v0 - v1", 7, -9), 16);
        Check.due("- wraps", work("v0 - v1", least, 1), Integer.MAX_VALUE);
        Check.due("*", work("v0 * v1", 7, -9), -63);
        Check.due("* wraps", work("v0 * v1", 65536, 65537), 65536);
        Check.due("&", work("v0 & v1", 12, -6), 8);
        Check.due("^", work("v0 ^ v1", 12, -6), -10);
        Check.due("/", work("v0 / v1", 7, 2), 3);
        Check.due("/ of a negative", work("v0 / v1", -7, 2), -3);
        Check.due("/ by a negative", work("v0 / v1", 7, -2), -3);
        Check.due("/ of both", work("v0 / v1", -7, -2), 3);
        Check.due("/ of the least", work("v0 / v1", least, -1), least);
        Check.due("numbers", work("-5 - -3", 0, 0), -2);
        Check.due("greatest numbers", work("999999999 + -999999999", 0, 0), 0);
    }

    private static void rows() {
        LateAndEarly x = Check.with("b0: r0[0] = 5; r0[7] = v0; r1[v1] = -6; v2 = r0[7];"
            + "v3 = r1[v1]; v4 = r1[7]; leave;");
        x.name(0, 11);
        x.name(1, 3);
        Check.due("row ahead of a RUN", x.row(0, 0), 0);
        Check.due("run", x.run(0, 0), 0);
        Check.due("r0 0", x.row(0, 0), 5);
        Check.due("r0 7", x.row(0, 7), 11);
        Check.due("r1 3", x.row(1, 3), -6);
        Check.due("r1 7", x.row(1, 7), 0);
        Check.due("v2", x.value(2), 11);
        Check.due("v3", x.value(3), -6);
        Check.due("v4", x.value(4), 0);
        Check.due("row 2", x.row(2, 0), 0);
        Check.due("row -1", x.row(-1, 0), 0);
        Check.due("row 0 8", x.row(0, 8), 0);
        Check.due("row 0 -1", x.row(0, -1), 0);
        x.name(1, 4);
        x.run(0, 0);
        Check.due("rows begin with 0", x.row(1, 3), 0);
        Check.parse(x, 0, "b0: leave;");
        x.run(0, 0);
        Check.due("r0 begins with 0", x.row(0, 0), 0);
        Check.due("r0 begins with 0 up to 7", x.row(0, 7), 0);
        Check.due("r1 begins with 0", x.row(1, 4), 0);
    }

    private static void refusedStores() {
        for (int place : new int[] {-1, 8, Integer.MIN_VALUE, Integer.MAX_VALUE}) {
            LateAndEarly x = Check.with("b0: go b1; b1: v1 = 3; r0[v0] = 1; v1 = 4; leave;");
            x.name(0, place);
            Check.due("store at " + place, x.run(0, 0), 1);
            ran(x, 1, 3, 0, 1, 0);
            Check.due("v1", x.value(1), 3);
            LateAndEarly y = Check.with("b0: v1 = 3; v1 = r1[v0]; v1 = 4; leave;");
            y.name(0, place);
            Check.due("read at " + place, y.run(0, 0), 1);
            ran(y, 1, 2, 0, 0, 1);
            Check.due("v1", y.value(1), 3);
        }
    }

    private static void refusedAtSums() {
        LateAndEarly x = Check.with("b0: tell 6; v1 = 2 + 2; v2 = v1 / v0; tell 7; leave;");
        for (int placing = 0; placing < 3; placing++) {
            Check.due("run " + placing, x.run(0, placing), 1);
            ran(x, 1, 3, 1, 0, 2);
            Check.due("told 0", x.told(0), 6);
            Check.due("told 1", x.told(1), 0);
            Check.due("worked 0", x.worked(0), 1);
            Check.due("worked 1", x.worked(1), 1);
            Check.due("v2", x.value(2), 0);
        }
        x.name(0, 2);
        Check.due("run", x.run(0, 0), 0);
        ran(x, 0, 5, 2, -1, 2);
        Check.due("ran 5", x.ran(5), -1);
        Check.due("ran -1", x.ran(-1), -1);
    }

    private static void refusedAheadOfNodes() {
        LateAndEarly x = Check.with(BOLD);
        x.name(0, 1);
        Check.due("plain", x.run(0, 0), 1);
        ran(x, 1, 2, 0, 2, 1);
        Check.due("early", x.run(0, 1), 1);
        ran(x, 1, 1, 0, 0, 1);
        Check.due("late, on the way", x.run(0, 2), 1);
        ran(x, 1, 1, 0, 2, 1);
        x.name(0, 0);
        Check.due("late, in the block", x.run(0, 2), 1);
        ran(x, 1, 2, 0, 1, 1);
        x.name(2, 3);
        int[] want = {2, 1, 1};
        for (int placing = 0; placing < 3; placing++) {
            Check.due("run " + placing, x.run(0, placing), 0);
            ran(x, 0, 5, 0, -1, want[placing]);
            Check.due("worked", x.worked(0), want[placing]);
            Check.due("v3", x.value(3), 2);
        }
    }

    private static void ends() {
        LateAndEarly x = Check.with("b0: if v0 < v1 b1 b2; b1: tell 1; leave; b2: tell 2; leave;");
        int[][] runs = {{0, 1, 1}, {1, 1, 2}, {2, 1, 2}, {-1, 0, 1},
            {Integer.MIN_VALUE, Integer.MAX_VALUE, 1}, {Integer.MAX_VALUE, Integer.MIN_VALUE, 2}};
        for (int[] r : runs) {
            x.name(0, r[0]);
            x.name(1, r[1]);
            Check.due("run", x.run(0, 0), 0);
            Check.due("which way", x.told(0), r[2]);
            ran(x, 0, 3, 1, -1, 0);
        }
    }

    private static void spent() {
        LateAndEarly x = Check.with("b0: go b1; b1: v1 = v2 + v3; if v0 < 1 b1 b2; b2: leave;");
        int[] want = {500, 1, 1};
        for (int placing = 0; placing < 3; placing++) {
            Check.due("run " + placing, x.run(0, placing), 2);
            ran(x, 2, 1000, 0, -1, want[placing]);
            Check.due("worked", x.worked(0), want[placing]);
        }
        for (int k = 0; k < 2; k++) {
            // A thousand NODES with the leave, and one more.
            LateAndEarly y = Check.with("b0: v1 = 0; " + "v2 = 0;".repeat(k) + "go b1;"
                + "b1: v1 = v1 + 1; if v1 < v0 b1 b2; b2: v3 = 1; leave;");
            y.name(0, 498);
            Check.due("run of " + (1000 + k), y.run(0, 0), 2 * k);
            ran(y, 2 * k, 1000, 0, -1, 498);
            Check.due("v1", y.value(1), 498);
            Check.due("v3", y.value(3), 1);
        }
    }

    private static void spentWithMostNodes() {
        // Each NODE is an if, and one ON THE WAY is behind each.
        LateAndEarly x = Check.with("b0: if v0 < 1 b1 b2; b1: if v0 < 1 b1 b2; b2: leave;");
        Check.due("NODES ON THE WAY", x.about(0, 3), 4);
        Check.due("run", x.run(0, 0), 2);
        ran(x, 2, 1000, 0, -1, 0);
        x.name(0, 1);
        Check.due("run", x.run(0, 0), 0);
        ran(x, 0, 2, 0, -1, 0);
    }

    private static void spentOnTheWay() {
        // In each round v1 changes: its sum is set ahead of the NODE ON THE WAY that leads back.
        LateAndEarly x = Check.with("b0: v2 = v1 + 1; go b1;"
            + "b1: v3 = v1 + 1; v1 = v4; if v0 < 1 b1 b2; b2: leave;");
        Check.due("NODE ON THE WAY", x.node(0, 6, 0), 7);
        Check.due("SET there", x.placed(0, 2, 0, 6, 0), 1);
        Check.due("run", x.run(0, 2), 2);
        // 2 NODES of b0, 332 rounds of 3 and 2 more: the last one is v1 = v4.
        ran(x, 2, 1000, 0, -1, 333);
        LateAndEarly y = Check.with("b0: v2 = v1 + 1; v3 = 1; go b1;"
            + "b1: v3 = v1 + 1; v1 = v4; if v0 < 1 b1 b2; b2: leave;");
        Check.due("SET there", y.placed(0, 2, 0, 7, 0), 1);
        Check.due("run", y.run(0, 2), 2);
        ran(y, 2, 1000, 0, -1, 333);
        // 4 NODES of b0: the thousandth NODE is the if, and the one ON THE WAY behind it is come to.
        LateAndEarly z = Check.with("b0: v2 = v1 + 1; v3 = 1; v3 = 1; go b1;"
            + "b1: v3 = v1 + 1; v1 = v4; if v0 < 1 b1 b2; b2: leave;");
        Check.due("SET there", z.placed(0, 2, 0, 8, 0), 1);
        Check.due("run", z.run(0, 2), 2);
        ran(z, 2, 1000, 0, -1, 333);
        Check.due("run", z.run(0, 0), 2);
        ran(z, 2, 1000, 0, -1, 333);
    }

    private static void told() {
        LateAndEarly x = Check.with("b0: go b1; b1: tell v1; v1 = v1 + 1; if v1 < v0 b1 b2;"
            + "b2: tell -7; leave;");
        x.name(0, 120);
        x.name(1, 1);
        Check.due("run", x.run(0, 0), 0);
        Check.due("how many", x.ran(2), 120);
        Check.due("told 0", x.told(0), 1);
        Check.due("told 99", x.told(99), 100);
        Check.due("told 100", x.told(100), 0);
        Check.due("told 119", x.told(119), 0);
        Check.due("told -1", x.told(-1), 0);
        x.name(0, 3);
        Check.due("run", x.run(0, 1), 0);
        Check.due("how many", x.ran(2), 3);
        Check.due("told 1", x.told(1), 2);
        Check.due("told 2", x.told(2), -7);
        Check.due("told 3", x.told(3), 0);
    }

    private static void taken() {
        // The value taken is that of the place where it was SET, and NAMES t are not touched.
        LateAndEarly x = Check.with("b0: v3 = v1 * v2; tell v3; v3 = 0; v4 = v1 * v2; v1 = v1 * v2;"
            + "v5 = v1 * v2; tell v5; leave;");
        x.name(1, 3);
        x.name(2, 5);
        x.name(16, 77);
        int[] want = {4, 2, 2};
        for (int placing = 0; placing < 3; placing++) {
            Check.due("run " + placing, x.run(0, placing), 0);
            ran(x, 0, 8, 2, -1, want[placing]);
            Check.due("v4", x.value(4), 15);
            Check.due("v5", x.value(5), 75);
            Check.due("t0", x.value(16), 77);
            Check.due("worked", x.worked(0), want[placing]);
        }
    }

    private static void latestRunStays() {
        LateAndEarly x = Check.with("b0: v3 = v1 * v2; v3 = v1 + 8; v3 = v1 + 8; tell v3; leave;");
        x.run(0, 0);
        Check.due("run of no PLACING", x.run(0, 3), -1);
        Check.due("run of no PLACING", x.run(0, -1), -1);
        Check.due("run of no ROUTINE", x.run(1, 0), -1);
        Check.parse(x, 0, "b0: leave;");
        ran(x, 0, 5, 1, -1, 3);
        Check.due("told 0", x.told(0), 8);
        Check.due("worked 0", x.worked(0), 1);
        Check.due("worked 1", x.worked(1), 2);
        Check.due("worked 2", x.worked(2), 0);
        Check.due("worked 31", x.worked(31), 0);
        x.run(0, 0);
        ran(x, 0, 1, 0, -1, 0);
        Check.due("worked 0", x.worked(0), 0);
        Check.due("told 0", x.told(0), 0);
    }

    private static void refusals() {
        LateAndEarly x = new LateAndEarly();
        Check.due("run of no ROUTINE", x.run(0, 0), -1);
        Check.due("run of place -1", x.run(-1, 0), -1);
        Check.due("run of place 4", x.run(4, 0), -1);
        ran(x, 0, 0, 0, 0, 0);
        Check.due("worked 0", x.worked(0), 0);
        Check.due("worked 31", x.worked(31), 0);
        Check.due("worked 32", x.worked(32), -1);
        Check.due("worked -1", x.worked(-1), -1);
        Check.due("told 0", x.told(0), 0);
    }
}
