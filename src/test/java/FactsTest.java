/** Promises 7 to 13: what is told of a ROUTINE, its NODES, its SUMS and their placings. */
public final class FactsTest {
    /** A sum that is worked on one way only, and again behind both. */
    private static final String MEET = "b0: if v0 < 1 b1 b2;"
        + "b1: v3 = v1 + v2; go b3;"
        + "b2: v1 = 5; go b3;"
        + "b3: v4 = v1 + v2; leave;";
    /** A bold sum that all ways work, with a NODE ON THE WAY. */
    private static final String BOLD = "b0: if v0 < 1 b1 b2;"
        + "b1: v1 = 8 / v2; go b2;"
        + "b2: v3 = 8 / v2; leave;";
    /** The first text of the shared tests. */
    private static final String SHARED = "b0: v1 = v2 + v3; if v1 < 9 b1 b2;"
        + " b1: v4 = v2 + v3; v2 = 1; tell v4; go b2;"
        + " b2: v5 = v2 + v3; tell v5; v6 = 8 / v0; v7 = r0[v1]; r0[1] = 3; v7 = r0[v1];"
        + " tell v7; leave;";

    public static void main(String[] args) {
        about();
        nodes();
        bothWays();
        wayNodesByNodes();
        sums();
        sumsThatAreOne();
        meet();
        bold();
        shared();
        kills();
        seen();
        seenByEach();
        backwards();
        laterRounds();
        usedAgain();
        alone();
        loop();
        thirtyTwoSums();
        largest();
        refusals();
        Check.end("FactsTest");
    }

    private static void about() {
        LateAndEarly x = Check.with(SHARED);
        long[] want = {3, 15, 3, 1, 14};
        for (int what = 0; what < 5; what++) {
            Check.due("about " + what, x.about(0, what), want[what]);
        }
        Check.due("about 5", x.about(0, 5), -1);
        Check.due("about -1", x.about(0, -1), -1);
        Check.due("about of no ROUTINE", x.about(1, 0), -1);
        Check.due("about of place 4", x.about(4, 0), -1);
        Check.due("about of place -1", x.about(-1, 0), -1);
    }

    private static void nodeIs(LateAndEarly x, int n, int... want) {
        for (int what = 0; what < want.length; what++) {
            Check.due("node " + n + " what " + what, x.node(0, n, what), want[what]);
        }
    }

    private static void nodes() {
        LateAndEarly x = Check.with("b0: v1 = v2; r1[3] = v2; go b1;"
            + "b1: tell v1; v1 = r1[v1]; if v0 < 3 b1 b2; b2: leave;");
        nodeIs(x, 0, 1, 0, -1, 1, -1, 0);
        nodeIs(x, 1, 2, 0, -1, 2, -1, 1);
        nodeIs(x, 2, 4, 0, -1, 3, -1, 1);
        nodeIs(x, 3, 3, 1, -1, 4, -1, 2);
        nodeIs(x, 4, 0, 1, 0, 5, -1, 1);
        nodeIs(x, 5, 5, 1, -1, 7, 6, 1);
        nodeIs(x, 6, 6, 2, -1, -1, -1, 1);
        nodeIs(x, 7, 7, 1, -1, 3, -1, 1);
        Check.due("NODES ON THE WAY", x.about(0, 3), 1);
        Check.due("no NODE 8", x.node(0, 8, 0), -1);
        Check.due("no NODE -1", x.node(0, -1, 0), -1);
        Check.due("no what 6", x.node(0, 0, 6), -1);
        Check.due("no what -1", x.node(0, 0, -1), -1);
        Check.due("no ROUTINE", x.node(1, 0, 0), -1);
    }

    private static void bothWays() {
        LateAndEarly x = Check.with("b0: if v0 < 3 b1 b1; b1: leave;");
        nodeIs(x, 0, 5, 0, -1, 2, 3, 0);
        nodeIs(x, 1, 6, 1, -1, -1, -1, 2);
        nodeIs(x, 2, 7, 1, -1, 1, -1, 1);
        nodeIs(x, 3, 7, 1, -1, 1, -1, 1);
        Check.due("NODES ON THE WAY", x.about(0, 3), 2);
    }

    private static void wayNodesByNodes() {
        LateAndEarly x = Check.with("b0: if 1 < 2 b2 b1; b1: if 1 < 2 b3 b2; b2: go b3; b3: leave;");
        nodeIs(x, 0, 5, 0, -1, 4, 1, 0);
        nodeIs(x, 1, 5, 1, -1, 5, 6, 1);
        nodeIs(x, 2, 4, 2, -1, 3, -1, 2);
        nodeIs(x, 3, 6, 3, -1, -1, -1, 2);
        nodeIs(x, 4, 7, 2, -1, 2, -1, 1);
        nodeIs(x, 5, 7, 3, -1, 3, -1, 1);
        nodeIs(x, 6, 7, 2, -1, 2, -1, 1);
    }

    private static void sumIs(LateAndEarly x, int e, int... want) {
        for (int what = 0; what < want.length; what++) {
            Check.due("sum " + e + " what " + what, x.sum(0, e, what), want[what]);
        }
    }

    private static void sums() {
        LateAndEarly x = Check.with("b0: v0 = v15 + t0; v0 = t31 - 999; v0 = 1000 * -999;"
            + "v0 = -1000 & 0; v0 = -999999999 ^ 999999999; v0 = 7 / v0; v0 = r0[t2]; v0 = r1[-4];"
            + "v0 = r1[1234]; v3 = v15 + t0; leave;");
        sumIs(x, 0, '+', 1015, 2000, 0, 2);
        sumIs(x, 1, '-', 2031, 999, 0, 1);
        sumIs(x, 2, '*', 999, -999, 0, 1);
        sumIs(x, 3, '&', -999, 0, 0, 1);
        sumIs(x, 4, '^', -999, 999, 0, 1);
        sumIs(x, 5, '/', 7, 1000, 1, 1);
        sumIs(x, 6, 'r', 0, 2002, 1, 1);
        sumIs(x, 7, 'r', 1, -4, 1, 1);
        sumIs(x, 8, 'r', 1, 999, 1, 1);
        Check.due("no SUM 9", x.sum(0, 9, 0), -1);
        Check.due("no SUM -1", x.sum(0, -1, 0), -1);
        Check.due("no what 5", x.sum(0, 0, 5), -1);
        Check.due("no what -1", x.sum(0, 0, -1), -1);
        Check.due("no ROUTINE", x.sum(2, 0, 0), -1);
    }

    private static void sumsThatAreOne() {
        LateAndEarly x = Check.with("b0: v0 = 007 + - 0; v1 = 7 + 0; v2 = 0 + 7; v3 = 7 - 0;"
            + "v4 = v1 + v2; v5 = v2 + v1; v6 = r0[1]; v7 = r0[01]; v8 = r1[1]; v9 = -1 + 1;"
            + "v9 = 1 + 1; v9 = 1000 + 1; v9 = 1001 + 1; leave;");
        int[] want = {0, 0, 1, 2, 3, 4, 5, 5, 6, 7, 8, 9, 10};
        for (int n = 0; n < want.length; n++) {
            Check.due("the SUM of NODE " + n, x.node(0, n, 2), want[n]);
        }
        Check.due("SUMS", x.about(0, 2), 11);
        Check.due("NODES that WORK SUM 0", x.sum(0, 0, 4), 2);
    }

    private static void facts(LateAndEarly x, int e, String... want) {
        String[] names = {"WORKS", "KILLS", "WANTED", "THERE", "EARLY", "DELAYED", "LATEST", "ALONE"};
        for (int what = 0; what < want.length; what++) {
            Check.due(names[what] + " of SUM " + e, Check.at(x, e, what), want[what]);
        }
    }

    private static void placings(LateAndEarly x, int placing, int e, String set, String taken, String alive) {
        Check.due("SET " + placing + " of SUM " + e, Check.placed(x, placing, e, 0), set);
        Check.due("TAKEN " + placing + " of SUM " + e, Check.placed(x, placing, e, 1), taken);
        Check.due("alive " + placing + " of SUM " + e, Check.placed(x, placing, e, 2), alive);
        Check.due("places 0", x.places(0, placing, e, 0), ones(set));
        Check.due("places 1", x.places(0, placing, e, 1), ones(taken));
        Check.due("life", x.life(0, placing, e), ones(alive));
    }

    private static long ones(String digits) {
        return digits.chars().filter(c -> c == '1').count();
    }

    private static void meet() {
        LateAndEarly x = Check.with(MEET);
        Check.due("NODES", x.about(0, 1), 7);
        facts(x, 0, "0100010", "0001000", "0110110", "0010001", "0100100", "0100100", "0100100",
            "1001011");
        placings(x, 0, 0, "0000000", "0000000", "0000000");
        placings(x, 1, 0, "0100100", "0100010", "0010010");
        placings(x, 2, 0, "0100100", "0100010", "0010010");
    }

    private static void bold() {
        LateAndEarly x = Check.with(BOLD);
        Check.due("NODES", x.about(0, 1), 6);
        facts(x, 0, "010100", "000000", "111101", "001010", "100000", "110001", "010001", "100110");
        placings(x, 1, 0, "100000", "010100", "011101");
        placings(x, 2, 0, "010001", "010100", "001100");
    }

    private static void shared() {
        LateAndEarly x = Check.with(SHARED);
        facts(x, 0, "101000100000000", "000100000000000", "111011100000001", "011100011111111",
            "100010000000000", "100011000000000", "100001000000000", "001110111111110");
        placings(x, 1, 0, "100010000000000", "101000100000000", "011001100000001");
        placings(x, 2, 0, "100001000000000", "101000100000000", "011000100000001");
    }

    private static void kills() {
        LateAndEarly x = Check.with("b0: v1 = v1 + t0; v2 = v1 + v1; t0 = 3; v3 = r0[v2];"
            + "r0[1] = v1; r1[v2] = 4; v2 = r1[t0]; v1 = r0[v2]; tell v1; leave;");
        Check.due("KILLS of v1 + t0", Check.at(x, 0, 1), "1010000100");
        Check.due("KILLS of v1 + v1", Check.at(x, 1, 1), "1000000100");
        Check.due("KILLS of r0[v2]", Check.at(x, 2, 1), "0100101000");
        Check.due("KILLS of r1[t0]", Check.at(x, 3, 1), "0010010000");
        Check.due("WORKS of r0[v2]", Check.at(x, 2, 0), "0001000100");
    }

    private static void seen() {
        // Each NODE between is one that lets a sum through; a bold one only where it is not SEEN.
        LateAndEarly x = Check.with("b0: v9 = 0; v0 = 2; tell v0; v0 = 3; r1[0] = 1; v0 = 4;"
            + "v0 = 1 / 1; v0 = 5; v0 = 1 + 1; v0 = 6; v0 = r1[0]; v0 = 8;"
            + "v1 = v2 / v3; v4 = r0[v5]; v6 = v7 + v8; leave;");
        Check.due("WANTED of v2 / v3", Check.at(x, 3, 2), "0000000000011000");
        Check.due("WANTED of r0[v5]", Check.at(x, 4, 2), "0000000000000100");
        Check.due("WANTED of v7 + v8", Check.at(x, 5, 2), "1111111111111110");
        Check.due("EARLY of v2 / v3", Check.at(x, 3, 4), "0000000000010000");
        Check.due("EARLY of v7 + v8", Check.at(x, 5, 4), "1000000000000000");
    }

    private static void seenByEach() {
        // NODE 1 stands between; where it is SEEN, a bold sum is not WANTED ahead of it.
        String[] between = {"tell v1;", "r0[1] = 2;", "v1 = 1 / 2;", "v1 = r1[3];",
            "v1 = 1 + 2;", "v1 = 3;"};
        for (int i = 0; i < between.length; i++) {
            String want = i < 4 ? "0010" : "1110";
            LateAndEarly x = Check.with("b0: v1 = 4; " + between[i] + "v2 = v3 / v4; leave;");
            Check.due("WANTED behind " + between[i], Check.at(x, x.about(0, 2) - 1, 2), want);
            LateAndEarly y = Check.with("b0: v1 = 4; " + between[i] + "v2 = r1[v4]; leave;");
            Check.due("WANTED behind " + between[i], Check.at(y, y.about(0, 2) - 1, 2), want);
            LateAndEarly z = Check.with("b0: v1 = 4; " + between[i] + "v2 = v3 * v4; leave;");
            Check.due("WANTED behind " + between[i], Check.at(z, z.about(0, 2) - 1, 2), "1110");
        }
        LateAndEarly x = Check.with("b0: v1 = r0[3]; r0[4] = 1; v1 = r0[3]; leave;");
        Check.due("KILLS of the only SUM", Check.at(x, 0, 1), "0100");
        Check.due("WANTED of it", Check.at(x, 0, 2), "1010");
    }

    private static void backwards() {
        // The blocks stand against the order in which they come to one another.
        LateAndEarly x = Check.with("b0: v1 = 1; go b4; b1: v6 = v2 ^ v3; leave; b2: v9 = 2; go b1;"
            + "b3: v9 = 3; go b2; b4: v9 = 4; go b3;");
        facts(x, 0, "0010000000", "0000000000", "1110111111", "0001000000", "1000000000",
            "1110111111", "0010000000", "1111111111");
        placings(x, 1, 0, "1000000000", "0010000000", "0110111111");
        LateAndEarly y = Check.with("b0: v5 = v2 ^ v3; go b4; b1: v6 = v2 ^ v3; leave; b2: v9 = 2; go b1;"
            + "b3: v9 = 3; go b2; b4: v9 = 4; go b3;");
        facts(y, 0, "1010000000", "0000000000", "1110111111", "0111111111", "1000000000",
            "1000000000", "1000000000", "0011000000");
        placings(y, 1, 0, "1000000000", "1010000000", "0110111111");
        placings(y, 2, 0, "1000000000", "1010000000", "0110111111");
        LateAndEarly z = Check.with("b0: v5 = v2 ^ v3; go b4; b1: v6 = v2 ^ v3; leave; b2: v9 = 2; go b1;"
            + "b3: v2 = 3; go b2; b4: v9 = 4; go b3;");
        facts(z, 0, "1010000000", "0000001000", "1010110100", "0101001011", "1000000100",
            "1010110100", "1010000000", "1111111111");
    }

    private static void laterRounds() {
        // What the NODES behind the loop do is known at its head only by a second round.
        LateAndEarly x = Check.with("b0: go b1; b1: if v0 < 1 b1 b2; b2: if v0 < 2 b1 b3;"
            + "b3: v4 = v1 - v2; v1 = 2; if v0 < 3 b2 b4; b4: leave;");
        Check.due("NODES", x.about(0, 1), 11);
        facts(x, 0, "00010000000", "00001000000", "11110001111", "00001000000", "10000000001",
            "11110001111", "00010000000", "11111111111");
    }

    /** The rows of one object hold first one ROUTINE, then others. */
    private static void usedAgain() {
        LateAndEarly x = new LateAndEarly();
        for (int round = 0; round < 3; round++) {
            Check.parse(x, 0, SHARED);
            Check.parse(x, 0, "b0: v1 = t2 / 3; v1 = v4 * v5; v2 = v4 * v6; v3 = v5 * v6; leave;");
            Check.parse(x, 1, "b0: v1 = t2 / 3;");
            Check.parse(x, 0, MEET);
            Check.due("SUMS", x.about(0, 2), 1);
            Check.due("NODES", x.about(0, 1), 7);
            Check.due("how many lead to NODE 5", x.node(0, 5, 5), 2);
            Check.due("no t", x.write(0, 1) > 0 ? 1 : 0, 1);
            Check.due("home", x.home(0), 0);
            facts(x, 0, "0100010", "0001000", "0110110", "0010001", "0100100", "0100100", "0100100",
                "1001011");
            placings(x, 1, 0, "0100100", "0100010", "0010010");
            placings(x, 2, 0, "0100100", "0100010", "0010010");
            x.step(0, 0);
            Check.due("works of the first block", x.works(0, 0, 0), 0);
            x.step(0, 1);
            Check.due("works of two blocks", x.works(0, 0, 0), 1);
            Check.parse(x, 0, BOLD);
            Check.due("home", x.home(0), 0);
            Check.due("write", x.write(0, 0), 79);
            facts(x, 0, "010100", "000000", "111101", "001010", "100000", "110001", "010001", "100110");
            placings(x, 1, 0, "100000", "010100", "011101");
            placings(x, 2, 0, "010001", "010100", "001100");
        }
    }

    private static void alone() {
        LateAndEarly x = Check.with("b0: v1 = v2 + v3; tell v1; v2 = 1; v1 = v2 + v3; leave;");
        facts(x, 0, "10010", "00100", "10010", "01101", "10010", "10010", "10010", "11111");
        placings(x, 1, 0, "10010", "10010", "00000");
        placings(x, 2, 0, "00000", "00000", "00000");
    }

    private static void loop() {
        LateAndEarly x = Check.with("b0: v0 = 0; go b1;"
            + "b1: v4 = v2 * v3; v0 = v0 + 1; if v0 < 9 b1 b2; b2: leave;");
        Check.due("NODES", x.about(0, 1), 7);
        facts(x, 0, "0010000", "0000000", "1110001", "0001111", "1000000", "1100000", "0100000",
            "1000010");
        placings(x, 1, 0, "1000000", "0010000", "0111101");
        placings(x, 2, 0, "0100000", "0010000", "0011101");
        Check.due("v0 + 1 EARLY", Check.at(x, 1, 4), "0100001");
    }

    private static void thirtyTwoSums() {
        StringBuilder text = new StringBuilder("b0: ");
        for (int e = 0; e < 32; e++) {
            text.append("v0 = v1 + ").append(e).append("; ");
        }
        LateAndEarly x = Check.with(text + "v2 = v1 + 31; leave;");
        Check.due("SUMS", x.about(0, 2), 32);
        Check.due("EARLY of the last one", Check.at(x, 31, 4), "1" + "0".repeat(33));
        Check.due("LATEST of the last one", Check.at(x, 31, 6), "0".repeat(31) + "100");
        Check.due("life of the last one", x.life(0, 1, 31), 32);
        Check.due("late life of the last one", x.life(0, 2, 31), 1);
        Check.due("late places of the last one", x.places(0, 2, 31, 0), 1);
        Check.due("late places of the one ahead", x.places(0, 2, 30, 0), 0);
        Check.due("no SUM 32", x.sum(0, 32, 0), -1);
    }

    /** 160 statements and ends, 32 SUMS, and 39 ifs of which both ways lead to the same block. */
    private static void largest() {
        StringBuilder text = new StringBuilder();
        for (int b = 0; b < 40; b++) {
            text.append("b").append(b).append(":");
            for (int i = 0; i < 3; i++) {
                text.append("v").append(i).append("=v5^").append(b % 32).append(";");
            }
            String next = "b" + (b + 1);
            text.append(b == 39 ? "leave;" : "if v0<1 " + next + " " + next + ";");
        }
        LateAndEarly x = Check.with(text.toString());
        long[] about = {40, 238, 32, 78, 160};
        for (int what = 0; what < 5; what++) {
            Check.due("about " + what, x.about(0, what), about[what]);
        }
        nodeIs(x, 155, 5, 38, -1, 236, 237, 1);
        nodeIs(x, 237, 7, 39, -1, 156, -1, 1);
        nodeIs(x, 159, 6, 39, -1, -1, -1, 1);
        Check.due("no NODE 238", x.node(0, 238, 0), -1);
        // SUM 0 is worked in b0 and b32, SUM 31 in b31; alive on all NODES from behind NODE 0 on.
        Check.due("life of SUM 0", x.life(0, 1, 0), 130 + 2 * 32);
        Check.due("life of SUM 31", x.life(0, 1, 31), 126 + 2 * 31);
        Check.due("late life of SUM 31", x.life(0, 2, 31), 2);
        Check.due("NODES that TAKE SUM 0", x.places(0, 2, 0, 1), 6);
        Check.due("run", x.run(0, 1), 0);
        Check.due("NODES of the RUN", x.ran(1), 160);
        Check.due("worked", x.ran(4), 32);
        Check.due("plain run", x.run(0, 0), 0);
        Check.due("worked plain", x.ran(4), 120);
        Check.due("written", x.write(0, 1) > 0 ? 1 : 0, 1);
        Check.due("192 statements and ends", x.parse(1) < -10 ? 1 : 0, 1);
        Check.due("are too many", x.wrong(), 3);
    }

    private static void refusals() {
        LateAndEarly x = Check.with(BOLD);
        int[][] wrong = {{1, 0, 0, 0}, {4, 0, 0, 0}, {-1, 0, 0, 0}, {0, 1, 0, 0}, {0, -1, 0, 0},
            {0, 0, 6, 0}, {0, 0, -1, 0}, {0, 0, 0, 8}, {0, 0, 0, -1}};
        for (int[] w : wrong) {
            Check.due("at refuses", x.at(w[0], w[1], w[2], w[3]), -1);
            Check.due("placed refuses", x.placed(w[0], 1, w[1], w[2], w[3]), -1);
        }
        Check.due("placed 3", x.placed(0, 1, 0, 0, 3), -1);
        for (int placing : new int[] {-1, 3, Integer.MAX_VALUE, Integer.MIN_VALUE}) {
            Check.due("placed refuses", x.placed(0, placing, 0, 0, 0), -1);
            Check.due("life refuses", x.life(0, placing, 0), -1);
            Check.due("places refuses", x.places(0, placing, 0, 0), -1);
        }
        Check.due("life of no ROUTINE", x.life(1, 1, 0), -1);
        Check.due("life of no SUM", x.life(0, 1, 1), -1);
        Check.due("life of SUM -1", x.life(0, 1, -1), -1);
        Check.due("places of no ROUTINE", x.places(-1, 1, 0, 0), -1);
        Check.due("places of no SUM", x.places(0, 1, 1, 0), -1);
        Check.due("places what 2", x.places(0, 1, 0, 2), -1);
        Check.due("places what -1", x.places(0, 1, 0, -1), -1);
    }
}
