import java.util.Arrays;

/** The edges that the second part of the Terms and promises 7 to 10 name, a sentence a method. */
public final class EdgeNodeTest {
    private static final int[] FAR = {Integer.MIN_VALUE, -1000, -2, 240, 241, 1000, Integer.MAX_VALUE};
    private static final String[] FACTS = {"WORKS", "KILLS", "WANTED", "THERE", "EARLY", "DELAYED", "LATEST",
        "ALONE"};

    public static void main(String[] args) {
        theLeastRoutine();
        theLargestRoutine();
        oneWayHasNoNode();
        moreThanOneWay();
        bothWaysHaveTwo();
        nodesOnTheWayInOrder();
        endsLeadToFirstNodes();
        howManyLeadToIt();
        aboutHasFive();
        nodeHasSix();
        nodesWithoutOne();
        nodesHaveAnEnd();
        numbersByWhatTheyAre();
        sumsThatAreTwo();
        sumsAsTheyFirstStand();
        boldOnes();
        numbersTold();
        namesTold();
        sumHasFive();
        sumsHaveAnEnd();
        lastOf32Sums();
        atHasEight();
        worksThenKills();
        killsOfNamesAndRows();
        killsOfNothing();
        seenStopsBoldOnesOnly();
        workedThereIsWanted();
        wantedByAllWays();
        greatestWanted();
        notThereAtTheFirst();
        thereByAll();
        greatestThere();
        earlyBehindAKill();
        neitherThereNorWanted();
        delayedUpToAWork();
        latestOnAWay();
        aloneAtALeave();
        aloneByEachWay();
        roundsAgainstTheNumbers();
        placesUsedAgain();
        Check.end("EdgeNodeTest");
    }

    private static void about(LateAndEarly x, int... want) {
        for (int what = 0; what < 5; what++) {
            Check.due("about " + what, x.about(0, what), want[what]);
        }
    }

    private static void node(LateAndEarly x, int n, int... want) {
        for (int what = 0; what < 6; what++) {
            Check.due("node " + n + " what " + what, x.node(0, n, what), want[what]);
        }
    }

    private static void facts(LateAndEarly x, int e, String... want) {
        for (int what = 0; what < want.length; what++) {
            Check.due(FACTS[what] + " of SUM " + e, Check.at(x, e, what), want[what]);
        }
    }

    /** 7, 8: one block of one end. */
    private static void theLeastRoutine() {
        LateAndEarly x = Check.with("b0:leave;");
        about(x, 1, 1, 0, 0, 1);
        node(x, 0, 6, 0, -1, -1, -1, 0);
        Check.due("no NODE 1", x.node(0, 1, 0), -1);
        Check.due("no SUM 0", x.sum(0, 0, 0), -1);
        Check.due("at of no SUM", x.at(0, 0, 0, 0), -1);
    }

    /** 40 blocks, 160 statements and ends, 78 NODES ON THE WAY and 32 SUMS. */
    private static void theLargestRoutine() {
        StringBuilder text = new StringBuilder();
        for (int b = 0; b < 40; b++) {
            text.append("b").append(b).append(":");
            for (int i = 0; i < 3; i++) {
                text.append("v").append(i).append("=v5^").append(b % 32).append(";");
            }
            String next = "b" + (b + 1);
            text.append(b == 39 ? "leave;" : "if v0<1 " + next + " " + next + ";");
        }
        LateAndEarly x = Check.with(text.toString());
        about(x, 40, 238, 32, 78, 160);
        node(x, 159, 6, 39, -1, -1, -1, 1);
        node(x, 155, 5, 38, -1, 236, 237, 1);
        node(x, 160, 7, 1, -1, 4, -1, 1);
        node(x, 237, 7, 39, -1, 156, -1, 1);
        node(x, 156, 0, 39, 7, 157, -1, 2);
        Check.due("no NODE 238", x.node(0, 238, 0), -1);
        Check.due("no SUM 32", x.sum(0, 32, 0), -1);
        Check.due("WANTED at the last NODE", x.at(0, 7, 237, 2), 1);
        Check.due("at of no NODE 238", x.at(0, 7, 238, 2), -1);
        Check.due("placed of no NODE 238", x.placed(0, 1, 7, 238, 0), -1);
        Check.due("placed at the last NODE", x.placed(0, 1, 7, 237, 2), 1);
    }

    /** each way that leads to a block to which more than one way leads: not one. */
    private static void oneWayHasNoNode() {
        LateAndEarly x = Check.with("b0:if v0<1 b1 b2;b1:leave;b2:leave;");
        about(x, 3, 3, 0, 0, 3);
        node(x, 0, 5, 0, -1, 1, 2, 0);
        node(x, 1, 6, 1, -1, -1, -1, 1);
        LateAndEarly gos = Check.with("b0:if v0<1 b1 b2;b1:go b3;b2:go b3;b3:leave;");
        about(gos, 4, 4, 0, 0, 4);
        node(gos, 1, 4, 1, -1, 3, -1, 1);
        node(gos, 3, 6, 3, -1, -1, -1, 2);
    }

    /** more than one way leads (of gos and ifs). */
    private static void moreThanOneWay() {
        LateAndEarly x = Check.with("b0:if v0<1 b1 b2;b1:go b2;b2:leave;");
        about(x, 3, 4, 0, 1, 3);
        node(x, 0, 5, 0, -1, 1, 3, 0);
        node(x, 1, 4, 1, -1, 2, -1, 1);
        node(x, 2, 6, 2, -1, -1, -1, 2);
        node(x, 3, 7, 2, -1, 2, -1, 1);
        LateAndEarly loop = Check.with("b0:go b1;b1:if v0<1 b1 b2;b2:leave;");
        about(loop, 3, 4, 0, 1, 3);
        node(loop, 0, 4, 0, -1, 1, -1, 0);
        node(loop, 1, 5, 1, -1, 3, 2, 2);
        node(loop, 3, 7, 1, -1, 1, -1, 1);
    }

    /** an if of which both ways lead to it has two. */
    private static void bothWaysHaveTwo() {
        LateAndEarly x = Check.with("b0:if v0<1 b1 b1;b1:leave;");
        about(x, 2, 4, 0, 2, 2);
        node(x, 0, 5, 0, -1, 2, 3, 0);
        node(x, 1, 6, 1, -1, -1, -1, 2);
        node(x, 2, 7, 1, -1, 1, -1, 1);
        node(x, 3, 7, 1, -1, 1, -1, 1);
    }

    /** then, by these, for each if and each of its two ways, the first one first. */
    private static void nodesOnTheWayInOrder() {
        LateAndEarly x = Check.with("b0:tell 1;if v0<1 b2 b1;b1:if v0<2 b2 b3;b2:if v0<3 b3 b2;b3:leave;");
        about(x, 4, 10, 0, 5, 5);
        node(x, 1, 5, 0, -1, 5, 2, 1);
        node(x, 2, 5, 1, -1, 6, 7, 1);
        node(x, 3, 5, 2, -1, 8, 9, 3);
        node(x, 4, 6, 3, -1, -1, -1, 2);
        node(x, 5, 7, 2, -1, 3, -1, 1);
        node(x, 6, 7, 2, -1, 3, -1, 1);
        node(x, 7, 7, 3, -1, 4, -1, 1);
        node(x, 8, 7, 3, -1, 4, -1, 1);
        node(x, 9, 7, 2, -1, 3, -1, 1);
    }

    /** A NODE leads to the next one of its block, an end to its blocks' first NODES. */
    private static void endsLeadToFirstNodes() {
        LateAndEarly x = Check.with("b0:v1=1;go b2;b1:tell 1;tell 2;leave;b2:r0[1]=2;v2=v1+1;go b1;");
        node(x, 0, 1, 0, -1, 1, -1, 0);
        node(x, 1, 4, 0, -1, 5, -1, 1);
        node(x, 2, 3, 1, -1, 3, -1, 1);
        node(x, 3, 3, 1, -1, 4, -1, 1);
        node(x, 4, 6, 1, -1, -1, -1, 1);
        node(x, 5, 2, 2, -1, 6, -1, 1);
        node(x, 6, 0, 2, 0, 7, -1, 1);
        node(x, 7, 4, 2, -1, 2, -1, 1);
    }

    /** 8: 5 how many lead to it: none to the FIRST one. */
    private static void howManyLeadToIt() {
        LateAndEarly x = Check.with("b0:if v0<1 b1 b2;b1:if v0<2 b3 b3;b2:go b3;b3:tell 1;leave;");
        int[] want = {0, 1, 1, 3, 1, 1, 1};
        Check.due("NODES", x.about(0, 1), want.length);
        for (int n = 0; n < want.length; n++) {
            Check.due("how many lead to " + n, x.node(0, n, 5), want[n]);
        }
    }

    /** 7: what 0 .. 4. NONE. */
    private static void aboutHasFive() {
        LateAndEarly x = Check.with("b0:leave;");
        for (int p = 0; p < 4; p++) {
            Check.parse(x, p, "b0:" + "tell 1;".repeat(p) + "leave;");
        }
        for (int p = 0; p < 4; p++) {
            Check.due("about " + p, x.about(p, 4), p + 1);
            Check.due("about what 5", x.about(p, 5), -1);
            Check.due("about what -1", x.about(p, -1), -1);
        }
        for (int far : FAR) {
            Check.due("about what " + far, x.about(0, far), -1);
            Check.due("about of place " + far, x.about(far, 0), -1);
        }
        Check.due("about of place 4", x.about(4, 0), -1);
        Check.due("about of place -1", x.about(-1, 0), -1);
    }

    /** 8: what 0 .. 5. NONE. */
    private static void nodeHasSix() {
        LateAndEarly x = Check.with("b0:v1=v2+v3;leave;");
        node(x, 0, 0, 0, 0, 1, -1, 0);
        node(x, 1, 6, 0, -1, -1, -1, 1);
        Check.due("node what 6", x.node(0, 0, 6), -1);
        Check.due("node what -1", x.node(0, 0, -1), -1);
        Check.due("node of place 4", x.node(4, 0, 0), -1);
        Check.due("node of place -1", x.node(-1, 0, 0), -1);
        Check.due("node of no ROUTINE", x.node(1, 0, 0), -1);
        for (int far : FAR) {
            Check.due("node what " + far, x.node(0, 0, far), -1);
            Check.due("node of place " + far, x.node(far, 0, 0), -1);
        }
    }

    /** 8: NONE (also of 2 to 4 without one). */
    private static void nodesWithoutOne() {
        LateAndEarly x = Check.with("b0:v1=v2;r0[1]=v2;tell v2;v1=r0[1];if v1<1 b1 b2;b1:go b2;b2:leave;");
        node(x, 0, 1, 0, -1, 1, -1, 0);
        node(x, 1, 2, 0, -1, 2, -1, 1);
        node(x, 2, 3, 0, -1, 3, -1, 1);
        node(x, 3, 0, 0, 0, 4, -1, 1);
        node(x, 4, 5, 0, -1, 5, 7, 1);
        node(x, 5, 4, 1, -1, 6, -1, 1);
        node(x, 6, 6, 2, -1, -1, -1, 2);
        node(x, 7, 7, 2, -1, 6, -1, 1);
    }

    /** 8: NONE: there is no such NODE. */
    private static void nodesHaveAnEnd() {
        LateAndEarly x = Check.with("b0:v1=v2+v3;tell 1;leave;");
        Check.due("node 2", x.node(0, 2, 0), 6);
        Check.due("at 2", x.at(0, 0, 2, 3), 1);
        Check.due("placed 2", x.placed(0, 0, 0, 2, 0), 0);
        int[] none = {3, -1, 4, -2, 240, Integer.MIN_VALUE, Integer.MAX_VALUE};
        for (int n : none) {
            Check.due("node " + n, x.node(0, n, 0), -1);
            Check.due("at " + n, x.at(0, 0, n, 3), -1);
            Check.due("placed " + n, x.placed(0, 0, 0, n, 0), -1);
        }
    }

    private static void sumOf(String text, int... want) {
        LateAndEarly x = Check.with(text);
        for (int n = 0; n < want.length; n++) {
            Check.due("the SUM of NODE " + n + " in " + text, x.node(0, n, 2), want[n]);
        }
        Check.due("SUMS of " + text, x.about(0, 2), Arrays.stream(want).max().getAsInt() + 1);
    }

    /** two are one if ..: numbers by what they are: 007 is 7, - 0 is 0. */
    private static void numbersByWhatTheyAre() {
        sumOf("b0:v0=007+v1;v0=7+v1;v0=000000007+v1;leave;", 0, 0, 0);
        sumOf("b0:v0=v1--0;v0=v1-0;v0=v1- - 00;leave;", 0, 0, 0);
        sumOf("b0:v0=-0+-0;v0=0+0;leave;", 0, 0);
        sumOf("b0:v0=-007*1;v0=- 7*01;v0=7*1;leave;", 0, 0, 1);
        sumOf("b0:v0=r0[-0];v0=r0[000];v0=r0[0];leave;", 0, 0, 0);
        // They are told alike (999), but they are not what the other is.
        sumOf("b0:v0=1000+1;v0=1001+1;v0=999+1;v0=-1000+1;v0=-999+1;leave;", 0, 1, 2, 3, 4);
        sumOf("b0:v0=999999999+1;v0=999999998+1;v0=-999999999+1;leave;", 0, 1, 2);
    }

    /** if they have the same sign (or ROW) and the same operands in the same order. */
    private static void sumsThatAreTwo() {
        sumOf("b0:v0=v1+v2;v0=v1-v2;v0=v1*v2;v0=v1&v2;v0=v1^v2;v0=v1/v2;v0=v1+v2;leave;", 0, 1, 2, 3, 4, 5, 0);
        sumOf("b0:v0=v1+v2;v0=v2+v1;v0=v1+v1;v0=v2+v2;leave;", 0, 1, 2, 3);
        sumOf("b0:v0=r0[v1];v0=r1[v1];v0=r0[v2];v0=r1[v2];v0=r1[v1];leave;", 0, 1, 2, 3, 1);
        sumOf("b0:v0=v1+1;v0=t1+1;v0=1+1;v0=v11+1;v0=t1+1;leave;", 0, 1, 2, 3, 1);
        sumOf("b0:v0=v1+1;v0=v1+-1;v0=v1-1;v0=v1--1;leave;", 0, 1, 2, 3);
        sumOf("b0:v0=v15+t0;v0=v15+t1;v0=t0+v15;leave;", 0, 1, 2);
        // Another NAME that is given it, or a KILL between, makes no other SUM.
        sumOf("b0:v0=v1+v2;v1=v1+v2;t5=v1+v2;leave;", 0, 0, 0);
    }

    /** numbered from 0 on as they first stand, by NODES. */
    private static void sumsAsTheyFirstStand() {
        sumOf("b0:go b2;b1:v0=v1+1;v0=v1+2;leave;b2:v0=v1+3;v0=v1+1;go b1;", -1, 0, 1, -1, 2, 0);
    }

    /** A SUM with / or a ROW is BOLD. */
    private static void boldOnes() {
        LateAndEarly x = Check.with("b0:v0=v1/v2;v0=r0[1];v0=r1[v1];v0=v1+v2;v0=v1-v2;v0=v1*v2;v0=v1&v2;"
            + "v0=v1^v2;v0=6/3;leave;");
        int[] want = {1, 1, 1, 0, 0, 0, 0, 0, 1};
        for (int e = 0; e < want.length; e++) {
            Check.due("BOLD " + e, x.sum(0, e, 3), want[e]);
        }
    }

    /** 9: the number (NUMBERS above 999 or below -999 are told as 999, -999). */
    private static void numbersTold() {
        String[] numbers = {"0", "1", "-1", "998", "999", "1000", "1001", "-998", "-999", "-1000", "-1001",
            "1015", "2000", "2031", "999999999", "-999999999"};
        int[] told = {0, 1, -1, 998, 999, 999, 999, -998, -999, -999, -999, 999, 999, 999, 999, -999};
        for (int i = 0; i < numbers.length; i++) {
            LateAndEarly x = Check.with("b0:v0=" + numbers[i] + "+v1;v0=v1+" + numbers[i] + ";v0=r1["
                + numbers[i] + "];leave;");
            Check.due("first " + numbers[i], x.sum(0, 0, 1), told[i]);
            Check.due("second " + numbers[i], x.sum(0, 1, 2), told[i]);
            Check.due("ROW of " + numbers[i], x.sum(0, 2, 1), 1);
            Check.due("in brackets " + numbers[i], x.sum(0, 2, 2), told[i]);
        }
    }

    /** 9: 1000 and k for vk, 2000 and k for tk; of a ROW 0 or 1. */
    private static void namesTold() {
        int[] ks = {0, 1, 9, 10, 15};
        for (int k : ks) {
            LateAndEarly x = Check.with("b0:v0=v" + k + "*t" + k + ";v0=r0[v" + k + "];v0=r0[t" + k + "];leave;");
            Check.due("v" + k, x.sum(0, 0, 1), 1000 + k);
            Check.due("t" + k, x.sum(0, 0, 2), 2000 + k);
            Check.due("r0", x.sum(0, 1, 1), 0);
            Check.due("[v" + k + "]", x.sum(0, 1, 2), 1000 + k);
            Check.due("[t" + k + "]", x.sum(0, 2, 2), 2000 + k);
        }
        LateAndEarly x = Check.with("b0:v0=t16/t31;leave;");
        Check.due("t16", x.sum(0, 0, 1), 2016);
        Check.due("t31", x.sum(0, 0, 2), 2031);
    }

    /** 9: what 0 .. 4; 4 how many NODES WORK it. NONE. */
    private static void sumHasFive() {
        LateAndEarly x = Check.with("b0:v1=r1[v3];if v0<1 b1 b1;b1:v3=r1[v3];v2=v1-4;v1=r1[v3];leave;");
        int[][] want = {{'r', 1, 1003, 1, 3}, {'-', 1001, 4, 0, 1}};
        for (int e = 0; e < 2; e++) {
            for (int what = 0; what < 5; what++) {
                Check.due("sum " + e + " what " + what, x.sum(0, e, what), want[e][what]);
            }
        }
        Check.due("sum what 5", x.sum(0, 0, 5), -1);
        Check.due("sum what -1", x.sum(0, 0, -1), -1);
        Check.due("sum of place 4", x.sum(4, 0, 0), -1);
        Check.due("sum of place -1", x.sum(-1, 0, 0), -1);
        Check.due("sum of no ROUTINE", x.sum(1, 0, 0), -1);
        for (int far : FAR) {
            Check.due("sum what " + far, x.sum(0, 0, far), -1);
            Check.due("sum of place " + far, x.sum(far, 0, 0), -1);
        }
    }

    /** 9, 10: NONE: there is no such SUM. */
    private static void sumsHaveAnEnd() {
        LateAndEarly x = Check.with("b0:v1=v2+v3;v1=v2-v3;leave;");
        Check.due("sum 1", x.sum(0, 1, 0), '-');
        Check.due("at of sum 1", x.at(0, 1, 1, 0), 1);
        int[] none = {2, -1, 3, 31, 32, 33, -32, Integer.MIN_VALUE, Integer.MAX_VALUE};
        for (int e : none) {
            Check.due("sum " + e, x.sum(0, e, 0), -1);
            Check.due("at of sum " + e, x.at(0, e, 1, 0), -1);
        }
    }

    /** They are at most 32: the last one is like the others. */
    private static void lastOf32Sums() {
        StringBuilder text = new StringBuilder("b0:");
        for (int e = 0; e < 32; e++) {
            text.append("v0=v1^").append(e).append(";");
        }
        LateAndEarly stores = Check.with(text.toString().replace("v1^31", "r1[v1]") + "r1[2]=1;r0[2]=1;leave;");
        Check.due("KILLS of r1[v1], the last one", Check.at(stores, 31, 1), "0".repeat(32) + "100");
        Check.due("KILLS of the one ahead", Check.at(stores, 30, 1), "0".repeat(35));
        LateAndEarly x = Check.with(text + "v1=v1^31;leave;");
        Check.due("SUMS", x.about(0, 2), 32);
        Check.due("sum 31", x.sum(0, 31, 2), 31);
        Check.due("no SUM 32", x.sum(0, 32, 2), -1);
        Check.due("NODES that WORK it", x.sum(0, 31, 4), 2);
        String no = "0".repeat(31);
        facts(x, 31, no + "110", no + "010", "1".repeat(33) + "0", no + "010", "1" + no + "00");
        facts(x, 30, "0".repeat(30) + "1000", no + "010");
        facts(x, 0, "1" + no + "00", no + "010", "1" + no + "00", "0" + "1".repeat(32) + "0", "1" + no + "00");
    }

    /** 10: what 0 .. 7. NONE. */
    private static void atHasEight() {
        LateAndEarly x = Check.with("b0:v1=v1+v3;leave;");
        int[] want = {1, 1, 1, 0, 1, 1, 1, 1};
        for (int what = 0; what < 8; what++) {
            Check.due("at " + what, x.at(0, 0, 0, what), want[what]);
        }
        Check.due("at what 8", x.at(0, 0, 0, 8), -1);
        Check.due("at what -1", x.at(0, 0, 0, -1), -1);
        Check.due("at of place 4", x.at(4, 0, 0, 0), -1);
        Check.due("at of place -1", x.at(-1, 0, 0, 0), -1);
        Check.due("at of no ROUTINE", x.at(1, 0, 0, 0), -1);
        for (int far : FAR) {
            Check.due("at what " + far, x.at(0, 0, 0, far), -1);
            Check.due("at of place " + far, x.at(far, 0, 0, 0), -1);
        }
    }

    /** NAME = sum WORKS the SUM, then it KILLS all SUMS that have the NAME as an operand. */
    private static void worksThenKills() {
        LateAndEarly x = Check.with("b0:v1=v1+v2;v3=v1+v2;leave;");
        facts(x, 0, "110", "100", "110", "001", "110", "110", "110", "111");
        LateAndEarly y = Check.with("b0:v1=v3+v2;v1=v3+v2;leave;");
        facts(y, 0, "110", "000", "110", "011", "100", "100", "100", "011");
    }

    /** so does NAME = operand. ROW [ .. ] = .. KILLS all SUMS of that ROW. */
    private static void killsOfNamesAndRows() {
        LateAndEarly x = Check.with("b0:v0=v1+v1;v0=t1-v11;v0=r0[v1];v0=1*1;v0=r1[1];v0=r0[7];v1=0;v1=v1;t1=0;"
            + "v11=1;r0[v1]=1;r1[t1]=v1;tell v1;leave;");
        String[] kills = {"00000011000000", "00000000110000", "00000011001000", "00000000000000",
            "00000000000100", "00000000001000"};
        for (int e = 0; e < kills.length; e++) {
            Check.due("KILLS of SUM " + e, Check.at(x, e, 1), kills[e]);
            Check.due("WORKS of SUM " + e, Check.at(x, e, 0), "0".repeat(e) + "1" + "0".repeat(13 - e));
        }
        LateAndEarly rows = Check.with("b0:v2=r1[3];v3=r0[v1];r1[5]=1;r0[5]=1;leave;");
        Check.due("KILLS of r1[3]", Check.at(rows, 0, 1), "00100");
        Check.due("KILLS of r0[v1]", Check.at(rows, 1, 1), "00010");
        // The first and the last NAMES.
        LateAndEarly y = Check.with("b0:v9=v0+v15;v9=t0+t31;v0=1;v15=1;t0=1;t31=1;leave;");
        Check.due("KILLS of v0 + v15", Check.at(y, 0, 1), "0011000");
        Check.due("KILLS of t0 + t31", Check.at(y, 1, 1), "0000110");
    }

    /** A tell, an end and a NODE ON THE WAY KILL none, nor does one that only has the NAME. */
    private static void killsOfNothing() {
        LateAndEarly x = Check.with("b0:v3=v1+v2;tell v1;v4=v1;r0[v1]=v2;v5=v1*v2;if v1<v2 b1 b2;b1:go b2;"
            + "b2:leave;");
        facts(x, 0, "100000000", "000000000");
        Check.due("THERE behind them", Check.at(x, 0, 3), "011111111");
    }

    /** A NODE is SEEN if it is a tell, a ROW [ .. ] = .., or WORKS a BOLD SUM. */
    private static void seenStopsBoldOnesOnly() {
        String[] seen = {"tell 1;", "r0[5]=1;", "v9=1/1;", "v9=r0[5];", "v9=r1[5];"};
        String[] unseen = {"v9=1;", "v9=v8;", "v9=1+1;", "v9=1*1;", "go b1;b1:", "if v9<1 b1 b1;b1:"};
        for (String s : seen) {
            wantedBehind(s, "v3=v1/v2;", 0);
            wantedBehind(s, "v3=r1[v1];", 0);
            wantedBehind(s, "v3=v1+v2;", 1);
            wantedBehind(s, "v3=v1^v2;", 1);
        }
        for (String s : unseen) {
            wantedBehind(s, "v3=v1/v2;", 1);
            wantedBehind(s, "v3=r1[v1];", 1);
            wantedBehind(s, "v3=v1+v2;", 1);
        }
    }

    private static void wantedBehind(String between, String sum, int want) {
        LateAndEarly x = Check.with("b0:v8=4;" + between + sum + "leave;");
        Check.due("WANTED ahead of " + between + sum, x.at(0, x.about(0, 2) - 1, 0, 2), want);
        Check.due("WANTED at " + between + " with " + sum, x.at(0, x.about(0, 2) - 1, 1, 2), want);
    }

    /** WANTED: it is WORKED there, SEEN or KILLED though the NODE is; no leave is. */
    private static void workedThereIsWanted() {
        facts(Check.with("b0:v1=v1/v2;leave;"), 0, "10", "10", "10", "00", "10", "10", "10", "11");
        facts(Check.with("b0:v1=r0[v1];v1=r0[v1];leave;"), 0, "110", "110", "110", "000", "110", "110", "110",
            "111");
        facts(Check.with("b0:v3=v1+v2;leave;"), 0, "10", "00", "10", "01");
    }

    /** all NODES to which it leads are WANTED. */
    private static void wantedByAllWays() {
        String[] texts = {"b0:if v0<1 b1 b2;b1:v3=v1+v2;leave;b2:leave;",
            "b0:if v0<1 b2 b1;b1:v3=v1+v2;leave;b2:leave;",
            "b0:if v0<1 b2 b1;b1:v3=v1+v2;leave;b2:v3=v1+v2;leave;",
            "b0:if v0<1 b2 b1;b1:v3=v1+v2;leave;b2:v1=v1+v2;leave;",
            "b0:if v0<1 b2 b1;b1:v3=v1+v2;leave;b2:v1=1;v1=v1+v2;leave;"};
        int[] want = {0, 0, 1, 1, 0};
        for (int i = 0; i < texts.length; i++) {
            Check.due("WANTED at NODE 0 of " + texts[i], Check.with(texts[i]).at(0, 0, 0, 2), want[i]);
        }
    }

    /** (of several sets the greatest each): WANTED, DELAYED and ALONE in a loop. */
    private static void greatestWanted() {
        LateAndEarly x = Check.with("b0:v9=0;go b1;b1:if v0<1 b1 b2;b2:v3=v1+v2;leave;");
        Check.due("NODES", x.about(0, 1), 6);
        facts(x, 0, "000100", "000000", "111101", "000010", "100000", "111101", "000100", "111111");
    }

    /** THERE: it is not the FIRST one. */
    private static void notThereAtTheFirst() {
        facts(Check.with("b0:tell 1;tell 2;v3=v1+v2;leave;"), 0, "0010", "0000", "1110", "0001");
        facts(Check.with("b0:v3=v1+v2;tell 1;leave;"), 0, "100", "000", "100", "011");
    }

    /** THERE: each NODE that leads to it does not KILL it, and WORKS it or is THERE. */
    private static void thereByAll() {
        String loop = "b0:if v0<1 b1 b2;b1:#go b3;b2:@go b3;b3:leave;";
        String[] ones = {"v3=v1+v2;", "tell 1;", "v1=v1+v2;", "v3=v1+v2;v2=1;", "v3=v1+v2;tell 1;"};
        int[] has = {1, 0, 0, 0, 1};
        for (int i = 0; i < ones.length; i++) {
            for (int k = 0; k < ones.length; k++) {
                if (i + k > 2 || i == 0 || k == 0) {
                    LateAndEarly x = Check.with(loop.replace("#", ones[i]).replace("@", ones[k]));
                    Check.due("THERE behind " + ones[i] + " and " + ones[k],
                        x.at(0, 0, x.about(0, 1) - 1, 3), has[i] * has[k]);
                }
            }
        }
    }

    /** THERE in a loop that does not WORK it: the greatest set. */
    private static void greatestThere() {
        LateAndEarly x = Check.with("b0:v3=v1+v2;go b1;b1:tell v0;if v0<1 b1 b2;b2:v4=v1+v2;leave;");
        Check.due("NODES", x.about(0, 1), 7);
        facts(x, 0, "1000100", "0000000", "1111101", "0111111", "1000000", "1000000", "1000000", "0000110");
    }

    /** EARLY: WANTED, and .. some NODE that leads to it KILLS it. */
    private static void earlyBehindAKill() {
        LateAndEarly x = Check.with("b0:v3=v1+v2;v1=5;tell 1;v4=v1+v2;leave;");
        facts(x, 0, "10010", "01000", "10110", "01001", "10100", "10110", "10010", "11111");
    }

    /** or is neither THERE nor WANTED: THERE alone, or WANTED alone, keeps it from being EARLY. */
    private static void neitherThereNorWanted() {
        facts(Check.with("b0:if v0<1 b1 b2;b1:v3=v1+v2;leave;b2:leave;"), 0, "0100", "0000", "0100", "0010",
            "0100", "0100", "0100", "1111");
        facts(Check.with("b0:v4=v1+v2;if v0<1 b1 b2;b1:v3=v1+v2;leave;b2:leave;"), 0, "10100", "00000", "10100",
            "01111", "10000", "10000", "10000", "00111");
        facts(Check.with("b0:tell 1;tell 2;v3=v1+v2;leave;"), 0, "0010", "0000", "1110", "0001", "1000", "1110",
            "0010", "1111");
    }

    /** DELAYED: all NODES that lead to it are DELAYED and do not WORK it. */
    private static void delayedUpToAWork() {
        LateAndEarly x = Check.with("b0:if v0<1 b1 b2;b1:v3=v1+v2;go b3;b2:tell 1;go b3;b3:tell 2;v4=v1+v2;leave;");
        Check.due("NODES", x.about(0, 1), 8);
        facts(x, 0, "01000010", "00000000", "11111110", "00100001", "10000000", "11011000", "01001000",
            "10010011");
    }

    /** LATEST: not all NODES to which it leads are DELAYED; also a NODE ON THE WAY. */
    private static void latestOnAWay() {
        LateAndEarly x = Check.with("b0:if v0<1 b1 b2;b1:v3=v1+v2;go b2;b2:v4=v1+v2;leave;");
        Check.due("NODES", x.about(0, 1), 6);
        facts(x, 0, "010100", "000000", "111101", "001010", "100000", "110001", "010001", "100110");
    }

    /** ALONE: each NODE to which it leads: where there is none, it is. */
    private static void aloneAtALeave() {
        facts(Check.with("b0:v3=v1+v2;leave;"), 0, "10", "00", "10", "01", "10", "10", "10", "11");
        facts(Check.with("b0:v3=v1+v2;v3=v1+v2;leave;"), 0, "110", "000", "110", "011", "100", "100", "100",
            "011");
    }

    /** each one by itself, LATEST, or does not WORK it and is ALONE. */
    private static void aloneByEachWay() {
        // One way works it again, the other one does not.
        facts(Check.with("b0:v3=v1+v2;if v0<1 b1 b2;b1:v4=v1+v2;leave;b2:tell 1;leave;"), 0, "101000", "000000",
            "101000", "011111", "100000", "100000", "100000", "001111");
        facts(Check.with("b0:v3=v1+v2;if v0<1 b2 b1;b1:v4=v1+v2;leave;b2:tell 1;leave;"), 0, "101000", "000000",
            "101000", "011111", "100000", "100000", "100000", "001111");
        // One is LATEST, the other one does not work it.
        facts(Check.with("b0:tell 1;if v0<1 b1 b2;b1:v4=v1+v2;leave;b2:tell 1;leave;"), 0, "001000", "000000",
            "001000", "000100", "001000", "001000", "001000", "111111");
    }

    /** The sets are the greatest ones, however the NODES are numbered. */
    private static void roundsAgainstTheNumbers() {
        LateAndEarly x = Check.with("b0:go b3;b1:tell v0;tell v0;leave;b2:if v0<1 b1 b4;b3:if v0<2 b2 b5;"
            + "b4:v3=v1+v2;leave;b5:v4=v1+v2;leave;");
        Check.due("NODES", x.about(0, 1), 10);
        facts(x, 0, "0000001010", "0000000000", "0000001010", "0000000101", "0000001010", "0000001010",
            "0000001010", "1111111111");
        StringBuilder back = new StringBuilder("b0:v3=v1+v2;go b39;b1:v4=v1+v2;leave;");
        StringBuilder lost = new StringBuilder("b0:v1=v1+v2;go b39;b1:v4=v1+v2;leave;");
        for (int b = 2; b < 40; b++) {
            back.append("b" + b + ":go b" + (b - 1) + ";");
            lost.append("b" + b + ":go b" + (b - 1) + ";");
        }
        LateAndEarly y = Check.with(back.toString());
        facts(y, 0, "1010" + "0".repeat(38), "0".repeat(42), "1110" + "1".repeat(38), "0111" + "1".repeat(38),
            "1" + "0".repeat(41), "1" + "0".repeat(41), "1" + "0".repeat(41), "0011" + "0".repeat(38));
        LateAndEarly z = Check.with(lost.toString());
        facts(z, 0, "1010" + "0".repeat(38), "1" + "0".repeat(41), "1110" + "1".repeat(38), "0001" + "0".repeat(38),
            "11" + "0".repeat(40), "1110" + "1".repeat(38), "1010" + "0".repeat(38), "1".repeat(42));
    }

    /** 5: the ROUTINE at place p: whatever was at the place before, all is that of the new one. */
    private static void placesUsedAgain() {
        StringBuilder large = new StringBuilder();
        for (int b = 0; b < 40; b++) {
            large.append("b" + b + ":v9=v1+v2;t5=v1/v2;v1=r0[v1];");
            large.append(b == 39 ? "leave;" : "if v0<v1 b" + (b + 1) + " b" + Math.max(1, b) + ";");
        }
        String[] texts = {"b0:leave;", "b0:v3=v1+v2;v4=v1+v2;go b1;b1:tell v0;if v0<1 b1 b2;b2:leave;",
            "b0:v3=v1+v2;go b1;b1:tell v0;if v0<1 b1 b2;b2:v4=v1+v2;leave;",
            "b0:if v0<1 b1 b2;b1:v3=v1+v2;leave;b2:leave;", "b0:r0[v1]=1;tell t5;v2=r0[v1];leave;"};
        for (String text : texts) {
            String want = all(Check.with(text));
            for (String other : new String[] {large.toString(), texts[1], texts[2], texts[4], "b0:v1=t1*2;leave"}) {
                LateAndEarly x = new LateAndEarly();
                Check.parse(x, 0, other);
                x.step(0, 0);
                Check.parse(x, 0, texts[0]);
                Check.parse(x, 0, text);
                Check.due("all of " + text, all(x), want);
            }
        }
    }

    private static String all(LateAndEarly x) {
        StringBuilder all = new StringBuilder();
        for (int what = 0; what < 8; what++) {
            all.append(Check.at(x, 0, what)).append(' ');
        }
        for (int placing = 0; placing < 3; placing++) {
            all.append(Check.placed(x, placing, 0, 2)).append(' ').append(x.life(0, placing, 0)).append(' ');
            all.append(x.places(0, placing, 0, 0)).append(' ').append(x.places(0, placing, 0, 1)).append(' ');
            all.append(x.works(0, placing, 0)).append(' ').append(x.write(0, placing)).append(' ');
        }
        for (int n = 0; n < x.about(0, 1); n++) {
            all.append(x.node(0, n, 2)).append(x.node(0, n, 3)).append(x.node(0, n, 4)).append(x.node(0, n, 5));
        }
        return all.append(x.home(0)).append(' ').append(x.sum(0, 0, 4)).toString();
    }
}
