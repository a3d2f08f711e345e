/** The edges of a WAY in the third part of the Terms, and promises 21 to 23, a sentence a method. */
public final class EdgeWayTest {
    private static final int[] FAR = {Integer.MIN_VALUE, -1000, -2, 5, 40, 41, 64, 256, 1000, Integer.MAX_VALUE};
    private static final String LOOP = "b0:v4=v1+v2;go b1;b1:v3=v1+v2;v1=v5;if v0<1 b1 b2;b2:v6=v1+v2;leave;";

    public static void main(String[] args) {
        theFirstIsB0();
        eachLeadsToTheNext();
        noBlockSuch();
        blockOfTheNumber39();
        behindALeave();
        sixtyBlocks();
        refusedStepsInOrder();
        emptyWhenARoutineComes();
        staysOtherwise();
        eachPlaceItsOwn();
        homeTellsHowMany();
        noPlaceSuch();
        nothingOnAnEmptyWay();
        allNodesOfItsBlocks();
        onTheWayBetweenThem();
        laterNodesOnTheWay();
        bothWaysByTheFirst();
        sixtyTimes();
        refusedSumsAreNotItsBusiness();
        worksOfNoSum();
        Check.end("EdgeWayTest");
    }

    private static void steps(LateAndEarly x, int... blocks) {
        x.home(0);
        for (int i = 0; i < blocks.length; i++) {
            Check.due("step to " + blocks[i], x.step(0, blocks[i]), i + 1);
        }
    }

    private static void works(LateAndEarly x, int... want) {
        for (int placing = 0; placing < 3; placing++) {
            Check.due("works with " + placing, x.works(0, placing, 0), want[placing]);
        }
    }

    /** 21: BAD: (the first one: it is not b0). */
    private static void theFirstIsB0() {
        LateAndEarly x = Check.with(LOOP);
        Check.due("b1 first", x.step(0, 1), -2);
        Check.due("b2 first", x.step(0, 2), -2);
        Check.due("none of it", x.home(0), 0);
        Check.due("b0 first", x.step(0, 0), 1);
        Check.due("b0 behind b0", x.step(0, 0), -2);
        Check.due("one of it", x.home(0), 1);
        Check.due("b1 first again", x.step(0, 1), -2);
        Check.due("b0 first again", x.step(0, 0), 1);
    }

    /** each leading to the next one. 21: BAD: no way leads there. */
    private static void eachLeadsToTheNext() {
        LateAndEarly x = Check.with("b0:if v0<1 b1 b2;b1:go b3;b2:if v0<2 b2 b4;b3:leave;b4:go b3;");
        boolean[][] leads = {{false, true, true, false, false}, {false, false, false, true, false},
            {false, false, true, false, true}, {false, false, false, false, false},
            {false, false, false, true, false}};
        int[][] to = {{0}, {0, 1}, {0, 2}, {0, 1, 3}, {0, 2, 4}};
        for (int b = 0; b < 5; b++) {
            for (int next = 0; next < 5; next++) {
                steps(x, to[b]);
                int had = to[b].length;
                Check.due("b" + next + " behind b" + b, x.step(0, next), leads[b][next] ? had + 1 : -2);
                Check.due("blocks", x.home(0), leads[b][next] ? had + 1 : had);
            }
        }
    }

    /** 21: NONE (no such block, too). */
    private static void noBlockSuch() {
        LateAndEarly x = Check.with(LOOP);
        for (int i = 0; i < 2; i++) {
            Check.due("b3", x.step(0, 3), -1);
            Check.due("b-1", x.step(0, -1), -1);
            for (int b : FAR) {
                Check.due("b" + b, x.step(0, b), -1);
            }
            Check.due("blocks", x.home(0), i);
            steps(x, 0);
        }
        LateAndEarly y = Check.with("b0:leave;");
        Check.due("b1", y.step(0, 1), -1);
        Check.due("b0", y.step(0, 0), 1);
    }

    /** 21: NONE (no such block): b39 of 40, and no b40. */
    private static void blockOfTheNumber39() {
        StringBuilder text = new StringBuilder("b0:if v0<1 b39 b1;");
        for (int b = 1; b < 39; b++) {
            text.append("b" + b + ":go b" + (b + 1) + ";");
        }
        LateAndEarly x = Check.with(text + "b39:v1=v2+v3;leave;");
        steps(x, 0, 39);
        works(x, 1, 1, 1);
        Check.due("b40", x.step(0, 40), -1);
        x.home(0);
        for (int b = 0; b < 40; b++) {
            Check.due("step to " + b, x.step(0, b), b + 1);
        }
        Check.due("b39 behind it", x.step(0, 39), -2);
        works(x, 1, 1, 1);
    }

    /** 21: BAD: no way leads there: none does from a leave. */
    private static void behindALeave() {
        LateAndEarly x = Check.with(LOOP);
        steps(x, 0, 1, 2);
        for (int b = 0; b < 3; b++) {
            Check.due("behind a leave", x.step(0, b), -2);
        }
        Check.due("behind a leave", x.step(0, 3), -1);
        Check.due("blocks", x.home(0), 3);
    }

    private static LateAndEarly withSixty() {
        LateAndEarly x = Check.with(LOOP);
        Check.due("step 1", x.step(0, 0), 1);
        for (int i = 2; i <= 60; i++) {
            Check.due("step " + i, x.step(0, 1), i);
        }
        return x;
    }

    /** 21: FULL: 60. */
    private static void sixtyBlocks() {
        LateAndEarly x = withSixty();
        Check.due("the 61st", x.step(0, 1), -3);
        Check.due("the 61st, by the other way", x.step(0, 2), -3);
        works(x, 60, 60, 59);
        Check.due("blocks", x.home(0), 60);
        Check.due("b0", x.step(0, 0), 1);
        LateAndEarly y = Check.with(LOOP);
        y.step(0, 0);
        for (int i = 2; i < 60; i++) {
            y.step(0, 1);
        }
        Check.due("the 60th, the last one", y.step(0, 2), 60);
        Check.due("behind it", y.step(0, 1), -2);
        works(y, 60, 59, 59);
    }

    /** REFUSALS, of several the first one that the act tells: NONE, BAD, FULL. */
    private static void refusedStepsInOrder() {
        LateAndEarly x = withSixty();
        Check.due("no such block", x.step(0, 3), -1);
        Check.due("no such block", x.step(0, -1), -1);
        Check.due("no such place", x.step(4, 1), -1);
        Check.due("no way there", x.step(0, 0), -2);
        Check.due("full", x.step(0, 1), -3);
        Check.due("blocks", x.home(0), 60);
    }

    /** 21: (THE WAY of a place is empty when a ROUTINE comes there.) */
    private static void emptyWhenARoutineComes() {
        LateAndEarly x = Check.with(LOOP);
        steps(x, 0, 1, 1);
        Check.due("parse", Check.parse(x, 0, LOOP), 8);
        works(x, 0, 0, 0);
        Check.due("b1 first", x.step(0, 1), -2);
        Check.due("blocks", x.home(0), 0);
        steps(x, 0, 1, 1);
        x.write(0, 0);
        Check.due("parse of the written one", x.parse(0), 8);
        Check.due("blocks", x.home(0), 0);
        LateAndEarly y = withSixty();
        Check.parse(y, 0, "b0:leave;");
        Check.due("blocks", y.home(0), 0);
        Check.due("b0", y.step(0, 0), 1);
        Check.due("b0 again", y.step(0, 0), -2);
    }

    /** It stays where no ROUTINE comes there. */
    private static void staysOtherwise() {
        LateAndEarly x = Check.with(LOOP);
        steps(x, 0, 1);
        Check.parse(x, 0, "b0:leave");
        Check.parse(x, 0, "");
        Check.parse(x, 4, LOOP);
        Check.parse(x, 1, LOOP);
        StringBuilder sums = new StringBuilder("b0:");
        for (int e = 0; e < 33; e++) {
            sums.append("v0=v1+" + e + ";");
        }
        Check.due("33 SUMS", Check.parse(x, 0, sums + "leave;"), -3);
        x.run(0, 2);
        x.write(0, 2);
        x.cut(0);
        Check.due("b2", x.step(0, 2), 3);
        works(x, 3, 2, 2);
        Check.due("blocks", x.home(0), 3);
        Check.due("blocks of place 1", x.home(1), 0);
    }

    /** 21: behind THE WAY of place p's ROUTINE. */
    private static void eachPlaceItsOwn() {
        LateAndEarly x = new LateAndEarly();
        for (int p = 0; p < 4; p++) {
            Check.parse(x, p, LOOP);
        }
        for (int p = 0; p < 4; p++) {
            for (int i = 0; i <= p; i++) {
                Check.due("step of " + p, x.step(p, i == 0 ? 0 : 1), i + 1);
            }
        }
        for (int p = 0; p < 4; p++) {
            Check.due("works of " + p, x.works(p, 0, 0), p + 1);
        }
        for (int p = 3; p >= 0; p--) {
            Check.due("home of " + p, x.home(p), p + 1);
            Check.due("home of " + p + " again", x.home(p), 0);
        }
    }

    /** 22: THE WAY is empty: how many blocks it had. */
    private static void homeTellsHowMany() {
        LateAndEarly x = Check.with(LOOP);
        Check.due("home of none", x.home(0), 0);
        for (int count = 1; count < 5; count++) {
            x.step(0, 0);
            for (int i = 1; i < count; i++) {
                x.step(0, 1);
            }
            works(x, count, count, Math.max(1, count - 1));
            Check.due("home", x.home(0), count);
            works(x, 0, 0, 0);
            Check.due("home again", x.home(0), 0);
        }
        LateAndEarly y = withSixty();
        Check.due("home of 60", y.home(0), 60);
        Check.due("home again", y.home(0), 0);
    }

    /** 21 to 23: NONE: no such place, ROUTINE. */
    private static void noPlaceSuch() {
        LateAndEarly x = new LateAndEarly();
        Check.parse(x, 3, LOOP);
        Check.due("step", x.step(3, 0), 1);
        for (int p : new int[] {0, 1, 2, 4, -1}) {
            Check.due("step of place " + p, x.step(p, 0), -1);
            Check.due("home of place " + p, x.home(p), -1);
            Check.due("works of place " + p, x.works(p, 0, 0), -1);
        }
        for (int p : FAR) {
            Check.due("step of place " + p, x.step(p, 0), -1);
            Check.due("home of place " + p, x.home(p), -1);
            Check.due("works of place " + p, x.works(p, 0, 0), -1);
        }
        Check.due("blocks", x.home(3), 1);
    }

    /** 23: on an empty WAY no SUM is WORKED. */
    private static void nothingOnAnEmptyWay() {
        works(Check.with(LOOP), 0, 0, 0);
        LateAndEarly x = Check.with(LOOP);
        steps(x, 0);
        x.home(0);
        works(x, 0, 0, 0);
    }

    /** going through all NODES of its blocks. */
    private static void allNodesOfItsBlocks() {
        LateAndEarly x = Check.with(LOOP);
        steps(x, 0);
        works(x, 1, 1, 1);
        steps(x, 0, 1);
        works(x, 2, 2, 1);
        steps(x, 0, 1, 2);
        works(x, 3, 2, 2);
        LateAndEarly y = Check.with("b0:v3=v1+v2;v1=v1+v2;v3=v1+v2;v1=v1+v2;leave;");
        steps(y, 0);
        works(y, 4, 2, 2);
    }

    /** and those ON THE WAY between them: not that behind the last block. */
    private static void onTheWayBetweenThem() {
        LateAndEarly x = Check.with("b0:if v0<1 b1 b2;b1:v1=8/v2;go b2;b2:v3=8/v2;leave;");
        Check.due("SET on the way", x.placed(0, 2, 0, 5, 0), 1);
        steps(x, 0);
        works(x, 0, 1, 0);
        steps(x, 0, 2);
        works(x, 1, 1, 1);
        steps(x, 0, 1);
        works(x, 1, 1, 1);
        steps(x, 0, 1, 2);
        works(x, 2, 1, 1);
    }

    /** NODES ON THE WAY behind the first one of them, too. */
    private static void laterNodesOnTheWay() {
        LateAndEarly x = Check.with("b0:v9=1;if v0<1 b1 b2;b1:v3=v1+v2;go b4;b2:if v0<3 b3 b4;b3:if v0<4 b5 b4;"
            + "b4:v4=v1+v2;leave;b5:leave;");
        Check.due("NODES ON THE WAY", x.about(0, 3), 2);
        Check.due("SET on the first", x.placed(0, 2, 0, 9, 0), 1);
        Check.due("SET on the second", x.placed(0, 2, 0, 10, 0), 1);
        steps(x, 0, 2, 4);
        works(x, 1, 1, 1);
        steps(x, 0, 2, 3, 4);
        works(x, 1, 1, 1);
        steps(x, 0, 2, 3, 5);
        works(x, 0, 0, 0);
        steps(x, 0, 1, 4);
        works(x, 2, 1, 1);
    }

    /** 23: (Where an if leads to a block by both ways: by its first one.) */
    private static void bothWaysByTheFirst() {
        LateAndEarly x = Check.with("b0:if v0<1 b1 b2;b1:v3=v1+v2;go b3;b2:if v5<1 b3 b3;b3:v4=v1+v2;leave;");
        Check.due("NODES ON THE WAY", x.about(0, 3), 2);
        Check.due("SET on the first", x.placed(0, 2, 0, x.node(0, 3, 3), 0), 1);
        Check.due("SET on the second", x.placed(0, 2, 0, x.node(0, 3, 4), 0), 1);
        steps(x, 0, 2, 3);
        // By one of them alone.
        works(x, 1, 1, 1);
    }

    /** WORKED on it, as often as each block stands in it, up to 60. */
    private static void sixtyTimes() {
        LateAndEarly x = Check.with("b0:go b1;b1:v3=v1+v2;v1=v1+v2;v3=v1+v2;if v0<1 b1 b2;b2:leave;");
        steps(x, 0);
        for (int i = 1; i < 60; i++) {
            x.step(0, 1);
        }
        // SET at the go, and in each round behind the KILL.
        works(x, 3 * 59, 60, 60);
    }

    /** A WAY is no RUN: what a RUN refuses is counted there as all others. */
    private static void refusedSumsAreNotItsBusiness() {
        LateAndEarly x = Check.with("b0:v1=1/0;v2=1/0;r0[9]=1;v3=r0[9];go b1;b1:v4=1/0;leave;");
        steps(x, 0, 1);
        works(x, 3, 1, 1);
        Check.due("of the ROW", x.works(0, 0, 1), 1);
        Check.due("RUN", x.run(0, 0), 1);
        Check.due("worked", x.worked(0), 1);
    }

    /** 23: NONE: no such PLACING, SUM. */
    private static void worksOfNoSum() {
        LateAndEarly x = Check.with("b0:v1=v2+v3;v1=v2*v3;leave;");
        steps(x, 0);
        works(x, 1, 1, 1);
        Check.due("SUM 1", x.works(0, 0, 1), 1);
        for (int e : new int[] {2, -1, 31, 32, Integer.MIN_VALUE, Integer.MAX_VALUE}) {
            Check.due("SUM " + e, x.works(0, 0, e), -1);
        }
        for (int placing : new int[] {3, -1, 4, Integer.MIN_VALUE, Integer.MAX_VALUE}) {
            Check.due("PLACING " + placing, x.works(0, placing, 0), -1);
        }
        LateAndEarly y = Check.with("b0:leave;");
        Check.due("no SUM at all", y.works(0, 0, 0), -1);
    }
}
