/** The edges of a RUN in the third part of the Terms, and promises 14 to 20, a sentence a method. */
public final class EdgeRunTest {
    private static final int LEAST = Integer.MIN_VALUE, MOST = Integer.MAX_VALUE;
    private static final int[] FAR = {LEAST, -1000, -2, 100, 101, 255, 256, 1000, MOST};

    public static void main(String[] args) {
        namesAsTold();
        namesAre48();
        namesOfAnyNumber();
        runsBeginAnew();
        rowsAreAllZero();
        rowsHaveEightPlaces();
        numbersWrap();
        divisionCutsTowardsZero();
        divisionByZero();
        lessThan();
        placesOfRows();
        refusedLeavesTheName();
        refusedAtItsNode();
        refusedOnTheWay();
        setByNumbers();
        takenIsWhatWasSet();
        keptIsNoName();
        endsAtALeave();
        spentAheadOf1001();
        spentAheadOfWhatIsSet();
        onTheWayDoesNotCount();
        onTheWayBehindTheLast();
        toldInOrder();
        toldTheFirst100();
        ranHasFive();
        runOfNoRoutine();
        refusedRunsLeaveTheLatest();
        workedOfItsRoutine();
        workedHas32();
        placesOfToldNamesAndRows();
        Check.end("EdgeRunTest");
    }

    private static void ran(LateAndEarly x, int... want) {
        for (int what = 0; what < 5; what++) {
            Check.due("ran " + what, x.ran(what), want[what]);
        }
    }

    /** A RUN begins with NAMES as told. 14: what it was. */
    private static void namesAsTold() {
        LateAndEarly x = Check.with("b0:leave;");
        for (int k = 0; k < 48; k++) {
            Check.due("name " + k, x.name(k, 100 + k), 0);
        }
        for (int k = 0; k < 48; k++) {
            Check.due("value ahead of the RUN", x.value(k), 0);
        }
        x.run(0, 0);
        for (int k = 0; k < 48; k++) {
            Check.due("value " + k, x.value(k), 100 + k);
        }
        for (int k = 0; k < 48; k++) {
            Check.due("name " + k + " again", x.name(k, -k), 100 + k);
            Check.due("value " + k + " stays", x.value(k), 100 + k);
        }
    }

    /** 14: (0 .. 15 v, 16 .. 47 t). 0 and nothing done: no such NAME. */
    private static void namesAre48() {
        LateAndEarly x = Check.with("b0:v1=v0;v2=v15;v3=t0;v4=t31;leave;");
        x.name(0, 1);
        x.name(15, 2);
        x.name(16, 3);
        x.name(47, 4);
        int[] none = {48, -1, 49, 63, 64, -16, LEAST, MOST};
        for (int k : none) {
            Check.due("name " + k, x.name(k, 9), 0);
            Check.due("name " + k + " again", x.name(k, 9), 0);
            Check.due("value " + k, x.value(k), 0);
        }
        x.run(0, 0);
        for (int k = 1; k < 5; k++) {
            Check.due("v" + k, x.value(k), k);
        }
        for (int k : none) {
            Check.due("value " + k, x.value(k), 0);
        }
        int[] all = new int[48];
        all[0] = 1;
        all[15] = 2;
        all[16] = 3;
        all[47] = 4;
        for (int k = 0; k < 48; k++) {
            Check.due("name " + k + " was", x.name(k, 0), all[k]);
        }
    }

    /** 14: with x: any int. */
    private static void namesOfAnyNumber() {
        LateAndEarly x = Check.with("b0:tell v0;leave;");
        int was = 0;
        for (int number : new int[] {LEAST, MOST, -1, 0, 1, 1000000000, -1000000000}) {
            Check.due("name 0", x.name(0, number), was);
            x.run(0, 0);
            Check.due("told", x.told(0), number);
            Check.due("value", x.value(0), number);
            was = number;
        }
    }

    /** A RUN begins with NAMES as told: not with what an earlier one left. */
    private static void runsBeginAnew() {
        LateAndEarly x = Check.with("b0:v0=v0+1;t31=t31+1;tell v0;leave;");
        for (int i = 0; i < 3; i++) {
            x.run(0, i);
            Check.due("v0 of RUN " + i, x.value(0), 1);
            Check.due("t31 of RUN " + i, x.value(47), 1);
            Check.due("told of RUN " + i, x.told(0), 1);
            ran(x, 0, 4, 1, -1, 2);
        }
        Check.due("v0 begins with", x.name(0, 0), 0);
    }

    /** ROWS r0, r1 of 8 ints, all 0. */
    private static void rowsAreAllZero() {
        LateAndEarly x = Check.with("b0:tell 0;leave;");
        Check.parse(x, 1, "b0:r0[0]=1;r0[7]=2;r1[0]=3;r1[7]=4;r0[v0]=5;leave;");
        Check.due("run", x.run(1, 0), 0);
        int[][] want = {{5, 0, 0, 0, 0, 0, 0, 2}, {3, 0, 0, 0, 0, 0, 0, 4}};
        for (int i = 0; i < 16; i++) {
            Check.due("row " + i, x.row(i / 8, i % 8), want[i / 8][i % 8]);
        }
        Check.due("run of the other", x.run(0, 0), 0);
        for (int i = 0; i < 16; i++) {
            Check.due("row " + i + " of the other", x.row(i / 8, i % 8), 0);
        }
        LateAndEarly y = Check.with("b0:v1=r0[3];v2=r1[7];r0[3]=9;r1[7]=9;leave;");
        for (int i = 0; i < 2; i++) {
            y.run(0, 0);
            Check.due("read ahead of a store", y.value(1), 0);
            Check.due("read ahead of a store", y.value(2), 0);
        }
    }

    /** a ROW has no such place (0 .. 7). */
    private static void rowsHaveEightPlaces() {
        for (int r = 0; r < 2; r++) {
            String row = "r" + r;
            for (int i = -2; i < 10; i++) {
                boolean is = i >= 0 && i < 8;
                LateAndEarly x = Check.with("b0:" + row + "[" + i + "]=4;v1=" + row + "[" + i + "];leave;");
                Check.due("store and read at " + i, x.run(0, 0), is ? 0 : 1);
                Check.due("v1", x.value(1), is ? 4 : 0);
                Check.due("NODES", x.ran(1), is ? 3 : 1);
                Check.due("WORKED", x.ran(4), is ? 1 : 0);
                LateAndEarly y = Check.with("b0:v1=" + row + "[" + i + "];leave;");
                Check.due("read at " + i, y.run(0, 0), is ? 0 : 1);
                Check.due("WORKED, also where it is REFUSED", y.worked(0), 1);
            }
        }
    }

    private static int work(String sum, int a, int b) {
        int[] got = new int[3];
        for (int placing = 0; placing < 3; placing++) {
            LateAndEarly x = Check.with("b0:v2=" + sum + ";tell v2;v2=0;v3=" + sum + ";leave;");
            x.name(0, a);
            x.name(1, b);
            Check.due("run of " + sum, x.run(0, placing), 0);
            got[placing] = x.value(3);
            Check.due("told", x.told(0), got[placing]);
        }
        Check.due("early as plain", got[1], got[0]);
        Check.due("late as plain", got[2], got[0]);
        return got[0];
    }

    /** Numbers are ints that wrap. */
    private static void numbersWrap() {
        Check.due("greatest + 0", work("v0+v1", MOST, 0), MOST);
        Check.due("greatest + 1", work("v0+v1", MOST, 1), LEAST);
        Check.due("greatest + greatest", work("v0+v1", MOST, MOST), -2);
        Check.due("least + -1", work("v0+v1", LEAST, -1), MOST);
        Check.due("least + least", work("v0+v1", LEAST, LEAST), 0);
        Check.due("least - 0", work("v0-v1", LEAST, 0), LEAST);
        Check.due("least - 1", work("v0-v1", LEAST, 1), MOST);
        Check.due("greatest - -1", work("v0-v1", MOST, -1), LEAST);
        Check.due("0 - least", work("v0-v1", 0, LEAST), LEAST);
        Check.due("0 - greatest", work("v0-v1", 0, MOST), -MOST);
        Check.due("46340 * 46340", work("v0*v1", 46340, 46340), 2147395600);
        Check.due("46341 * 46341", work("v0*v1", 46341, 46341), -2147479015);
        Check.due("65536 * 65536", work("v0*v1", 65536, 65536), 0);
        Check.due("65536 * 32768", work("v0*v1", 65536, 32768), LEAST);
        Check.due("least * -1", work("v0*v1", LEAST, -1), LEAST);
        Check.due("greatest * greatest", work("v0*v1", MOST, MOST), 1);
        Check.due("least & -1", work("v0&v1", LEAST, -1), LEAST);
        Check.due("least & greatest", work("v0&v1", LEAST, MOST), 0);
        Check.due("least ^ -1", work("v0^v1", LEAST, -1), MOST);
        Check.due("least ^ greatest", work("v0^v1", LEAST, MOST), -1);
        Check.due("999999999 * 999999999", work("999999999*999999999", 0, 0), 808348673);
        Check.due("-999999999 - 999999999", work("-999999999-999999999", 0, 0), -1999999998);
    }

    /** / cuts towards 0 (of -2147483648 by -1: itself). */
    private static void divisionCutsTowardsZero() {
        int[][] divided = {{7, 2, 3}, {-7, 2, -3}, {7, -2, -3}, {-7, -2, 3}, {1, 2, 0}, {-1, 2, 0}, {1, -2, 0},
            {0, 5, 0}, {0, -5, 0}, {6, 3, 2}, {-6, 3, -2}, {LEAST, -1, LEAST}, {LEAST, 1, LEAST},
            {LEAST, 2, -1073741824}, {LEAST, LEAST, 1}, {MOST, LEAST, 0}, {LEAST, MOST, -1}, {MOST, -1, -MOST},
            {-MOST, -1, MOST}};
        for (int[] d : divided) {
            Check.due(d[0] + " by " + d[1], work("v0/v1", d[0], d[1]), d[2]);
        }
    }

    /** 1 REFUSED: where a SUM is WORKED, / by 0. */
    private static void divisionByZero() {
        for (int a : new int[] {0, 1, -1, LEAST, MOST}) {
            for (int b : new int[] {0, 1, -1}) {
                LateAndEarly x = Check.with("b0:v2=v0/v1;leave;");
                x.name(0, a);
                x.name(1, b);
                x.name(2, 77);
                for (int placing = 0; placing < 3; placing++) {
                    Check.due(a + " by " + b, x.run(0, placing), b == 0 ? 1 : 0);
                    ran(x, b == 0 ? 1 : 0, b == 0 ? 1 : 2, 0, b == 0 ? 0 : -1, 1);
                    Check.due("v2", x.value(2), b == 0 ? 77 : a * b);
                }
            }
        }
        Check.due("by the number 0", Check.with("b0:v2=5/-0;leave;").run(0, 0), 1);
        // It is not where the way does not come to.
        Check.due("not come to", Check.with("b0:if 1<2 b1 b2;b1:leave;b2:v1=1/0;leave;").run(0, 0), 0);
    }

    /** if operand < operand BLOCK (it is so) BLOCK (it is not). */
    private static void lessThan() {
        int[] numbers = {LEAST, -1, 0, 1, MOST};
        LateAndEarly x = Check.with("b0:if v0<v1 b1 b2;b1:tell 1;leave;b2:tell 2;leave;");
        for (int i = 0; i < 5; i++) {
            for (int k = 0; k < 5; k++) {
                x.name(0, numbers[i]);
                x.name(1, numbers[k]);
                x.run(0, 0);
                Check.due(numbers[i] + " < " + numbers[k], x.told(0), i < k ? 1 : 2);
            }
        }
    }

    /** REFUSED: or a ROW has no such place (0 .. 7); where ROW [ .. ] = .. has none. */
    private static void placesOfRows() {
        for (int place : new int[] {-1, 0, 7, 8, 9, LEAST, MOST, 256, -256}) {
            boolean is = place >= 0 && place < 8;
            LateAndEarly read = Check.with("b0:tell 1;v1=r1[v0];tell 2;leave;");
            read.name(0, place);
            for (int placing = 0; placing < 3; placing++) {
                Check.due("read at " + place, read.run(0, placing), is ? 0 : 1);
                ran(read, is ? 0 : 1, is ? 4 : 2, is ? 2 : 1, is ? -1 : 0, 1);
            }
            LateAndEarly store = Check.with("b0:tell 1;r1[v0]=v0;tell 2;leave;");
            store.name(0, place);
            for (int placing = 0; placing < 3; placing++) {
                Check.due("store at " + place, store.run(0, placing), is ? 0 : 1);
                ran(store, is ? 0 : 1, is ? 4 : 2, is ? 2 : 1, is ? -1 : 0, 0);
                Check.due("stored", store.row(1, is ? place : 0), is ? place : 0);
            }
        }
    }

    /** 18, 19: at its end: what was, where it is REFUSED. */
    private static void refusedLeavesTheName() {
        LateAndEarly x = Check.with("b0:v1=5;r0[2]=6;v1=v1/v2;v1=7;r0[2]=8;leave;");
        x.name(3, 44);
        Check.due("run", x.run(0, 0), 1);
        Check.due("v1", x.value(1), 5);
        Check.due("v3", x.value(3), 44);
        Check.due("r0[2]", x.row(0, 2), 6);
        ran(x, 1, 3, 0, 0, 1);
    }

    /** 16: (the one at which it was REFUSED, too); 3 the block of that NODE, else NONE. */
    private static void refusedAtItsNode() {
        LateAndEarly x = Check.with("b0:go b1;b1:v9=0;v3=v1/v2;go b2;b2:r0[v4]=1;leave;");
        Check.due("run", x.run(0, 0), 1);
        ran(x, 1, 3, 0, 1, 1);
        Check.due("early: ahead of the first NODE", x.run(0, 1), 1);
        ran(x, 1, 1, 0, 0, 1);
        Check.due("late: alone", x.run(0, 2), 1);
        ran(x, 1, 3, 0, 1, 1);
        x.name(2, 1);
        x.name(4, 8);
        Check.due("store", x.run(0, 0), 1);
        ran(x, 1, 5, 0, 2, 1);
        x.name(4, 7);
        Check.due("left", x.run(0, 0), 0);
        ran(x, 0, 6, 0, -1, 1);
    }

    /** 16: (ON THE WAY: that to which it leads). */
    private static void refusedOnTheWay() {
        LateAndEarly x = Check.with("b0:if v0<1 b1 b2;b1:v1=8/v2;go b2;b2:v3=8/v2;leave;");
        x.name(0, 1);
        Check.due("late, on the way", x.run(0, 2), 1);
        // The NODE ON THE WAY is none of those that are counted.
        ran(x, 1, 1, 0, 2, 1);
        x.name(0, 0);
        Check.due("late, in b1", x.run(0, 2), 1);
        ran(x, 1, 2, 0, 1, 1);
        Check.due("early, in b0", x.run(0, 1), 1);
        ran(x, 1, 1, 0, 0, 1);
    }

    /** ahead of one NODE by numbers. */
    private static void setByNumbers() {
        LateAndEarly x = Check.with("b0:v9=0;v1=8/v2;v3=v4+v5;leave;");
        Check.due("both SET ahead of NODE 0", x.placed(0, 1, 0, 0, 0) + x.placed(0, 1, 1, 0, 0), 2);
        Check.due("run", x.run(0, 1), 1);
        ran(x, 1, 1, 0, 0, 1);
        Check.due("SUM 0 first", x.worked(0), 1);
        Check.due("SUM 1 not", x.worked(1), 0);
        LateAndEarly y = Check.with("b0:v9=0;v3=v4+v5;v1=8/v2;leave;");
        Check.due("both SET ahead of NODE 0", y.placed(0, 1, 0, 0, 0) + y.placed(0, 1, 1, 0, 0), 2);
        Check.due("run", y.run(0, 1), 1);
        ran(y, 1, 1, 0, 0, 2);
        Check.due("SUM 0 first", y.worked(0), 1);
        Check.due("SUM 1 too", y.worked(1), 1);
    }

    /** SET: it is WORKED, and kept; TAKEN: the NODE has that, and does not WORK it. */
    private static void takenIsWhatWasSet() {
        LateAndEarly x = Check.with("b0:v3=v1-v2;tell v3;v4=v1-v2;tell v4;v1=v1-v2;v5=v1-v2;tell v5;leave;");
        x.name(1, 10);
        x.name(2, 3);
        int[] worked = {4, 2, 2};
        for (int placing = 0; placing < 3; placing++) {
            Check.due("run", x.run(0, placing), 0);
            ran(x, 0, 8, 3, -1, worked[placing]);
            Check.due("worked", x.worked(0), worked[placing]);
            Check.due("told 0", x.told(0), 7);
            Check.due("told 1", x.told(1), 7);
            Check.due("told 2", x.told(2), 4);
        }
    }

    /** kept as the SUM's own value: the NAMES t are others, in a ROUTINE that has them too. */
    private static void keptIsNoName() {
        LateAndEarly x = Check.with("b0:v3=v1*v2;t0=4;v4=v1*v2;tell t0;leave;");
        x.name(1, 6);
        x.name(2, 7);
        for (int placing = 0; placing < 3; placing++) {
            x.run(0, placing);
            Check.due("v4", x.value(4), 42);
            Check.due("t0", x.value(16), 4);
            Check.due("told", x.told(0), 4);
            Check.due("worked", x.worked(0), placing == 0 ? 2 : 1);
        }
    }

    /** It ends: 0 at a leave. */
    private static void endsAtALeave() {
        LateAndEarly x = Check.with("b0:leave;");
        Check.due("run", x.run(0, 0), 0);
        ran(x, 0, 1, 0, -1, 0);
        LateAndEarly y = Check.with("b0:if v0<1 b1 b2;b1:leave;b2:tell 1;leave;");
        Check.due("run", y.run(0, 0), 0);
        ran(y, 0, 2, 0, -1, 0);
    }

    /** With an end of two NODES it has as many as are told: the first one of b2 is the last but one. */
    private static LateAndEarly nodes(int count, String end) {
        int more = count % 2 == 0 ? 0 : 1;
        LateAndEarly x = Check.with("b0:v1=0;" + "v2=0;".repeat(more) + "go b1;b1:v1=v1+1;if v1<v0 b1 b2;b2:" + end);
        x.name(0, (count - 4 - more) / 2);
        return x;
    }

    /** 2 SPENT, ahead of the 1001st NODE. */
    private static void spentAheadOf1001() {
        for (int count = 998; count < 1004; count++) {
            LateAndEarly x = nodes(count, "v3=1;leave;");
            for (int placing = 0; placing < 3; placing++) {
                Check.due("a RUN of " + count, x.run(0, placing), count <= 1000 ? 0 : 2);
                ran(x, count <= 1000 ? 0 : 2, Math.min(count, 1000), 0, -1, (count - 4) / 2);
                Check.due("the last but one", x.value(3), count <= 1001 ? 1 : 0);
            }
        }
        // The 1001st would be REFUSED, or tell: it is not come to.
        LateAndEarly x = nodes(1002, "r0[9]=1;leave;");
        Check.due("REFUSED there", x.run(0, 0), 2);
        LateAndEarly y = nodes(1001, "r0[9]=1;leave;");
        Check.due("REFUSED at the thousandth", y.run(0, 0), 1);
        ran(y, 1, 1000, 0, 2, 498);
        LateAndEarly z = nodes(1002, "tell 5;leave;");
        Check.due("a tell there", z.run(0, 0), 2);
        Check.due("told", z.ran(2), 0);
        LateAndEarly t = nodes(1001, "tell 5;leave;");
        Check.due("a tell at the thousandth", t.run(0, 0), 2);
        Check.due("told", t.told(0), 5);
    }

    /** (and of what is SET ahead of it). */
    private static void spentAheadOfWhatIsSet() {
        String end = "v6=v4+v5;v7=v4+v5;leave;";
        for (int count = 1001; count < 1005; count++) {
            LateAndEarly x = nodes(count, end);
            Check.due("run", x.run(0, 2), 2);
            Check.due("NODES", x.ran(1), 1000);
            // It is SET ahead of the first NODE of b2, which is that before the one told.
            Check.due("SET in " + count, x.worked(1), count - 1 <= 1000 ? 1 : 0);
            Check.due("early in " + count, x.run(0, 1), 2);
            Check.due("SET ahead of all", x.worked(1), 1);
        }
        LateAndEarly bold = nodes(1002, "v6=4/v5;v7=4/v5;leave;");
        Check.due("REFUSED there", bold.run(0, 2), 2);
        LateAndEarly last = nodes(1001, "v6=4/v5;v7=4/v5;leave;");
        Check.due("REFUSED at the thousandth", last.run(0, 2), 1);
        Check.due("its block", last.ran(3), 2);
        Check.due("NODES", last.ran(1), 1000);
    }

    /** but those ON THE WAY. */
    private static void onTheWayDoesNotCount() {
        LateAndEarly x = Check.with("b0:if v0<1 b1 b1;b1:if v0<1 b1 b2;b2:leave;");
        Check.due("run", x.run(0, 0), 2);
        ran(x, 2, 1000, 0, -1, 0);
        x.name(0, 1);
        Check.due("run", x.run(0, 0), 0);
        ran(x, 0, 3, 0, -1, 0);
    }

    /** A NODE ON THE WAY behind the thousandth NODE is come to, with what is SET there. */
    private static void onTheWayBehindTheLast() {
        int[] worked = {333, 333, 333};
        for (int more = 0; more < 3; more++) {
            LateAndEarly x = Check.with("b0:v2=v1+1;" + "v3=1;".repeat(more) + "go b1;b1:v3=v1+1;v1=v4;"
                + "if v0<1 b1 b2;b2:leave;");
            Check.due("SET on the way", x.placed(0, 2, 0, 6 + more, 0), 1);
            Check.due("run", x.run(0, 2), 2);
            ran(x, 2, 1000, 0, -1, worked[more]);
        }
        LateAndEarly bold = Check.with("b0:v2=9/v1;v3=1;v3=1;go b1;b1:v3=9/v1;v1=v1-1;if v0<1 b1 b2;b2:leave;");
        bold.name(1, 332);
        // v1 is 0 on the way behind the thousandth NODE.
        Check.due("run", bold.run(0, 2), 1);
        ran(bold, 1, 1000, 0, 1, 333 + 332);
        bold.name(1, 333);
        Check.due("run", bold.run(0, 2), 2);
        ran(bold, 2, 1000, 0, -1, 333 + 332);
    }

    /** TOLD are what tells told, in order. */
    private static void toldInOrder() {
        LateAndEarly x = Check.with("b0:tell 5;tell-3;v1=7;tell v1;v1=8;tell v1;tell 0;tell-999999999;leave;");
        Check.due("run", x.run(0, 0), 0);
        int[] want = {5, -3, 7, 8, 0, -999999999, 0, 0};
        for (int i = 0; i < want.length; i++) {
            Check.due("told " + i, x.told(i), want[i]);
        }
        ran(x, 0, 9, 6, -1, 0);
    }

    /** 17: the first 100. 0: none such. */
    private static void toldTheFirst100() {
        for (int count = 99; count < 103; count++) {
            LateAndEarly x = Check.with("b0:go b1;b1:v1=v1+1;tell v1;if v1<v0 b1 b2;b2:leave;");
            x.name(0, count);
            Check.due("run", x.run(0, 0), 0);
            Check.due("how many", x.ran(2), count);
            Check.due("told 0", x.told(0), 1);
            Check.due("told 98", x.told(98), 99);
            Check.due("told 99", x.told(99), count > 99 ? 100 : 0);
            Check.due("told 100", x.told(100), 0);
            Check.due("told 101", x.told(101), 0);
            Check.due("told -1", x.told(-1), 0);
            for (int i : FAR) {
                Check.due("told " + i, x.told(i), 0);
            }
            x.name(0, 2);
            Check.due("a shorter one", x.run(0, 0), 0);
            Check.due("told 1", x.told(1), 2);
            Check.due("told 2", x.told(2), 0);
            Check.due("told 98", x.told(98), 0);
        }
        LateAndEarly x = Check.with("b0:go b1;b1:tell v1;tell v1;tell v1;tell v1;tell v1;if v0<1 b1 b2;b2:leave;");
        x.run(0, 0);
        // The go and 166 rounds of 6 NODES, and 3 tells more.
        ran(x, 2, 1000, 166 * 5 + 3, -1, 0);
    }

    /** 16: what 0 .. 4. NONE. All 0 at first. */
    private static void ranHasFive() {
        LateAndEarly x = Check.with("b0:tell 1;v1=1+2;leave;");
        ran(x, 0, 0, 0, 0, 0);
        x.run(0, 0);
        ran(x, 0, 3, 1, -1, 1);
        Check.due("ran 5", x.ran(5), -1);
        Check.due("ran -1", x.ran(-1), -1);
        for (int what : FAR) {
            Check.due("ran " + what, x.ran(what), -1);
        }
    }

    /** 15: NONE: no such place, ROUTINE, PLACING. */
    private static void runOfNoRoutine() {
        LateAndEarly x = new LateAndEarly();
        Check.parse(x, 3, "b0:tell 1;leave;");
        for (int placing = 0; placing < 3; placing++) {
            Check.due("run of place 3", x.run(3, placing), 0);
            Check.due("run of place 0", x.run(0, placing), -1);
            Check.due("run of place 4", x.run(4, placing), -1);
            Check.due("run of place -1", x.run(-1, placing), -1);
        }
        Check.due("PLACING 3", x.run(3, 3), -1);
        Check.due("PLACING -1", x.run(3, -1), -1);
        for (int far : FAR) {
            Check.due("run of place " + far, x.run(far, 0), -1);
            Check.due("PLACING " + far, x.run(3, far), -1);
        }
    }

    /** REFUSALS change nothing: the latest RUN stays. */
    private static void refusedRunsLeaveTheLatest() {
        LateAndEarly x = Check.with("b0:tell 6;v1=r0[2];r1[4]=3;go b1;b1:v2=5/v1;leave;");
        Check.due("run", x.run(0, 0), 1);
        int[][] none = {{0, 3}, {0, -1}, {1, 0}, {4, 0}, {-1, 0}, {3, 2}};
        for (int[] n : none) {
            Check.due("run", x.run(n[0], n[1]), -1);
            ran(x, 1, 5, 1, 1, 2);
            Check.due("told", x.told(0), 6);
            Check.due("row", x.row(1, 4), 3);
            Check.due("worked", x.worked(1), 1);
        }
    }

    /** 20: (of its ROUTINE as it was then; the one at which it was REFUSED, too). */
    private static void workedOfItsRoutine() {
        LateAndEarly x = Check.with("b0:v1=2+v2;v3=2+v2;v4=3/v5;leave;");
        x.run(0, 0);
        int[] want = {2, 1, 0};
        Check.parse(x, 0, "b0:v1=v2*v3;v1=v2*v4;v1=v2*v5;leave;");
        Check.parse(x, 1, "b0:leave;");
        for (int e = 0; e < 3; e++) {
            Check.due("worked " + e, x.worked(e), want[e]);
        }
        ran(x, 1, 3, 0, 0, 3);
        x.run(0, 0);
        for (int e = 0; e < 3; e++) {
            Check.due("worked " + e + " of the new one", x.worked(e), 1);
        }
        x.run(1, 0);
        for (int e = 0; e < 32; e++) {
            Check.due("worked " + e + " of none", x.worked(e), 0);
        }
    }

    /** 20: NONE: e is not 0 .. 31. */
    private static void workedHas32() {
        StringBuilder text = new StringBuilder("b0:");
        for (int e = 0; e < 32; e++) {
            text.append("v0=v1^").append(e).append(";");
        }
        LateAndEarly x = Check.with(text + "v2=v1^31;v2=v1^31;leave;");
        Check.due("worked 31 ahead of a RUN", x.worked(31), 0);
        Check.due("worked 32 ahead of a RUN", x.worked(32), -1);
        for (int placing = 0; placing < 3; placing++) {
            x.run(0, placing);
            Check.due("worked 0", x.worked(0), 1);
            Check.due("worked 31", x.worked(31), placing == 0 ? 3 : 1);
            Check.due("worked 32", x.worked(32), -1);
            Check.due("worked -1", x.worked(-1), -1);
            Check.due("all", x.ran(4), placing == 0 ? 34 : 32);
            Check.due("v2", x.value(2), 31);
        }
        for (int e : FAR) {
            Check.due("worked " + e, x.worked(e), -1);
        }
    }

    /** 17 to 19: 0: none such. */
    private static void placesOfToldNamesAndRows() {
        LateAndEarly x = Check.with("b0:r0[0]=1;r0[1]=1;r0[7]=1;r1[0]=1;r1[7]=1;v0=1;v15=1;t31=1;tell 1;leave;");
        x.run(0, 0);
        Check.due("row 0 7", x.row(0, 7), 1);
        Check.due("row 1 7", x.row(1, 7), 1);
        int[][] none = {{0, 8}, {0, -1}, {1, 8}, {1, -1}, {2, 0}, {-1, 0}, {3, 0}, {2, 7}, {0, 9}, {0, 16}, {-1, 8},
            {LEAST, 0}, {MOST, 0}, {0, LEAST}, {0, MOST}};
        for (int[] n : none) {
            Check.due("row " + n[0] + " " + n[1], x.row(n[0], n[1]), 0);
        }
        Check.due("value 47", x.value(47), 1);
        for (int k : new int[] {48, -1, 49, 1000, LEAST, MOST}) {
            Check.due("value " + k, x.value(k), 0);
        }
    }
}
