/** Promise 24: WRITTEN routines. */
public final class WriteTest {
    public static void main(String[] args) {
        plain();
        placedOnTheWay();
        severalOnTheWay();
        severalBlocksMore();
        severalAhead();
        names();
        fortyOneBlocks();
        full();
        fullWithOnePlacing();
        refusals();
        Check.end("WriteTest");
    }

    private static void written(LateAndEarly x, int placing, String want) {
        Check.due("write " + placing, x.write(0, placing), want.length());
        Check.due("text " + placing, Check.tape(x), want);
    }

    private static void plain() {
        LateAndEarly x = Check.with("b0:v0=007;v15=- 0;t31=-12;v1=v2--3;v1=-4-v5;v1=t1*1000000;"
            + "v1=v2&v3;v1=v2^999999999;v1=v2/v3;v1=r0[v2];v1=r1[-2];r1[03]=-01;r0[t0]=v1;tell-5;"
            + "tell v0;if-1<v3 b1 b2;b1:go b2;b2:if v1<v2 b1 b3;b3:leave;");
        x.feed(77, 8);
        written(x, 0, "b0:\n  v0 = 7;\n  v15 = 0;\n  t31 = -12;\n  v1 = v2 - -3;\n  v1 = -4 - v5;\n"
            + "  v1 = t1 * 1000000;\n  v1 = v2 & v3;\n  v1 = v2 ^ 999999999;\n  v1 = v2 / v3;\n"
            + "  v1 = r0 [ v2 ];\n  v1 = r1 [ -2 ];\n  r1 [ 3 ] = -1;\n  r0 [ t0 ] = v1;\n"
            + "  tell -5;\n  tell v0;\n  if -1 < v3 b1 b2;\nb1:\n  go b2;\nb2:\n  if v1 < v2 b1 b3;\n"
            + "b3:\n  leave;\n");
    }

    private static void placedOnTheWay() {
        LateAndEarly x = Check.with("b0: if v0 < 1 b1 b2; b1: v1 = 8 / v2; go b2;"
            + "b2: v3 = 8 / v2; leave;");
        written(x, 0, "b0:\n  if v0 < 1 b1 b2;\nb1:\n  v1 = 8 / v2;\n  go b2;\n"
            + "b2:\n  v3 = 8 / v2;\n  leave;\n");
        written(x, 1, "b0:\n  t0 = 8 / v2;\n  if v0 < 1 b1 b2;\nb1:\n  v1 = t0;\n  go b2;\n"
            + "b2:\n  v3 = t0;\n  leave;\n");
        String late = "b0:\n  if v0 < 1 b1 b3;\nb1:\n  t0 = 8 / v2;\n  v1 = t0;\n  go b2;\n"
            + "b2:\n  v3 = t0;\n  leave;\nb3:\n  t0 = 8 / v2;\n  go b2;\n";
        written(x, 2, late);
        Check.due("parse of it", x.parse(1), 8);
        Check.due("SUMS of it", x.about(1, 2), 1);
        Check.due("write of it", x.write(1, 0), late.length());
        Check.due("text of it", Check.tape(x), late);
    }

    private static void severalOnTheWay() {
        // The ways to b2 and b3 from b0 and from b1 are kept apart; b4 and on are theirs, by NODES.
        LateAndEarly x = Check.with("b0: if v0 < 1 b3 b1; b1: v4 = v1 * v2; tell v4; if v0 < 2 b3 b2;"
            + "b2: tell v4; v1 = 3; v5 = v1 * v2; if v0 < 3 b3 b2; b3: v6 = v1 * v2; v7 = v8 / 2; leave;");
        written(x, 2, "b0:\n  if v0 < 1 b4 b1;\nb1:\n  t0 = v1 * v2;\n  v4 = t0;\n  tell v4;\n"
            + "  if v0 < 2 b3 b2;\nb2:\n  tell v4;\n  v1 = 3;\n  t0 = v1 * v2;\n  v5 = t0;\n"
            + "  if v0 < 3 b3 b2;\nb3:\n  v6 = t0;\n  v7 = v8 / 2;\n  leave;\n"
            + "b4:\n  t0 = v1 * v2;\n  go b3;\n");
        LateAndEarly y = Check.with("b0: if v0 < 1 b1 b2; b1: v3 = v1 ^ 1; v4 = v1 & 1; if v0 < 2 b3 b2;"
            + "b2: v3 = v1 & 1; tell v3; if v0 < 3 b3 b3; b3: v4 = v1 ^ 1; leave;");
        written(y, 2, "b0:\n  if v0 < 1 b1 b4;\nb1:\n  t0 = v1 ^ 1;\n  v3 = t0;\n  t1 = v1 & 1;\n"
            + "  v4 = t1;\n  if v0 < 2 b3 b2;\nb2:\n  v3 = t1;\n  tell v3;\n  if v0 < 3 b3 b3;\n"
            + "b3:\n  v4 = t0;\n  leave;\nb4:\n  t0 = v1 ^ 1;\n  t1 = v1 & 1;\n  go b2;\n");
    }

    private static void severalBlocksMore() {
        LateAndEarly x = Check.with("b0: if v0 < 1 b1 b2; b1: v3 = v1 + v2; if v1 < 1 b2 b3;"
            + "b2: v1 = v9; if v1 < 1 b2 b3; b3: v4 = v1 + v2; leave;");
        written(x, 1, "b0:\n  if v0 < 1 b1 b2;\nb1:\n  t0 = v1 + v2;\n  v3 = t0;\n"
            + "  if v1 < 1 b2 b3;\nb2:\n  v1 = v9;\n  if v1 < 1 b2 b4;\nb3:\n  v4 = t0;\n  leave;\n"
            + "b4:\n  t0 = v1 + v2;\n  go b3;\n");
        LateAndEarly y = Check.with("b0: v9 = 1; if v0 < 1 b1 b2; b1: v3 = v1 + v2; go b4;"
            + "b2: if v0 < 3 b3 b4; b3: if v0 < 4 b5 b4; b4: v4 = v1 + v2; leave; b5: leave;");
        written(y, 2, "b0:\n  v9 = 1;\n  if v0 < 1 b1 b2;\nb1:\n  t0 = v1 + v2;\n  v3 = t0;\n"
            + "  go b4;\nb2:\n  if v0 < 3 b3 b6;\nb3:\n  if v0 < 4 b5 b7;\nb4:\n  v4 = t0;\n"
            + "  leave;\nb5:\n  leave;\nb6:\n  t0 = v1 + v2;\n  go b4;\n"
            + "b7:\n  t0 = v1 + v2;\n  go b4;\n");
    }

    private static void severalAhead() {
        LateAndEarly x = Check.with("b0: v9 = r1[v3]; if v0 < 1 b1 b1;"
            + "b1: v5 = v1 + v2; v6 = v1 * v2; v5 = v1 + v2; v6 = v1 * v2; v4 = 1 - 2; v1 = v1 ^ 3;"
            + "leave;");
        written(x, 1, "b0:\n  t0 = r1 [ v3 ];\n  t1 = v1 + v2;\n  t2 = v1 * v2;\n  t3 = 1 - 2;\n"
            + "  t4 = v1 ^ 3;\n  v9 = t0;\n  if v0 < 1 b1 b1;\nb1:\n  v5 = t1;\n  v6 = t2;\n"
            + "  v5 = t1;\n  v6 = t2;\n  v4 = t3;\n  v1 = t4;\n  leave;\n");
        written(x, 2, "b0:\n  v9 = r1 [ v3 ];\n  if v0 < 1 b1 b1;\nb1:\n  t1 = v1 + v2;\n  v5 = t1;\n"
            + "  t2 = v1 * v2;\n  v6 = t2;\n  v5 = t1;\n  v6 = t2;\n  v4 = 1 - 2;\n  v1 = v1 ^ 3;\n"
            + "  leave;\n");
    }

    private static void names() {
        String[] withT = {"t0=1;", "v0=t0;", "v0=t3;", "v0=1+t3;", "v0=t3+1;", "v0=r0[t3];", "r0[t3]=1;",
            "r0[1]=t3;", "tell t3;", "if t3<1 b1 b1;b1:", "if 1<t3 b1 b1;b1:"};
        for (String t : withT) {
            LateAndEarly x = Check.with("b0:" + t + "leave;");
            x.feed(65, 1);
            Check.due("late of " + t, x.write(0, 2), -4);
            Check.due("early of " + t, x.write(0, 1), -4);
            Check.due("the tape stays", Check.tape(x), "A");
            Check.due("no PLACING", x.write(0, 3), -1);
            Check.due("plain of " + t, x.write(0, 0) > 0 ? 1 : 0, 1);
            Check.parse(x, 0, "b0:leave;");
            Check.due("without a t", x.write(0, 1), 13);
        }
    }

    private static void fortyOneBlocks() {
        StringBuilder text = new StringBuilder("b0: if v0 < 1 b1 b39;");
        for (int b = 1; b < 39; b++) {
            text.append("b").append(b).append(": ").append(b == 1 ? "v1 = 8 / v2;" : "").append("go b")
                .append(b + 1).append(";");
        }
        LateAndEarly x = Check.with(text + "b39: v3 = 8 / v2; leave;");
        x.write(0, 2);
        String late = Check.tape(x);
        Check.due("the way leads there", late.startsWith("b0:\n  if v0 < 1 b1 b40;\nb1:\n") ? 1 : 0, 1);
        Check.due("a block more", late.endsWith("b40:\n  t0 = 8 / v2;\n  go b39;\n") ? 1 : 0, 1);
        Check.due("parse of it", x.parse(1), -10 - late.indexOf("b40"));
        Check.due("its FAULT", x.wrong(), 2);
    }

    private static void full() {
        // 4 bytes of the head, 118 lines of 25, two of 10, one of 9 and its digits, 9 of the end.
        String text = "b0:" + "v15=t31+999999999;".repeat(118) + "tell 1;tell 2;";
        LateAndEarly x = Check.with(text + "tell 12345678;leave;");
        x.feed(65, 1);
        Check.due("write of 3000 bytes", x.write(0, 0), 3000);
        Check.due("tape", Check.tape(x).endsWith("  tell 12345678;\n  leave;\n") ? 1 : 0, 1);
        LateAndEarly y = Check.with(text + "tell 123456789;leave;");
        y.feed(65, 1);
        Check.due("write of 3001 bytes", y.write(0, 0), -3);
        Check.due("the tape stays", Check.tape(y), "A");
        Check.due("STATE ahead of FULL", y.write(0, 1), -4);
    }

    private static void fullWithOnePlacing() {
        // Early each of the sums has a line more; late each is alone.
        StringBuilder text = new StringBuilder("b0:");
        for (int e = 0; e < 32; e++) {
            text.append("v1=v2^").append(99999900 + e).append(";");
        }
        LateAndEarly x = Check.with(text + "v3=999999999;".repeat(115) + "leave;");
        int plain = 4 + 32 * 22 + 115 * 18 + 9;
        Check.due("plain", x.write(0, 0), plain);
        Check.due("late", x.write(0, 2), plain);
        Check.due("early", x.write(0, 1), -3);
        Check.due("the tape stays", Check.tape(x).length(), plain);
        Check.due("plain again", x.write(0, 0), plain);
    }

    private static void refusals() {
        LateAndEarly x = Check.with("b0: leave;");
        x.feed(65, 1);
        for (int p : new int[] {-1, 1, 4}) {
            Check.due("write", x.write(p, 0), -1);
        }
        Check.due("write 3", x.write(0, 3), -1);
        Check.due("write -1", x.write(0, -1), -1);
        Check.due("the tape stays", Check.tape(x), "A");
    }
}
