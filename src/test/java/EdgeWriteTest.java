/** The edges of WRITTEN, the fourth part of the Terms, and promise 24, a sentence a method. */
public final class EdgeWriteTest {
    private static final String LOOP = "b0:v4=v1+v2;go b1;b1:v3=v1+v2;v1=v5;if v0<1 b1 b2;b2:v6=v1+v2;leave;";

    public static void main(String[] args) {
        theLeastText();
        numbersByWhatTheyAre();
        blanksBetweenTokens();
        setAheadOfStatementsAndEnds();
        setByNumbers();
        blocksForNodesOnTheWay();
        onlyThoseWithSomethingSet();
        bothWaysOfAnIf();
        numbersOfTheSums();
        writtenRoutinesAgain();
        atMostThreeThousand();
        atMostThreeThousandWithAPlacing();
        theTapeBefore();
        feedBehindIt();
        stateWithAT();
        statesEnd();
        noPlaceSuch();
        refusalsInOrder();
        Check.end("EdgeWriteTest");
    }

    private static void written(LateAndEarly x, int placing, String want) {
        Check.due("write " + placing, x.write(0, placing), want.length());
        Check.due("text " + placing, Check.tape(x), want);
        Check.due("behind it", x.tape(want.length()), -1);
    }

    /** each block: BLOCK :, then line by line, with two blanks ahead. */
    private static void theLeastText() {
        for (int placing = 0; placing < 3; placing++) {
            written(Check.with(" b0 : leave ; "), placing, "b0:\n  leave;\n");
            written(Check.with("b0:go b1;b1:leave;"), placing, "b0:\n  go b1;\nb1:\n  leave;\n");
        }
    }

    /** (numbers by what they are). */
    private static void numbersByWhatTheyAre() {
        String[] numbers = {"0", "00", "- 0", "-000", "007", "-007", "9", "10", "99", "100", "-10", "1000",
            "123456789", "999999999", "-999999999", "100000000", "000000001", "-000000010"};
        String[] texts = {"0", "0", "0", "0", "7", "-7", "9", "10", "99", "100", "-10", "1000", "123456789",
            "999999999", "-999999999", "100000000", "1", "-10"};
        for (int i = 0; i < numbers.length; i++) {
            String n = numbers[i];
            LateAndEarly x = Check.with("b0:v1=" + n + ";v2=v1-" + n + ";v3=" + n + "*v1;v4=r0[" + n + "];r1[" + n
                + "]=" + n + ";tell " + n + ";if " + n + "<" + n + " b1 b1;b1:leave;");
            written(x, 0, "b0:\n  v1 = #;\n  v2 = v1 - #;\n  v3 = # * v1;\n  v4 = r0 [ # ];\n  r1 [ # ] = #;\n"
                .concat("  tell #;\n  if # < # b1 b1;\nb1:\n  leave;\n").replace("#", texts[i]));
        }
    }

    /** Between any two TOKENS is one blank, but none ahead of ; : and behind - of an operand. */
    private static void blanksBetweenTokens() {
        LateAndEarly x = Check.with("b0:v0=-1;v1=v2-v3;v1=v2--3;v1=-2-3;v1=- 4 - - 5;v1=v2+-3;v1=v2&v3;v1=v2^v3;"
            + "v1=v2/v3;v1=v2*-1;v1=r0[-1];r0[v1]=-2;r1[-1]=v15;tell-1;tell v0;if-1<-2 b1 b2;b1:go b2;b2:leave;");
        written(x, 0, "b0:\n  v0 = -1;\n  v1 = v2 - v3;\n  v1 = v2 - -3;\n  v1 = -2 - 3;\n  v1 = -4 - -5;\n"
            + "  v1 = v2 + -3;\n  v1 = v2 & v3;\n  v1 = v2 ^ v3;\n  v1 = v2 / v3;\n  v1 = v2 * -1;\n"
            + "  v1 = r0 [ -1 ];\n  r0 [ v1 ] = -2;\n  r1 [ -1 ] = v15;\n  tell -1;\n  tell v0;\n"
            + "  if -1 < -2 b1 b2;\nb1:\n  go b2;\nb2:\n  leave;\n");
    }

    /** what is SET ahead of a NODE .., then the statement, one that TAKES it .., or the end. */
    private static void setAheadOfStatementsAndEnds() {
        LateAndEarly x = Check.with(LOOP);
        written(x, 0, "b0:\n  v4 = v1 + v2;\n  go b1;\nb1:\n  v3 = v1 + v2;\n  v1 = v5;\n  if v0 < 1 b1 b2;\n"
            + "b2:\n  v6 = v1 + v2;\n  leave;\n");
        written(x, 1, "b0:\n  t0 = v1 + v2;\n  v4 = t0;\n  go b1;\nb1:\n  v3 = t0;\n  v1 = v5;\n"
            + "  t0 = v1 + v2;\n  if v0 < 1 b1 b2;\nb2:\n  v6 = t0;\n  leave;\n");
        LateAndEarly go = Check.with("b0:v1=2;go b1;b1:v3=v1*v2;leave;");
        written(go, 1, "b0:\n  v1 = 2;\n  t0 = v1 * v2;\n  go b1;\nb1:\n  v3 = t0;\n  leave;\n");
        LateAndEarly tell = Check.with("b0:r0[1]=4;tell v1;v3=r0[v2];v2=v3;tell v3;r1[2]=v3;v4=r1[2];leave;");
        written(tell, 1, "b0:\n  r0 [ 1 ] = 4;\n  tell v1;\n  t0 = r0 [ v2 ];\n  v3 = t0;\n  v2 = v3;\n"
            + "  tell v3;\n  r1 [ 2 ] = v3;\n  t1 = r1 [ 2 ];\n  v4 = t1;\n  leave;\n");
    }

    /** ahead of one NODE by numbers; t and the SUM's number. */
    private static void setByNumbers() {
        LateAndEarly x = Check.with("b0:v9=0;go b1;b1:v5=v3*v4;v6=v1+v2;v7=v2^v1;v5=v1+v2;leave;");
        written(x, 1, "b0:\n  t0 = v3 * v4;\n  t1 = v1 + v2;\n  t2 = v2 ^ v1;\n  v9 = 0;\n  go b1;\nb1:\n"
            + "  v5 = t0;\n  v6 = t1;\n  v7 = t2;\n  v5 = t1;\n  leave;\n");
        written(x, 2, "b0:\n  v9 = 0;\n  go b1;\nb1:\n  v5 = v3 * v4;\n  t1 = v1 + v2;\n  v6 = t1;\n"
            + "  v7 = v2 ^ v1;\n  v5 = t1;\n  leave;\n");
    }

    /** A NODE ON THE WAY with something SET ahead of it is a block more, behind all; the way leads there. */
    private static void blocksForNodesOnTheWay() {
        written(Check.with(LOOP), 2, "b0:\n  t0 = v1 + v2;\n  v4 = t0;\n  go b1;\nb1:\n  v3 = t0;\n  v1 = v5;\n"
            + "  if v0 < 1 b3 b2;\nb2:\n  v6 = v1 + v2;\n  leave;\nb3:\n  t0 = v1 + v2;\n  go b1;\n");
        LateAndEarly x = Check.with("b0:if v0<1 b1 b2;b1:v1=8/v2;go b2;b2:v3=8/v2;leave;");
        written(x, 2, "b0:\n  if v0 < 1 b1 b3;\nb1:\n  t0 = 8 / v2;\n  v1 = t0;\n  go b2;\n"
            + "b2:\n  v3 = t0;\n  leave;\nb3:\n  t0 = 8 / v2;\n  go b2;\n");
    }

    /** by numbers: one with nothing SET ahead of it is no block, and has no number. */
    private static void onlyThoseWithSomethingSet() {
        LateAndEarly x = Check.with("b0:if v9<1 b5 b1;b1:if v0<1 b5 b2;b2:v9=v1+v2;if v0<1 b4 b3;b3:v1=3;"
            + "if v0<2 b4 b5;b4:v4=v1+v2;leave;b5:leave;");
        Check.due("NODES ON THE WAY", x.about(0, 3), 5);
        written(x, 1, "b0:\n  if v9 < 1 b5 b1;\nb1:\n  if v0 < 1 b5 b2;\nb2:\n  t0 = v1 + v2;\n  v9 = t0;\n"
            + "  if v0 < 1 b4 b3;\nb3:\n  v1 = 3;\n  if v0 < 2 b6 b5;\nb4:\n  v4 = t0;\n  leave;\nb5:\n"
            + "  leave;\nb6:\n  t0 = v1 + v2;\n  go b4;\n");
        LateAndEarly two = Check.with("b0:v9=1;if v0<1 b1 b2;b1:v3=v1+v2;go b4;b2:if v0<3 b3 b4;"
            + "b3:if v0<4 b5 b4;b4:v4=v1+v2;leave;b5:leave;");
        written(two, 2, "b0:\n  v9 = 1;\n  if v0 < 1 b1 b2;\nb1:\n  t0 = v1 + v2;\n  v3 = t0;\n  go b4;\nb2:\n"
            + "  if v0 < 3 b3 b6;\nb3:\n  if v0 < 4 b5 b7;\nb4:\n  v4 = t0;\n  leave;\nb5:\n  leave;\nb6:\n"
            + "  t0 = v1 + v2;\n  go b4;\nb7:\n  t0 = v1 + v2;\n  go b4;\n");
    }

    /** (an if of which both ways lead to it has two): each is a block more. */
    private static void bothWaysOfAnIf() {
        LateAndEarly x = Check.with("b0:if v0<1 b1 b2;b1:v3=v1+v2;go b3;b2:if v5<1 b3 b3;b3:v4=v1+v2;leave;");
        written(x, 2, "b0:\n  if v0 < 1 b1 b2;\nb1:\n  t0 = v1 + v2;\n  v3 = t0;\n  go b3;\nb2:\n"
            + "  if v5 < 1 b4 b5;\nb3:\n  v4 = t0;\n  leave;\nb4:\n  t0 = v1 + v2;\n  go b3;\n"
            + "b5:\n  t0 = v1 + v2;\n  go b3;\n");
        written(x, 0, "b0:\n  if v0 < 1 b1 b2;\nb1:\n  v3 = v1 + v2;\n  go b3;\nb2:\n  if v5 < 1 b3 b3;\n"
            + "b3:\n  v4 = v1 + v2;\n  leave;\n");
    }

    /** t and the SUM's number: up to t31. */
    private static void numbersOfTheSums() {
        StringBuilder text = new StringBuilder("b0:");
        StringBuilder want = new StringBuilder("b0:\n");
        StringBuilder taken = new StringBuilder();
        for (int e = 0; e < 32; e++) {
            text.append("v0=v1^").append(e).append(";");
            want.append("  t").append(e).append(" = v1 ^ ").append(e).append(";\n");
            taken.append("  v0 = t").append(e).append(";\n");
        }
        LateAndEarly x = Check.with(text + "leave;");
        int length = want.length() + taken.length() + 9;
        Check.due("write", x.write(0, 1), length);
        Check.due("parse of it", x.parse(1), 65);
        Check.due("write of it", x.write(1, 0), length);
        Check.due("the last byte", x.tape(length - 1), 10);
        Check.due("SUMS of it", x.about(1, 2), 32);
        Check.due("STATE of it", x.write(1, 1), -4);
        int at = want.indexOf("t31");
        Check.due("the 31", x.tape(at) * 10000 + x.tape(at + 1) * 100 + x.tape(at + 2), 't' * 10000 + '3' * 100 + '1');
    }

    /** placed routines written as texts that are routines again. */
    private static void writtenRoutinesAgain() {
        for (int placing = 0; placing < 3; placing++) {
            LateAndEarly x = Check.with(LOOP);
            x.name(1, 4);
            x.name(2, 5);
            x.name(5, 6);
            x.name(0, 1);
            x.run(0, placing);
            int worked = x.ran(4);
            x.write(0, placing);
            String text = Check.tape(x);
            Check.due("parse", x.parse(1) > 0 ? 1 : 0, 1);
            x.run(1, 0);
            Check.due("worked", x.ran(4), worked);
            Check.due("v4", x.value(4), 9);
            Check.due("v3", x.value(3), 9);
            Check.due("v6", x.value(6), 11);
            x.write(1, 0);
            Check.due("written again", Check.tape(x), text);
        }
    }

    /** 24: FULL: more than 3000 (THE TAPE stays). */
    private static void atMostThreeThousand() {
        // 4 bytes of the head, 118 lines of 25, two of 10, one of 9 and its digits, 9 of the end.
        String text = "b0:" + "v15=v14+999999999;".repeat(118) + "tell 1;tell 2;";
        String[] digits = {"1234567", "12345678", "123456789"};
        int[] bytes = {2999, 3000, -3};
        for (int i = 0; i < 3; i++) {
            LateAndEarly x = Check.with(text + "tell " + digits[i] + ";leave;");
            x.feed(65, 1);
            boolean full = bytes[i] < 0;
            Check.due("write with " + digits[i], x.write(0, 0), bytes[i]);
            Check.due("the first byte", x.tape(0), full ? 'A' : 'b');
            Check.due("the last byte", x.tape(full ? 0 : bytes[i] - 1), full ? 'A' : 10);
            Check.due("behind it", x.tape(full ? 1 : bytes[i]), -1);
            Check.due("write again", x.write(0, 0), bytes[i]);
        }
    }

    /** One byte more by what is SET: FULL with that PLACING alone. */
    private static void atMostThreeThousandWithAPlacing() {
        String text = "b0:v3=v1+v2;" + "r1[-999999999]=-999999999;".repeat(85) + "tell 1;".repeat(6);
        LateAndEarly x = Check.with(text + "tell 1;leave;");
        Check.due("plain", x.write(0, 0), 2989);
        Check.due("late", x.write(0, 2), 2989);
        Check.due("early", x.write(0, 1), 3000);
        Check.due("the last byte", x.tape(2999), 10);
        LateAndEarly y = Check.with(text + "tell 12;leave;");
        Check.due("plain", y.write(0, 0), 2990);
        Check.due("early", y.write(0, 1), -3);
        Check.due("the tape stays", y.tape(2989), 10);
        Check.due("the tape stays", y.tape(2990), -1);
        Check.due("late", y.write(0, 2), 2990);
    }

    /** 24: THE TAPE is a ROUTINE WRITTEN: nothing stays of what it was. */
    private static void theTapeBefore() {
        LateAndEarly x = Check.with("b0:leave;");
        Check.feed(x, "x".repeat(3000));
        Check.due("write", x.write(0, 0), 13);
        Check.due("tape", Check.tape(x), "b0:\n  leave;\n");
        Check.due("cut", x.cut(14), -2);
        Check.due("write again", x.write(0, 1), 13);
        Check.due("cut", x.cut(13), 13);
    }

    /** 2, 24: THE TAPE is the text: bytes come behind it. */
    private static void feedBehindIt() {
        LateAndEarly x = Check.with("b0:leave;");
        x.write(0, 0);
        Check.due("feed", x.feed('?', 1), 14);
        Check.due("parse", x.parse(1), -10 - 13);
        Check.due("wrong", x.wrong(), 1);
        Check.due("the ROUTINE", x.write(0, 2), 13);
    }

    /** 24: STATE: PLACING 1 or 2, and a t stands in the ROUTINE. */
    private static void stateWithAT() {
        String[] ts = {"t0=1;", "t31=v1;", "t5=1;v1=2;", "v1=2;t5=1;", "t9=1;v1=v2;tell v1;", "v1=t0;", "v1=t31;v2=3;",
            "v1=1+t0;", "v1=t0+1;", "v1=t0+v1;", "v1=v1+t0;", "v1=r0[t0];", "r0[t0]=1;", "r0[t1]=v1;", "r0[1]=t0;",
            "r0[v1]=t1;", "tell t0;", "tell t0;tell v0;", "if t0<1 b1 b1;b1:", "if t0<v1 b1 b1;b1:",
            "if 1<t0 b1 b1;b1:", "if v1<t31 b1 b1;b1:", "go b1;b1:t7=1;go b2;b2:"};
        for (String t : ts) {
            LateAndEarly x = Check.with("b0:" + t + "leave;");
            x.feed(65, 1);
            Check.due("early of " + t, x.write(0, 1), -4);
            Check.due("late of " + t, x.write(0, 2), -4);
            Check.due("the tape stays", Check.tape(x), "A");
            int plain = x.write(0, 0);
            Check.due("plain of " + t, plain > 13 ? 1 : 0, 1);
            Check.due("its last byte", x.tape(plain - 1), 10);
        }
        for (String v : new String[] {"v0=1;", "v15=v15;", "tell v0;", "v1=v2/v3;", "go b1;b1:"}) {
            LateAndEarly x = Check.with("b0:" + v + "leave;");
            Check.due("early of " + v, x.write(0, 1) > 13 ? 1 : 0, 1);
            Check.due("late of " + v, x.write(0, 2) > 13 ? 1 : 0, 1);
        }
    }

    /** in the ROUTINE that is there: not in one that was, or in a text with a FAULT. */
    private static void statesEnd() {
        LateAndEarly x = Check.with("b0:t1=2;leave;");
        Check.parse(x, 1, "b0:leave;");
        Check.due("of the other place", x.write(1, 1), 13);
        Check.due("with a t", x.write(0, 1), -4);
        Check.parse(x, 0, "b0:leave;");
        Check.due("without a t", x.write(0, 1), 13);
        Check.parse(x, 0, "b0:t1=2;leave");
        Check.due("behind a FAULT", x.write(0, 2), 13);
        Check.parse(x, 0, "b0:tell 1;leave;");
        Check.due("behind that", x.write(0, 2), 23);
        StringBuilder sums = new StringBuilder("b0:");
        for (int e = 0; e < 33; e++) {
            sums.append("t1=v1+").append(e).append(";");
        }
        Check.due("33 SUMS", Check.parse(x, 0, sums + "leave;"), -3);
        Check.due("behind them", x.write(0, 2), 23);
    }

    /** 24: NONE: no such place, ROUTINE, PLACING. */
    private static void noPlaceSuch() {
        LateAndEarly x = new LateAndEarly();
        Check.parse(x, 3, "b0:leave;");
        x.feed(65, 1);
        for (int p : new int[] {0, 1, 2, 4, -1, Integer.MIN_VALUE, Integer.MAX_VALUE}) {
            Check.due("write of place " + p, x.write(p, 0), -1);
        }
        for (int placing : new int[] {3, -1, 4, Integer.MIN_VALUE, Integer.MAX_VALUE}) {
            Check.due("write with " + placing, x.write(3, placing), -1);
        }
        Check.due("the tape stays", Check.tape(x), "A");
        for (int placing = 0; placing < 3; placing++) {
            Check.due("write with " + placing, x.write(3, placing), 13);
        }
    }

    /** REFUSALS, of several the first one that the act tells: NONE, STATE, FULL. */
    private static void refusalsInOrder() {
        LateAndEarly x = Check.with("b0:t1=2;" + "v15=v14+999999999;".repeat(122) + "leave;");
        x.feed(65, 1);
        Check.due("NONE", x.write(0, 3), -1);
        Check.due("NONE", x.write(0, -1), -1);
        Check.due("NONE", x.write(1, 1), -1);
        Check.due("STATE", x.write(0, 1), -4);
        Check.due("STATE", x.write(0, 2), -4);
        Check.due("FULL", x.write(0, 0), -3);
        Check.due("the tape stays", Check.tape(x), "A");
    }
}
