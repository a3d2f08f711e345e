/** Promises 5 and 6: texts, their FAULTS, and what parse() does beside. */
public final class ParseTest {
    public static void main(String[] args) {
        goodTexts();
        tokens();
        tokensOutOfPlace();
        tooMuch();
        blocksThatDoNotFit();
        sumsAreFull();
        whatParseDoes();
        Check.end("ParseTest");
    }

    private static void good(String text, int nodes) {
        LateAndEarly x = new LateAndEarly();
        Check.due("parse of " + text, Check.parse(x, 0, text), nodes);
        Check.due("wrong of " + text, x.wrong(), 0);
    }

    private static void bad(String text, int place, int fault) {
        LateAndEarly x = new LateAndEarly();
        Check.due("parse of " + text, Check.parse(x, 0, text), -10 - place);
        Check.due("wrong of " + text, x.wrong(), fault);
        Check.due("about of " + text, x.about(0, 0), -1);
    }

    private static void goodTexts() {
        good("b0:leave;", 1);
        good("  b0\n:\nleave  ; \n", 1);
        good("b0:v0=1;v15=-2;t0=v0+v15;t31=- 999999999;leave;", 5);
        good("b0:v0=v1- -1;v0=-1-1;v0=v1-v2;v0=-1--1;leave;", 5);
        good("b0:v0=v1*v2;v0=v1&v2;v0=v1^v2;v0=v1/0;v0=r0[v1];v0=r1[-3];leave;", 7);
        good("b0:r0[-1]=-2;r1[t31]=v3;tell-5;tell v0;leave;", 5);
        good("b0:if v0<-1 b1 b1;b1:leave;", 4);
        good("b0:if v0<1 b1 b2;b1:go b2;b2:leave;", 4);
        good("b0:v0=000000000;leave;", 2);
    }

    private static void tokens() {
        bad("?", 0, 1);
        bad("b0:leave;\t", 9, 1);
        bad("b0:leave;\r", 9, 1);
        bad("b0:leave;A", 9, 1);
        bad("b0:leave;\u00ff", 9, 1);
        bad("b0:leave;\u0000", 9, 1);
        bad("b0:v0=v1%2;leave;", 8, 1);
        bad("b0:v0=v1>2;leave;", 8, 1);
        bad("b0:v0=0123456789;leave;", 6, 1);
        bad("b0:v0=1v;leave;", 6, 1);
        bad("b0:v0=v1v;leave;", 6, 1);
        bad("b0:v0=abcdefghi;leave;", 6, 1);
        bad("b0:v0=v00000001;leave;", 6, 1);
        bad("b0:v0=abcdefgh;leave;", 6, 2);
        bad("b0:v0=v0000001;leave;", 6, 2);
        bad("b0:if v0<1b1 b2;b1:go b2;b2:leave;", 9, 1);
        bad("123abc", 0, 1);
        bad("leave0a", 0, 1);
        bad("b0:a", 3, 2);
        bad("b0:z", 3, 2);
        bad("b0:az09", 3, 2);
        bad("b0:`", 3, 1);
        bad("b0:{", 3, 1);
        bad("b0:tel", 3, 2);
        bad("b0:tall", 3, 2);
        bad("b0:xell", 3, 2);
        bad("b0:telll", 3, 2);
        bad("b0:to", 3, 2);
        bad("b0:of", 3, 2);
        bad("b0:heave", 3, 2);
    }

    private static void tokensOutOfPlace() {
        bad("", 0, 2);
        bad("   ", 3, 2);
        bad("b1:leave;", 0, 2);
        bad("b00:leave;", 0, 2);
        bad("b0;leave;", 2, 2);
        bad("b0:", 3, 2);
        bad("b0:leave", 8, 2);
        bad("b0:leave \n", 10, 2);
        bad("b0:leave;b0:leave;", 9, 2);
        bad("b0:leave;b2:leave;", 9, 2);
        bad("b0:leave;leave;", 9, 2);
        bad("b0:leave0;", 3, 2);
        bad("b0:v16=1;leave;", 3, 2);
        bad("b0:t32=1;leave;", 3, 2);
        bad("b0:v01=1;leave;", 3, 2);
        bad("b0:vv1=1;leave;", 3, 2);
        bad("b0:v=1;leave;", 3, 2);
        bad("b0:r2[1]=1;leave;", 3, 2);
        bad("b0:r0[r1]=1;leave;", 6, 2);
        bad("b0:r0=1;leave;", 5, 2);
        bad("b0:r0[1]=v1+1;leave;", 11, 2);
        bad("b0:r0[1=v1;leave;", 7, 2);
        bad("b0:r0[1]=r1[1];leave;", 9, 2);
        bad("b0:b1=1;leave;", 3, 2);
        bad("b0:v0:1;leave;", 5, 2);
        bad("b0:v0=;leave;", 6, 2);
        bad("b0:v0=1 2;leave;", 8, 2);
        bad("b0:v0=-v1;leave;", 7, 2);
        bad("b0:v0=--1;leave;", 7, 2);
        bad("b0:v0=1---1;leave;", 9, 2);
        bad("b0:v0=+1;leave;", 6, 2);
        bad("b0:v0=1+2+3;leave;", 9, 2);
        bad("b0:v0=1<2;leave;", 7, 2);
        bad("b0:v0=r0[1]+1;leave;", 11, 2);
        bad("b0:v0=1+r0[1];leave;", 8, 2);
        bad("b0:v0=b0;leave;", 6, 2);
        bad("b0:v0=r0;leave;", 8, 2);
        bad("b0:v0=r0[;leave;", 9, 2);
        bad("b0:v0=r0[1;leave;", 10, 2);
        bad("b0:v0=1+;leave;", 8, 2);
        bad("b0:v0=-;leave;", 7, 2);
        bad("b0:r0[1]=;leave;", 9, 2);
        bad("b0:tell;leave;", 7, 2);
        bad("b0:tell v1+1;leave;", 10, 2);
        bad("b0:tell r0[1];leave;", 8, 2);
        bad("b0:go;", 5, 2);
        bad("b0:go v1;", 6, 2);
        bad("b0:go b40;", 6, 2);
        bad("b0:go b01;", 6, 2);
        bad("b0:if v0 b1 b1;", 9, 2);
        bad("b0:if v0<1 b1;b1:leave;", 13, 2);
        bad("b0:if v0<1 b1 b1 b1;b1:leave;", 17, 2);
        bad("b0:if v0=1 b1 b1;", 8, 2);
        bad("b0:leave;b1", 11, 2);
        bad("b0:leave;;", 9, 2);
        bad("b0:tell 1,", 9, 1);
        bad("b0:v0=1 ! leave $", 8, 1);
        bad("b0:v0=1 1 ! leave $", 8, 2);
    }

    private static String blocks(int count) {
        StringBuilder text = new StringBuilder();
        for (int b = 0; b < count; b++) {
            text.append('b').append(b).append(b + 1 < count ? ":go b" + (b + 1) + ";" : ":leave;");
        }
        return text.toString();
    }

    private static void tooMuch() {
        String most = blocks(40);
        good(most, 40);
        good(most + " ", 40);
        bad(most + "b40:leave;", most.length(), 3);
        bad(most + " b39", most.length() + 1, 3);
        bad(most + " ;", most.length() + 1, 3);
        bad(most + " 7", most.length() + 1, 3);
        bad(most + " foo", most.length() + 1, 3);
        bad(most + " ?", most.length() + 1, 1);
        bad(most + " 7a", most.length() + 1, 1);
        String statements = "b0:" + "tell 1;".repeat(159);
        good(statements + "leave;", 160);
        String full = statements + "tell 1;";
        bad(full + "leave;", full.length(), 3);
        bad(full + "v0=1;", full.length(), 3);
        bad(full + "t31", full.length(), 3);
        bad(full + "r0", full.length(), 3);
        bad(full + "tell;", full.length(), 3);
        bad(full + "go", full.length(), 3);
        bad(full + "if", full.length(), 3);
        bad(full + "v16=1;", full.length(), 2);
        bad(full + "b1:", full.length(), 2);
        bad(full + "7", full.length(), 2);
        bad(full + "", full.length(), 2);
        bad(full + "!", full.length(), 1);
        String two = statements + "go b1;b1:";
        bad(two, two.length(), 2);
        bad(two + "leave;", two.length(), 3);
        bad(statements + "leave;b2", statements.length() + 6, 2);
    }

    private static void blocksThatDoNotFit() {
        bad("b0:go b0;", 6, 4);
        bad("b0:go b1;", 6, 4);
        bad("b0:if v0<1 b1 b2;b1:leave;", 14, 4);
        bad("b0:if v0<1 b1 b0;b1:go b7;", 14, 4);
        bad("b0:if v0<1 b3 b0;b1:leave;", 11, 4);
        bad("b0:leave;b1:go b0;", 15, 4);
        bad("b0:leave;b1:go b39;", 15, 4);
        bad("b0:leave;b1:leave;b2:go b1;", 9, 5);
        bad("b0:go b2;b1:go b2;b2:leave;", 9, 5);
        bad("b0:go b1;b1:leave;b2:go b3;b3:go b2;", 18, 5);
        bad("b0:go b1;b1:go b1;b2:leave;", 18, 5);
        bad("b0:go b1;b1:go b1;", 0, 6);
        bad("b0:if v0<1 b1 b2;b1:go b1;b2:leave;", 17, 6);
        bad("b0:if v0<1 b1 b2;b1:leave;b2:go b3;b3:go b2;", 26, 6);
        bad("b0:go b1;b1:go b0;?", 18, 1);
        bad("b0:go b9;b1:leave", 17, 2);
    }

    private static String sums(int count) {
        StringBuilder text = new StringBuilder("b0:");
        for (int e = 0; e < count; e++) {
            text.append("v0=v1+").append(e).append(';');
        }
        return text.toString();
    }

    private static void sumsAreFull() {
        good(sums(32) + "leave;", 33);
        good(sums(32) + "v0=v1+031;leave;", 34);
        LateAndEarly x = new LateAndEarly();
        Check.parse(x, 0, "b0:leave;");
        Check.due("33 SUMS", Check.parse(x, 0, sums(33) + "leave;"), -3);
        Check.due("no FAULT", x.wrong(), 0);
        Check.due("the tape is empty", x.tape(0), -1);
        Check.due("the ROUTINE stays", x.about(0, 1), 1);
        Check.due("a good text behind it", Check.parse(x, 0, "b0:tell 1;leave;"), 2);
        Check.due("33 SUMS again", Check.parse(x, 0, sums(33) + "leave;"), -3);
        Check.due("a FAULT behind it", Check.parse(x, 0, "b0:tell 1;leave"), -25);
        bad(sums(33) + "leave", sums(33).length() + 5, 2);
        bad(sums(33) + "go b1;", sums(33).length() + 3, 4);
        good(sums(32) + "leave;", 33);
    }

    private static void whatParseDoes() {
        LateAndEarly x = new LateAndEarly();
        Check.feed(x, "b0:leave;");
        Check.due("parse -1", x.parse(-1), -1);
        Check.due("parse 4", x.parse(4), -1);
        Check.due("parse least", x.parse(Integer.MIN_VALUE), -1);
        Check.due("the tape stays", Check.tape(x), "b0:leave;");
        Check.due("parse 3", x.parse(3), 1);
        Check.due("the tape is empty", x.tape(0), -1);
        Check.due("parse of nothing", x.parse(3), -10);
        Check.due("wrong of nothing", x.wrong(), 2);
        Check.due("parse 9", x.parse(9), -1);
        Check.due("wrong stays", x.wrong(), 2);
        Check.due("the ROUTINE stays", x.about(3, 0), 1);
        Check.due("others are not there", x.about(0, 0), -1);
        x.step(3, 0);
        Check.feed(x, "b0:go");
        Check.due("parse of a fault", x.parse(3), -15);
        Check.due("the tape is empty", x.tape(0), -1);
        Check.due("the WAY stays", x.home(3), 1);
        x.step(3, 0);
        Check.due("a new ROUTINE", Check.parse(x, 3, "b0:tell 1;leave;"), 2);
        Check.due("wrong of it", x.wrong(), 0);
        Check.due("its WAY", x.home(3), 0);
        for (int p = 0; p < 4; p++) {
            Check.parse(x, p, "b0:" + "tell 1;".repeat(p) + "leave;");
        }
        for (int round = 0; round < 3; round++) {
            for (int p = 0; p < 4; p++) {
                Check.due("each its own", x.about(p, 1), p + 1 + (p < round ? 1 : 0));
            }
            Check.parse(x, round, "b0:" + "tell 1;".repeat(round + 1) + "leave;");
        }
    }
}
