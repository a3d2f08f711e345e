/** The edges that the first part of the Terms and promises 5 and 6 name, a sentence a method. */
public final class EdgeTextTest {
    private static final String[] NO_TOKENS = {"?", "A", "Z", "!", "%", "_", "7a", "a7a", "1234567890",
        "0000000000", "abcdefghi", "v00000000", "\t", "\r", "\u0000", "\u007f", "\u00ff", "(", ">", ","};

    public static void main(String[] args) {
        blanksAreTwoBytes();
        blanksBetweenAnyTokens();
        signsAreTwelve();
        tokensAreAsLongAsCanBe();
        wordsThatBeginNothing();
        wordsHaveEightSigns();
        numbersHaveNineDigits();
        rowsOfLettersAndDigits();
        blocksHaveAnyNumberOfStatements();
        namesEndAt15And31();
        rowsAreTwo();
        blocksThatEndsName();
        blocksThatBegin();
        minusOfAnOperandOrASum();
        theEndIsATokenToo();
        eachTokenHasItsPlace();
        noTokenIsTheLeastFault();
        fortyBlocks();
        oneHundredSixtyStatements();
        bothAtTheirMost();
        namedBlocksAreThere();
        noneNamesTheFirst();
        eachIsComeTo();
        fromEachALeave();
        laterFaultsInOrder();
        thirtyTwoSums();
        faultAheadOfFull();
        placesOfFaults();
        fourPlaces();
        tapeIsEmptyThen();
        theRoutineStays();
        wrongIsOfTheLatestText();
        Check.end("EdgeTextTest");
    }

    private static void good(String text, int nodes) {
        LateAndEarly x = new LateAndEarly();
        Check.due("parse of " + text, Check.parse(x, 0, text), nodes);
        Check.due("wrong of " + text, x.wrong(), 0);
        Check.due("about of " + text, x.about(0, 1), nodes);
    }

    private static void bad(String text, int place, int fault) {
        LateAndEarly x = new LateAndEarly();
        Check.due("parse of " + text, Check.parse(x, 0, text), -10 - place);
        Check.due("wrong of " + text, x.wrong(), fault);
        Check.due("about of " + text, x.about(0, 1), -1);
        Check.due("tape behind " + text, x.tape(0), -1);
    }

    private static boolean isLetter(char c) {
        return c >= 'a' && c <= 'z';
    }

    private static boolean isDigit(char c) {
        return c >= '0' && c <= '9';
    }

    private static boolean isSign(char c) {
        return ":;=+-*/&^<[]".indexOf(c) >= 0;
    }

    /** blanks (32, 10) between as may be; like any other byte. */
    private static void blanksAreTwoBytes() {
        for (char c = 0; c < 256; c++) {
            String text = "b0:" + c + "leave;";
            if (c == 32 || c == 10) {
                good(text, 1);
            } else {
                bad(text, 3, isLetter(c) || isSign(c) ? 2 : 1);
            }
        }
    }

    /** blanks between as may be: any number, none, and ahead of and behind all; not within a TOKEN. */
    private static void blanksBetweenAnyTokens() {
        String text = "b0 : v0 = - 1 ; v1 = v0 - - 2 ; r1 [ v0 ] = t0 ; v2 = r0 [ - 4 ] ; "
            + "tell 5 ; if - 1 < t1 b1 b1 ; b1 : leave ; ";
        good(text.replace(" ", "\n \n"), 9);
        good("\n  \n" + text, 9);
        good("b0:v0=-1;v1=v0--2;r1[v0]=t0;v2=r0[-4];tell 5;if-1<t1 b1 b1;b1:leave;", 9);
        bad("b 0:leave;", 0, 2);
        bad("b0:le ave;", 3, 2);
        bad("b0:v 0=1;leave;", 3, 2);
        bad("b0:v0=1 2;leave;", 8, 2);
    }

    /** SIGNS : ; = + - * / & ^ < [ ]; one that is no WORD or NUMBER is no TOKEN, like any other byte. */
    private static void signsAreTwelve() {
        for (char c = 0; c < 256; c++) {
            boolean blank = c == 32 || c == 10;
            boolean token = isLetter(c) || isDigit(c) || isSign(c);
            bad("" + c, blank ? 1 : 0, blank || token ? 2 : 1);
            bad("b0:" + c, blank ? 4 : 3, blank || token ? 2 : 1);
        }
    }

    /** each as long as can be. */
    private static void tokensAreAsLongAsCanBe() {
        bad("b0:gob1;b1:leave;", 3, 2);
        bad("b0:tell1;leave;", 3, 2);
        bad("b0:tellv0;leave;", 3, 2);
        bad("b0:if1<2 b1 b1;b1:leave;", 3, 2);
        bad("b0:leave1;", 3, 2);
        bad("b0:go b1b2;b1:leave;", 6, 1);
        bad("b0:v0=1leave;", 6, 1);
        bad("b0:if v0<1b1 b1;b1:leave;", 9, 1);
        bad("b0:if v0<v1b1 b1;b1:leave;", 9, 1);
        good("b0:tell 1;leave;", 2);
        good("b0:tell-1;leave;", 2);
        good("b0:if-1<-2 b1 b1;b1:leave;", 4);
    }

    /** tell, go, if and leave, and no WORDS that are near them. */
    private static void wordsThatBeginNothing() {
        String[] words = {"t", "tel", "telll", "xell", "tall", "texl", "telx", "g", "goo", "ho", "ga", "og", "i",
            "iff", "of", "ig", "fi", "leav", "leaves", "heave", "laave", "leeve", "leawe", "leavf", "end", "tell0"};
        for (String word : words) {
            bad("b0:" + word + " 1;leave;", 3, 2);
            bad("b0:" + word + ";", 3, 2);
        }
    }

    /** WORDS (letters a .. z, then digits, 8 signs at most). */
    private static void wordsHaveEightSigns() {
        for (String word : new String[] {"abcdefgh", "abcdefg1", "a1234567", "a", "z", "az", "a0", "z9"}) {
            bad(word, 0, 2);
            bad("b0:" + word, 3, 2);
            bad("b0:tell " + word, 8, 2);
        }
        for (String word : new String[] {"abcdefghi", "abcdefgh1", "a12345678", "v00000000",
            "abcdefghijklmnopqrstuvwxyz"}) {
            bad(word, 0, 1);
            bad("b0:" + word, 3, 1);
            bad("b0:tell " + word, 8, 1);
        }
    }

    /** NUMBERS (1 to 9 digits). */
    private static void numbersHaveNineDigits() {
        String[] digits = {"0", "9", "12", "123456789", "999999999", "000000000", "000000007"};
        int[] numbers = {0, 9, 12, 123456789, 999999999, 0, 7};
        for (int i = 0; i < digits.length; i++) {
            LateAndEarly x = Check.with("b0:tell " + digits[i] + ";tell-" + digits[i] + ";leave;");
            x.run(0, 0);
            Check.due("told " + digits[i], x.told(0), numbers[i]);
            Check.due("told -" + digits[i], x.told(1), -numbers[i]);
            bad(digits[i], 0, 2);
        }
        for (String ten : new String[] {"1234567890", "0000000000", "0000000001", "2147483648",
            "99999999999999999999"}) {
            bad(ten, 0, 1);
            bad("b0:tell " + ten + ";leave;", 8, 1);
            bad("b0:tell-" + ten + ";leave;", 8, 1);
            bad("b0:v0=v1+" + ten + ";leave;", 9, 1);
            bad("b0:v0=r0[" + ten + "];leave;", 9, 1);
        }
    }

    /** a row of letters and digits goes as far as these do. */
    private static void rowsOfLettersAndDigits() {
        for (String row : new String[] {"7a", "a7a", "0v", "v0v", "v0v0", "1b1", "b0b", "t1t1", "123456789a"}) {
            bad(row, 0, 1);
            bad("b0:" + row, 3, 1);
            bad("b0:tell " + row + ";leave;", 8, 1);
        }
        bad("b0:tell v0A;leave;", 10, 1);
        bad("b0:tell 7A;leave;", 9, 1);
        bad("b0:tell v0_;leave;", 10, 1);
    }

    /** { X } is any number of X. */
    private static void blocksHaveAnyNumberOfStatements() {
        good("b0:leave;", 1);
        good("b0:tell 1;leave;", 2);
        good("b0:" + "tell 1;".repeat(159) + "leave;", 160);
        bad("", 0, 2);
        bad("b0:", 3, 2);
        bad("b0:tell 1;", 10, 2);
    }

    private static void nameEverywhere(String name, boolean isOne) {
        String[] around = {"#=1;", "v0=#;", "v0=#+1;", "v0=1+#;", "v0=r0[#];", "r0[#]=1;", "r0[1]=#;",
            "tell #;", "if #<1 b1 b1;b1:", "if 1<# b1 b1;b1:"};
        for (String a : around) {
            String text = "b0:" + a.replace("#", name) + "leave;";
            if (isOne) {
                good(text, a.startsWith("if") ? 4 : 2);
            } else {
                bad(text, 3 + a.indexOf('#'), 2);
            }
        }
    }

    /** NAMES are v0 .. v15, t0 .. t31; (no 0 ahead of other digits, anywhere in these). */
    private static void namesEndAt15And31() {
        for (int k = 0; k < 34; k++) {
            nameEverywhere("v" + k, k < 16);
            nameEverywhere("t" + k, k < 32);
        }
        for (String none : new String[] {"v", "t", "v00", "v01", "v015", "t00", "t01", "t031", "v99", "v100",
            "t100", "v1000000", "t9999999", "u0", "w0", "s1", "a0", "vv0", "tv1", "vt1", "tt0", "b0", "zz"}) {
            nameEverywhere(none, false);
        }
    }

    /** ROWS r0, r1. */
    private static void rowsAreTwo() {
        for (String row : new String[] {"r0", "r1"}) {
            good("b0:" + row + "[1]=1;leave;", 2);
            good("b0:v0=" + row + "[1];leave;", 2);
        }
        for (String row : new String[] {"r2", "r3", "r9", "r10", "r00", "r01", "r000", "r", "rr0", "q0", "s0"}) {
            bad("b0:" + row + "[1]=1;leave;", 3, 2);
            bad("b0:v0=" + row + "[1];leave;", 6, 2);
        }
        bad("b0:v0=r0;leave;", 8, 2);
        bad("b0:r0=1;leave;", 5, 2);
        bad("b0:tell r0;leave;", 8, 2);
        bad("b0:v0=1+r0[1];leave;", 8, 2);
        bad("b0:r0[r1[1]]=1;leave;", 6, 2);
    }

    private static String blocks(int count) {
        StringBuilder text = new StringBuilder();
        for (int b = 0; b < count; b++) {
            text.append('b').append(b).append(b + 1 < count ? ":go b" + (b + 1) + ";" : ":leave;");
        }
        return text.toString();
    }

    /** BLOCKS b0 .. b39. */
    private static void blocksThatEndsName() {
        good("b0:go b1;b1:leave;", 2);
        for (String none : new String[] {"b40", "b41", "b99", "b100", "b400", "b01", "b00", "b001", "b039", "b",
            "bb1", "c1", "a1", "v1", "r1", "1", "leave", "go", ";", "-", "-1"}) {
            bad("b0:go " + none + ";b1:leave;", 6, 2);
            bad("b0:if v0<1 " + none + " b1;b1:leave;", 11, 2);
            bad("b0:if v0<1 b1 " + none + ";b1:leave;", 14, 2);
        }
        bad("b0:go b39;b1:leave;", 6, 4);
        String most = blocks(40);
        good(most, 40);
        bad(most.replace("go b39", "go b40"), most.indexOf("b39"), 2);
    }

    /** the k-th block, from 0 on, begins with bk. */
    private static void blocksThatBegin() {
        for (String none : new String[] {"b1", "b00", "b", "b40", "a0", "c0", "v0", "0", "leave", ":", "go"}) {
            bad(none + ":leave;", 0, 2);
        }
        for (String none : new String[] {"b0", "b2", "b01", "b10", "b11", "v1", "1", "leave", "tell", ":"}) {
            bad("b0:go b1;" + none + ":leave;", 9, 2);
        }
        String eleven = blocks(11);
        int place = eleven.lastIndexOf("b10");
        good(eleven, 11);
        for (String none : new String[] {"b010", "b9", "b11", "b1", "b100"}) {
            bad(eleven.substring(0, place) + none + ":leave;", place, 2);
        }
        String most = blocks(40);
        place = most.lastIndexOf("b39");
        bad(most.substring(0, place) + "b40:leave;", place, 2);
        bad(most.substring(0, place) + "b38:leave;", place, 2);
    }

    private static void works(String value, int sign, int first, int second) {
        LateAndEarly x = Check.with("b0:v0=" + value + ";leave;");
        Check.due("SUMS of " + value, x.about(0, 2), 1);
        Check.due("sign of " + value, x.sum(0, 0, 0), sign);
        Check.due("first of " + value, x.sum(0, 0, 1), first);
        Check.due("second of " + value, x.sum(0, 0, 2), second);
    }

    /** A - is that of an operand where an operand can begin, else that of a sum. */
    private static void minusOfAnOperandOrASum() {
        works("1-2", '-', 1, 2);
        works("1 -2", '-', 1, 2);
        works("1--2", '-', 1, -2);
        works("-1-2", '-', -1, 2);
        works("-1--2", '-', -1, -2);
        works("- 1 - - 2", '-', -1, -2);
        works("v3-2", '-', 1003, 2);
        works("v3--2", '-', 1003, -2);
        works("1+-2", '+', 1, -2);
        works("-1*-2", '*', -1, -2);
        works("r1[-2]", 'r', 1, -2);
        Check.due("- 1 is no SUM", Check.with("b0:v0=- 1;leave;").about(0, 2), 0);
        bad("b0:v0=--1;leave;", 7, 2);
        bad("b0:v0=1---2;leave;", 9, 2);
        bad("b0:v0=-v1;leave;", 7, 2);
        bad("b0:v0=1--v1;leave;", 9, 2);
        bad("b0:v0=-r0[1];leave;", 7, 2);
        bad("b0:v0=-;leave;", 7, 2);
        bad("b0:v0=1-;leave;", 8, 2);
        bad("b0:tell 1-1;leave;", 9, 2);
        bad("b0:tell--1;leave;", 8, 2);
        bad("b0:r0[1-1]=1;leave;", 7, 2);
        bad("b0:r0[1]=1-1;leave;", 10, 2);
        bad("b0:v0=r0[1]-1;leave;", 11, 2);
        bad("b0:v0=1-2-3;leave;", 9, 2);
        bad("b0:if 1-1<2 b1 b1;b1:leave;", 7, 2);
        bad("b0:if 1<2-1 b1 b1;b1:leave;", 9, 2);
    }

    private static final String[] ONE_BLOCK = {"b0", ":", "v0", "=", "-", "1", ";", "v1", "=", "v0", "-", "-",
        "2", ";", "r1", "[", "v0", "]", "=", "-", "3", ";", "v2", "=", "r0", "[", "-", "4", "]", ";", "t3", "=",
        "r1", "[", "t3", "]", ";", "tell", "5", ";", "tell", "v1", ";", "leave", ";"};
    private static final String[] AN_IF = {"b0", ":", "if", "v0", "<", "-", "1", "b1", "b1"};
    private static final String[] A_GO = {"b0", ":", "go", "b1"};

    private static String joined(String[] tokens, int count) {
        StringBuilder text = new StringBuilder();
        for (int i = 0; i < count; i++) {
            text.append(tokens[i]).append(i % 2 == 0 ? " " : "\n ");
        }
        return text.toString();
    }

    /** 2 it can't stand there (the end: the text's length is its place). */
    private static void theEndIsATokenToo() {
        for (String[] tokens : new String[][] {ONE_BLOCK, AN_IF, A_GO}) {
            for (int i = 0; i < tokens.length; i++) {
                String text = joined(tokens, i);
                bad(text, text.length(), 2);
                bad(text + " \n ", text.length() + 3, 2);
                bad(text.stripTrailing(), text.stripTrailing().length(), 2);
            }
        }
        String text = joined(ONE_BLOCK, ONE_BLOCK.length);
        good(text, 8);
        good(text + " \n ", 8);
        bad(joined(AN_IF, 9), joined(AN_IF, 9).length(), 2);
        bad(joined(A_GO, 4), joined(A_GO, 4).length(), 2);
    }

    /** FAULTS, the first TOKEN with one. */
    private static void eachTokenHasItsPlace() {
        for (String[] tokens : new String[][] {ONE_BLOCK, AN_IF, A_GO}) {
            for (int i = 0; i < tokens.length; i++) {
                String text = joined(tokens, i);
                bad(text + "zz", text.length(), 2);
                bad(text + "zz ? 7a", text.length(), 2);
                bad(text + "b40", text.length(), 2);
                bad(text + "? zz", text.length(), 1);
                bad(text + "7a", text.length(), 1);
            }
        }
        String text = joined(ONE_BLOCK, ONE_BLOCK.length);
        for (String more : new String[] {"zz", "b0:leave;", "b2:leave;", "leave;", "v0=1;", ";", "7", "tell 1;"}) {
            bad(text + more, text.length(), 2);
        }
        bad(text + "b1:leave;", text.length(), 5);
    }

    /** of one TOKEN the least: 1 it is none. */
    private static void noTokenIsTheLeastFault() {
        String most = blocks(40);
        String full = "b0:" + "tell 1;".repeat(160);
        for (String none : NO_TOKENS) {
            bad(none, 0, 1);
            bad("b0:" + none, 3, 1);
            bad("b0:leave;" + none, 9, 1);
            bad("b0:v0=" + none + ";leave;", 6, 1);
            bad(most + none, most.length(), 1);
            bad(full + none, full.length(), 1);
        }
    }

    /** At most 40 blocks. 3 too much: any TOKEN where a 41st block would begin. */
    private static void fortyBlocks() {
        String most = blocks(40);
        good(blocks(39), 39);
        good(most, 40);
        good(most + "\n \n", 40);
        for (String any : new String[] {"b40:leave;", "b40", "b39", "b0", "b", "leave;", "tell 1;", "v0=1;",
            "r0", "7", "zz", ":", ";", "=", "-", "<", "["}) {
            bad(most + any, most.length(), 3);
            bad(most + " \n" + any, most.length() + 2, 3);
            bad(most + any + " ?", most.length(), 3);
        }
        String unended = most.substring(0, most.length() - 1);
        bad(unended, unended.length(), 2);
        bad(unended + "b40", unended.length() - 5, 2);
    }

    /** 160 statements and ends together. 3: the first TOKEN of one beyond 160, if one could begin so. */
    private static void oneHundredSixtyStatements() {
        String most = "b0:" + "tell 1;".repeat(159);
        good(most + "leave;", 160);
        good(most.replaceFirst("tell 1;", "") + "go b1;b1:leave;", 160);
        String full = most + "tell 1;";
        String blockMore = most + "go b1;b1:";
        for (String begins : new String[] {"v0", "v15", "t0", "t31", "r0", "r1", "tell", "go", "if", "leave"}) {
            bad(full + begins, full.length(), 3);
            bad(full + "\n" + begins + " ;", full.length() + 1, 3);
            bad(full + begins + "?", full.length(), 3);
            bad(blockMore + begins, blockMore.length(), 3);
        }
        bad(full + "leave;", full.length(), 3);
        bad(blockMore + "leave;", blockMore.length(), 3);
        for (String not : new String[] {"v16", "t32", "v00", "r2", "b0", "b1", "b1:leave;", "7", "zz", ";", ":",
            "=", "-", "["}) {
            bad(full + not, full.length(), 2);
            bad(blockMore + not, blockMore.length(), 2);
        }
        bad(full, full.length(), 2);
        bad(blockMore, blockMore.length(), 2);
        bad(most + "go b1;b1", most.length() + 8, 2);
        bad(most + "go b1;b2", most.length() + 6, 2);
        bad(most + "leave;leave;", most.length() + 6, 2);
        bad(most + "leave", most.length() + 5, 2);
    }

    /** 160 statements and ends in 40 blocks, an if of two ways at the end of all but one. */
    private static void bothAtTheirMost() {
        StringBuilder text = new StringBuilder();
        for (int b = 0; b < 40; b++) {
            text.append("b").append(b).append(":tell 1;tell 2;tell 3;");
            text.append(b == 39 ? "leave;" : "if v0<1 b" + (b + 1) + " b" + (b + 1) + ";");
        }
        good(text.toString(), 160 + 78);
        int last = text.length() - 6;
        bad(text.substring(0, last) + "tell 1;leave;", last + 7, 3);
        bad(text + "b40:leave;", text.length(), 3);
        bad(text + "7", text.length(), 3);
    }

    /** Each block that an end names must be there. 4 (at the first such name). */
    private static void namedBlocksAreThere() {
        good("b0:go b1;b1:leave;", 2);
        bad("b0:go b2;b1:leave;", 6, 4);
        bad("b0:go b39;b1:leave;", 6, 4);
        bad("b0:if v0<1 b2 b1;b1:leave;", 11, 4);
        bad("b0:if v0<1 b1 b2;b1:leave;", 14, 4);
        bad("b0:if v0<1 b3 b2;b1:leave;", 11, 4);
        bad("b0:if v0<1 b1 b1;b1:if v0<1 b1 b2;", 31, 4);
        bad("b0:go b1;b1:go b2;b2:go b3;", 24, 4);
        bad("b0:go  b9;b1:go b8;", 7, 4);
        String most = blocks(40);
        bad(most.substring(0, most.lastIndexOf("b39")), most.indexOf("b39"), 4);
    }

    /** none names b0. 4: or b0. */
    private static void noneNamesTheFirst() {
        bad("b0:go b0;", 6, 4);
        bad("b0:if v0<1 b0 b1;b1:leave;", 11, 4);
        bad("b0:if v0<1 b1 b0;b1:leave;", 14, 4);
        bad("b0:if v0<1 b0 b9;b1:leave;", 11, 4);
        bad("b0:if v0<1 b9 b0;b1:leave;", 11, 4);
        bad("b0:leave;b1:go b0;", 15, 4);
        bad("b0:go b1;b1:if v0<1 b1 b0;", 23, 4);
    }

    /** each must be come to from b0. 5 (the least; at its BLOCK). */
    private static void eachIsComeTo() {
        bad("b0:leave; b1 :leave;", 10, 5);
        bad("b0:leave;b1:leave;b2:leave;", 9, 5);
        bad("b0:go b2;b1:leave;b2:leave;", 9, 5);
        bad("b0:go b1;b1:leave;b2:leave;", 18, 5);
        bad("b0:go b1;b1:leave;b2:go b2;", 18, 5);
        bad("b0:go b1;b1:leave;b2:go b3;b3:go b2;", 18, 5);
        bad("b0:go b1;b1:leave;b2:go b1;", 18, 5);
        good("b0:go b2;b1:leave;b2:go b1;", 3);
        good("b0:if v0<1 b3 b1;b1:leave;b2:leave;b3:go b2;", 4);
        // Against the order of the numbers, as far as there are blocks.
        StringBuilder text = new StringBuilder("b0:go b39;b1:leave;");
        for (int b = 2; b < 40; b++) {
            text.append("b").append(b).append(":go b").append(b - 1).append(";");
        }
        good(text.toString(), 40);
        String cut = text.toString().replace("b39:go b38", "b39:go b37");
        bad(cut, cut.indexOf("b38:"), 5);
        cut = text.toString().replace("b2:go b1;", "b2:leave;");
        bad(cut, cut.indexOf("b1:"), 5);
    }

    /** from each a leave must be come to. 6 (likewise). */
    private static void fromEachALeave() {
        bad("b0:go b1; b1 :go b1;", 0, 6);
        bad(" b0:go b1;b1:go b2;b2:go b1;", 1, 6);
        bad("b0:if v0<1 b1 b2;b1:leave; b2:go b2;", 27, 6);
        bad("b0:if v0<1 b1 b2;b1:if v0<1 b1 b1;b2:leave;", 17, 6);
        bad("b0:if v0<1 b3 b1;b1:go b2;b2:go b1;b3:leave;", 17, 6);
        bad("b0:if v0<1 b1 b3;b1:leave;b2:go b3;b3:go b2;", 26, 6);
        good("b0:if v0<1 b1 b2;b1:if v0<1 b1 b2;b2:leave;", 7);
        good("b0:go b1;b1:if v0<1 b2 b1;b2:leave;", 4);
        // As far as there are blocks, with the numbers and against them.
        good(blocks(40), 40);
        StringBuilder text = new StringBuilder("b0:go b39;b1:leave;");
        for (int b = 2; b < 40; b++) {
            text.append("b").append(b).append(":go b").append(b - 1).append(";");
        }
        bad(text.toString().replace("b1:leave", "b1:go b1"), 0, 6);
        String most = blocks(40);
        bad(most.replace("leave", "go b39"), 0, 6);
        bad(most.replace("b0:go b1;", "b0:if v0<1 b1 b38;").replace("leave", "go b39"), 0, 6);
    }

    /** Behind all these (4 ahead of 5, 5 ahead of 6). */
    private static void laterFaultsInOrder() {
        bad("b0:go b9;b1:leave", 17, 2);
        bad("b0:go b0;b1:leave;?", 18, 1);
        bad("b0:go b0;b1:leave;7", 18, 2);
        bad("b0:go b0;" + blocks(40).substring(9) + "b40", blocks(40).length(), 3);
        bad("b0:leave;b1:leave;b2:go b9;", 24, 4);
        bad("b0:leave;b1:leave;b2:go b0;", 24, 4);
        bad("b0:go b1;b1:go b1;b2:go b3;", 24, 4);
        bad("b0:go b1;b1:go b1;b2:leave;", 18, 5);
        bad("b0:leave;b1:go b1;", 9, 5);
        bad("b0:go b1;b1:go b1;", 0, 6);
    }

    private static String sums(int count) {
        StringBuilder text = new StringBuilder("b0:");
        for (int e = 0; e < count; e++) {
            text.append("v0=v1+").append(e).append(';');
        }
        return text.toString();
    }

    /** They are at most 32. 5: FULL (no FAULT): more than 32 SUMS. */
    private static void thirtyTwoSums() {
        good(sums(31) + "leave;", 32);
        good(sums(32) + "leave;", 33);
        good(sums(32) + "v9=v1+0;v9=v1+031;v9=v1;leave;", 36);
        String[] more = {"v1+32", "v1-0", "0+v1", "r0[v1]", "v1+-1", "v2+0"};
        for (String sum : more) {
            LateAndEarly x = Check.with("b0:leave;");
            Check.due("33 SUMS", Check.parse(x, 0, sums(32) + "v9=" + sum + ";leave;"), -3);
            Check.due("no FAULT", x.wrong(), 0);
            Check.due("empty then", x.tape(0), -1);
            Check.due("the ROUTINE stays", x.about(0, 1), 1);
            Check.due("none at another place", Check.parse(x, 1, sums(33) + "leave;"), -3);
            Check.due("none at another place", x.about(1, 1), -1);
        }
        LateAndEarly x = new LateAndEarly();
        Check.due("150 SUMS", Check.parse(x, 0, sums(150) + "leave;"), -3);
        Check.due("32 behind it", Check.parse(x, 0, sums(32) + "leave;"), 33);
        Check.due("33 behind that", Check.parse(x, 0, sums(33) + "leave;"), -3);
        Check.due("the 32 stay", x.about(0, 2), 32);
    }

    /** 5: FULL (no FAULT). */
    private static void faultAheadOfFull() {
        String text = sums(33);
        bad(text + "leave", text.length() + 5, 2);
        bad(text + "?", text.length(), 1);
        bad(text + "go b1;", text.length() + 3, 4);
        bad(text + "leave;b1:leave;", text.length() + 6, 5);
        bad(text + "go b1;b1:go b1;", 0, 6);
    }

    /** 5: -10 less the place of its FAULT; a text is as long as THE TAPE. */
    private static void placesOfFaults() {
        bad("?", 0, 1);
        bad(" ?", 1, 1);
        good("b0:leave;" + " ".repeat(2991), 1);
        good(" ".repeat(2991) + "b0:leave;", 1);
        bad("b0:leave" + "\n".repeat(2992), 3000, 2);
        bad(" ".repeat(3000), 3000, 2);
        bad(" ".repeat(2992) + "b0:leave", 3000, 2);
        bad("b0:leave;" + " ".repeat(2990) + "?", 2999, 1);
        bad("b0:leave;" + " ".repeat(2990) + ";", 2999, 2);
        bad(" ".repeat(2991) + "b0:go b0;", 2997, 4);
        bad(" ".repeat(2988) + "?b0:go b1;b1", 2988, 1);
        bad(" ".repeat(2982) + "b0:leave;b1:leave;", 2991, 5);
        bad("a".repeat(3000), 0, 1);
        bad("7".repeat(3000), 0, 1);
        bad(";".repeat(3000), 0, 2);
        bad("b0:leave;" + "-".repeat(2991), 9, 2);
        bad("b0:leave;" + "x".repeat(2991), 9, 1);
    }

    /** 5: at place p (0 .. 3). NONE. */
    private static void fourPlaces() {
        int[] none = {-1, 4, 5, -2, 256, -256, Integer.MIN_VALUE, Integer.MAX_VALUE};
        for (int p : none) {
            LateAndEarly x = new LateAndEarly();
            Check.feed(x, "?");
            x.parse(0);
            Check.feed(x, "b0:leave;");
            Check.due("parse " + p, x.parse(p), -1);
            Check.due("not with NONE", Check.tape(x), "b0:leave;");
            Check.due("wrong stays", x.wrong(), 1);
            Check.due("the same text", x.parse(3), 1);
            Check.due("about 3", x.about(3, 1), 1);
            Check.due("about 0", x.about(0, 1), -1);
            Check.due("parse " + p + " of nothing", x.parse(p), -1);
            Check.due("wrong stays", x.wrong(), 0);
        }
        // NONE is ahead of a FAULT, and of FULL.
        for (String text : new String[] {"?", "b0:leave", "", sums(33) + "leave;"}) {
            LateAndEarly x = new LateAndEarly();
            Check.parse(x, 0, "b0:go b0;");
            Check.due("parse 4 of " + text, Check.parse(x, 4, text), -1);
            Check.due("parse -1 of " + text, Check.parse(x, -1, text), -1);
            Check.due("wrong stays", x.wrong(), 4);
            Check.due("the tape stays", x.cut(text.length()), text.length());
        }
        for (int p = 0; p < 4; p++) {
            LateAndEarly x = new LateAndEarly();
            Check.due("parse " + p, Check.parse(x, p, "b0:leave;"), 1);
            for (int q = -1; q < 5; q++) {
                Check.due("about " + q, x.about(q, 1), q == p ? 1 : -1);
            }
        }
    }

    /** 5: THE TAPE, which is empty then (with FULL, too). */
    private static void tapeIsEmptyThen() {
        String[] texts = {"", "b0:leave;", "b0:leave", "?", "b0:go b0;", "b0:leave;b1:leave;",
            "b0:go b1;b1:go b1;", sums(33) + "leave;", "b0:" + "tell 1;".repeat(160) + "leave;"};
        for (String text : texts) {
            LateAndEarly x = new LateAndEarly();
            Check.parse(x, 0, text);
            Check.due("tape behind " + text, x.tape(0), -1);
            Check.due("cut behind " + text, x.cut(1), -2);
            Check.due("feed behind " + text, x.feed(65, 1), 1);
            Check.due("only that", Check.tape(x), "A");
        }
    }

    /** 5: the ROUTINE there stays. REFUSALS change nothing (but THE TAPE). */
    private static void theRoutineStays() {
        String old = "b0: if v0 < 1 b1 b2; b1: v1 = 8 / v2; v4 = v2 + 3; go b2; b2: v3 = 8 / v2; leave;";
        Script with = new Script().parse(1, old).parse(2, "b0: t1 = 4; leave;")
            .call(x -> x.name(2, 3)).call(x -> x.step(1, 0)).call(x -> x.step(1, 1)).call(x -> x.run(1, 1));
        String[] texts = {"?", "b0:v0=1+1;v1=2+2;leave", "b0:go b0;", "b0:leave;b1:leave;", "b0:go b1;b1:go b1;",
            "", "b0:" + "tell 1;".repeat(160) + "leave;", sums(33) + "leave;"};
        int[] faults = {1, 2, 4, 5, 6, 2, 3, 0};
        for (int i = 0; i < texts.length; i++) {
            String text = texts[i];
            Script more = new Script().parse(1, text);
            Check.due("fault of " + text, with.and(more).play().wrong(), faults[i]);
            // wrong() is set back by a text without a FAULT at a place that has none else.
            Script back = new Script().parse(3, "b0:leave;");
            Check.due("all behind " + text, with.and(more).and(back).seen(), with.and(back).seen());
        }
    }

    /** 6: The FAULT of the latest text that parse() read (0: none; an empty one is a text). */
    private static void wrongIsOfTheLatestText() {
        LateAndEarly x = new LateAndEarly();
        Check.due("no text", x.wrong(), 0);
        Check.due("parse of no place", x.parse(4), -1);
        Check.due("still no text", x.wrong(), 0);
        String[] texts = {"", "b0:leave;", "?", "zz", "b0:leave;", "b0:go b0;", "b0:leave;b1:leave;",
            "b0:go b1;b1:go b1;", sums(33) + "leave;", "b0:go b0;", "b0:leave;"};
        int[] faults = {2, 0, 1, 2, 0, 4, 5, 6, 0, 4, 0};
        for (int i = 0; i < texts.length; i++) {
            Check.parse(x, i % 4, texts[i]);
            Check.due("wrong of " + texts[i], x.wrong(), faults[i]);
            x.parse(-1);
            x.parse(4);
            Check.feed(x, "?");
            Check.due("wrong again of " + texts[i], x.wrong(), faults[i]);
        }
        String most = blocks(40);
        LateAndEarly y = new LateAndEarly();
        Check.parse(y, 0, most + "b40:leave;");
        Check.due("wrong of 41 blocks", y.wrong(), 3);
    }
}
