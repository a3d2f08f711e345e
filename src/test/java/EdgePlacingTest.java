/** The edges of PLACINGS and of LIFE in the third part of the Terms, and promises 11 to 13. */
public final class EdgePlacingTest {
    private static final int[] FAR = {Integer.MIN_VALUE, -1000, -2, 4, 5, 255, 256, 1000, Integer.MAX_VALUE};
    private static final String[] TEXTS = {
        "b0:v1=v1+v2;v3=v1+v2;leave;",
        "b0:v3=v1+v2;v3=v1+v2;leave;",
        "b0:v9=0;go b1;b1:if v0<1 b1 b2;b2:v3=v1+v2;leave;",
        "b0:v3=v1+v2;go b1;b1:tell v0;if v0<1 b1 b2;b2:v4=v1+v2;leave;",
        "b0:if v0<1 b1 b2;b1:v3=v1/v2;go b2;b2:v4=v1/v2;leave;",
        "b0:v9=0;if v0<1 b1 b2;b1:v3=v1+v2;v5=v1*2;go b3;b2:v3=r0[v1];r0[v1]=2;go b3;"
            + "b3:v4=v1+v2;v1=v1*2;v3=r0[v1];if v0<2 b3 b4;b4:tell v4;v4=v1*2;leave;"};

    public static void main(String[] args) {
        plainSetsNothing();
        earlyByItsWords();
        lateByItsWords();
        setWhereItIsWorked();
        takenWhereItIsNotLatest();
        lifeIsTheLeast();
        livesOnByEitherWay();
        lifeDoesNotLieWhereItIsSet();
        countsOfNodes();
        threePlacings();
        whatsOfPlaced();
        whatsOfPlaces();
        placesAndSums();
        Check.end("EdgePlacingTest");
    }

    private static void placing(LateAndEarly x, int placing, String set, String taken, String alive) {
        Check.due("SET " + placing, Check.placed(x, placing, 0, 0), set);
        Check.due("TAKEN " + placing, Check.placed(x, placing, 0, 1), taken);
        Check.due("alive " + placing, Check.placed(x, placing, 0, 2), alive);
    }

    /** 0 PLAIN: nothing is set. */
    private static void plainSetsNothing() {
        for (String text : TEXTS) {
            LateAndEarly x = Check.with(text);
            String no = "0".repeat(x.about(0, 1));
            placing(x, 0, no, no, no);
            Check.due("life", x.life(0, 0, 0), 0);
            Check.due("places 0", x.places(0, 0, 0, 0), 0);
            Check.due("places 1", x.places(0, 0, 0, 1), 0);
        }
    }

    /** 1 EARLY: ahead of each EARLY NODE the SUM is SET; each NODE that WORKS it TAKES it. */
    private static void earlyByItsWords() {
        for (String text : TEXTS) {
            LateAndEarly x = Check.with(text);
            for (int e = 0; e < x.about(0, 2); e++) {
                Check.due("SET of " + e + " in " + text, Check.placed(x, 1, e, 0), Check.at(x, e, 4));
                Check.due("TAKEN of " + e + " in " + text, Check.placed(x, 1, e, 1), Check.at(x, e, 0));
            }
        }
    }

    /** 2 LATE: SET ahead of each that is LATEST and not ALONE; TAKEN but by one that is both. */
    private static void lateByItsWords() {
        for (String text : TEXTS) {
            LateAndEarly x = Check.with(text);
            for (int e = 0; e < x.about(0, 2); e++) {
                String works = Check.at(x, e, 0);
                String latest = Check.at(x, e, 6);
                String alone = Check.at(x, e, 7);
                StringBuilder set = new StringBuilder();
                StringBuilder taken = new StringBuilder();
                for (int n = 0; n < works.length(); n++) {
                    boolean both = latest.charAt(n) == '1' && alone.charAt(n) == '1';
                    set.append(latest.charAt(n) == '1' && alone.charAt(n) == '0' ? 1 : 0);
                    taken.append(works.charAt(n) == '1' && !both ? 1 : 0);
                }
                Check.due("SET of " + e + " in " + text, Check.placed(x, 2, e, 0), set.toString());
                Check.due("TAKEN of " + e + " in " + text, Check.placed(x, 2, e, 1), taken.toString());
            }
        }
    }

    /** one that is LATEST and ALONE: nothing is SET for it, and it WORKS the SUM itself. */
    private static void setWhereItIsWorked() {
        LateAndEarly x = Check.with(TEXTS[0]);
        placing(x, 1, "110", "110", "000");
        placing(x, 2, "000", "000", "000");
        LateAndEarly y = Check.with(TEXTS[2]);
        placing(y, 1, "100000", "000100", "011101");
        placing(y, 2, "000000", "000000", "000000");
    }

    /** each NODE that WORKS it TAKES it: the second one of two, which is not LATEST, too. */
    private static void takenWhereItIsNotLatest() {
        LateAndEarly x = Check.with(TEXTS[1]);
        placing(x, 1, "100", "110", "010");
        placing(x, 2, "100", "110", "010");
        LateAndEarly y = Check.with(TEXTS[4]);
        placing(y, 1, "100000", "010100", "011101");
        placing(y, 2, "010001", "010100", "001100");
    }

    /** LIFE (of several sets the least): it does not live in a loop that never TAKES it. */
    private static void lifeIsTheLeast() {
        LateAndEarly x = Check.with("b0:v3=v1+v2;v4=v1+v2;go b1;b1:tell v0;if v0<1 b1 b2;b2:leave;");
        for (int placing = 1; placing < 3; placing++) {
            placing(x, placing, "1000000", "1100000", "0100000");
            Check.due("life", x.life(0, placing, 0), 1);
        }
        LateAndEarly y = Check.with(TEXTS[3]);
        for (int placing = 1; placing < 3; placing++) {
            placing(y, placing, "1000000", "1000100", "0111101");
            Check.due("life", y.life(0, placing, 0), 5);
        }
    }

    /** it lives on: some NODE to which it leads has it alive. */
    private static void livesOnByEitherWay() {
        LateAndEarly x = Check.with("b0:v3=v1+v2;if v0<1 b1 b2;b1:leave;b2:v4=v1+v2;leave;");
        LateAndEarly y = Check.with("b0:v3=v1+v2;if v0<1 b2 b1;b1:leave;b2:v4=v1+v2;leave;");
        LateAndEarly z = Check.with("b0:v3=v1+v2;if v0<1 b2 b1;b1:v4=v1+v2;leave;b2:leave;");
        for (int placing = 1; placing < 3; placing++) {
            placing(x, placing, "10000", "10010", "01010");
            placing(y, placing, "10000", "10010", "01010");
            placing(z, placing, "10000", "10100", "01100");
        }
    }

    /** it does not lie SET there: not even where it is TAKEN, or goes on from. */
    private static void lifeDoesNotLieWhereItIsSet() {
        LateAndEarly x = Check.with("b0:v1=v1+v2;v3=v1+v2;v4=v1+v2;leave;");
        placing(x, 1, "1100", "1110", "0010");
        placing(x, 2, "0100", "0110", "0010");
        Check.due("early life", x.life(0, 1, 0), 1);
        Check.due("late life", x.life(0, 2, 0), 1);
        LateAndEarly y = Check.with("b0:v3=v1+v2;leave;");
        Check.due("life of one SET and TAKEN at once", y.life(0, 1, 0), 0);
    }

    /** 12, 13: at how many NODES; ahead of how many it is SET, how many TAKE it. */
    private static void countsOfNodes() {
        for (String text : TEXTS) {
            LateAndEarly x = Check.with(text);
            for (int i = 0; i < 3 * x.about(0, 2); i++) {
                int placing = i % 3;
                int e = i / 3;
                int[] count = new int[3];
                for (int what = 0; what < 3; what++) {
                    count[what] = (int) Check.placed(x, placing, e, what).chars().filter(c -> c == '1').count();
                }
                Check.due("places 0", x.places(0, placing, e, 0), count[0]);
                Check.due("places 1", x.places(0, placing, e, 1), count[1]);
                Check.due("life", x.life(0, placing, e), count[2]);
            }
        }
        LateAndEarly x = Check.with("b0:" + "v3=v1+v2;".repeat(159) + "leave;");
        Check.due("life of 158 NODES", x.life(0, 1, 0), 158);
        Check.due("159 TAKE it", x.places(0, 2, 0, 1), 159);
        Check.due("SET once", x.places(0, 2, 0, 0), 1);
        Check.due("159 WORK it", x.sum(0, 0, 4), 159);
    }

    /** NONE: there is no such PLACING. */
    private static void threePlacings() {
        LateAndEarly x = Check.with(TEXTS[1]);
        int[] want = {0, 1, 1};
        for (int placing = 0; placing < 3; placing++) {
            Check.due("placed " + placing, x.placed(0, placing, 0, 0, 0), want[placing]);
            Check.due("life " + placing, x.life(0, placing, 0), want[placing]);
            Check.due("places " + placing, x.places(0, placing, 0, 0), want[placing]);
        }
        for (int placing : new int[] {3, -1}) {
            none(x, placing);
        }
        for (int placing : FAR) {
            none(x, placing);
        }
    }

    private static void none(LateAndEarly x, int placing) {
        Check.due("placed " + placing, x.placed(0, placing, 0, 0, 0), -1);
        Check.due("life " + placing, x.life(0, placing, 0), -1);
        Check.due("places " + placing, x.places(0, placing, 0, 0), -1);
    }

    /** 11: what 0 .. 2. NONE. */
    private static void whatsOfPlaced() {
        LateAndEarly x = Check.with(TEXTS[1]);
        int[] want = {0, 1, 1};
        for (int what = 0; what < 3; what++) {
            Check.due("placed what " + what, x.placed(0, 1, 0, 1, what), want[what]);
        }
        Check.due("placed what 3", x.placed(0, 1, 0, 1, 3), -1);
        Check.due("placed what -1", x.placed(0, 1, 0, 1, -1), -1);
        for (int what : FAR) {
            Check.due("placed what " + what, x.placed(0, 1, 0, 1, what), -1);
        }
    }

    /** 13: what 0, 1. NONE. */
    private static void whatsOfPlaces() {
        LateAndEarly x = Check.with(TEXTS[1]);
        Check.due("places what 0", x.places(0, 1, 0, 0), 1);
        Check.due("places what 1", x.places(0, 1, 0, 1), 2);
        Check.due("places what 2", x.places(0, 1, 0, 2), -1);
        Check.due("places what 3", x.places(0, 1, 0, 3), -1);
        Check.due("places what -1", x.places(0, 1, 0, -1), -1);
        for (int what : FAR) {
            Check.due("places what " + what, x.places(0, 1, 0, what), -1);
        }
    }

    /** 11 to 13: NONE: there is no such place, ROUTINE, NODE, SUM. */
    private static void placesAndSums() {
        LateAndEarly x = new LateAndEarly();
        Check.parse(x, 3, TEXTS[1]);
        Check.due("placed of place 3", x.placed(3, 1, 0, 2, 0), 0);
        Check.due("life of place 3", x.life(3, 1, 0), 1);
        Check.due("places of place 3", x.places(3, 1, 0, 1), 2);
        for (int p : new int[] {0, 2, 4, -1, 7, Integer.MIN_VALUE, Integer.MAX_VALUE}) {
            Check.due("placed of place " + p, x.placed(p, 1, 0, 0, 0), -1);
            Check.due("life of place " + p, x.life(p, 1, 0), -1);
            Check.due("places of place " + p, x.places(p, 1, 0, 0), -1);
        }
        for (int e : new int[] {1, -1, 31, 32, Integer.MIN_VALUE, Integer.MAX_VALUE}) {
            Check.due("placed of SUM " + e, x.placed(3, 1, e, 0, 0), -1);
            Check.due("life of SUM " + e, x.life(3, 1, e), -1);
            Check.due("places of SUM " + e, x.places(3, 1, e, 0), -1);
        }
        for (int n : new int[] {3, -1, 240, Integer.MIN_VALUE, Integer.MAX_VALUE}) {
            Check.due("placed at NODE " + n, x.placed(3, 1, 0, n, 0), -1);
        }
        Check.parse(x, 3, "b0:leave;");
        Check.due("placed without SUMS", x.placed(3, 1, 0, 0, 0), -1);
        Check.due("life without SUMS", x.life(3, 1, 0), -1);
        Check.due("places without SUMS", x.places(3, 1, 0, 0), -1);
    }
}
