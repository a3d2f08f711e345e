/** Calls with any numbers in any order: none throws, and the same calls give the same answers. */
public final class AnyCallTest {
    private static final int[] NUMBERS = {Integer.MIN_VALUE, -1000000000, -3, -2, -1, 0, 0, 0, 1, 1, 2, 2,
        3, 3, 4, 5, 6, 7, 8, 9, 15, 16, 31, 32, 39, 40, 47, 48, 60, 99, 100, 159, 160, 237, 238, 239, 240,
        241, 999, 1000, 3000, 3001, 1000000000, 1000000047, 1000000048, Integer.MAX_VALUE};
    private static final String[] TEXTS = {
        "b0: v1 = v2 + v3; if v1 < 9 b1 b2; b1: v4 = v2 + v3; v2 = 1; tell v4; go b2; b2: v5 = v2 + v3;"
            + "tell v5; v6 = 8 / v0; v7 = r0[v1]; r0[1] = 3; v7 = r0[v1]; tell v7; leave;",
        "b0: go b1; b1: v1 = v2 + v3; if v0 < 1 b1 b2; b2: leave;",
        "b0: leave;",
        "b0: t0 = t31 / v15; r1[t0] = t1; leave;",
        "b0: go b1;"};
    private static long seed;

    public static void main(String[] args) {
        for (int i = 0; i < 300; i++) {
            seed = i;
            long first = calls();
            seed = i;
            Check.due("the same calls " + i, calls(), first);
        }
        Check.end("AnyCallTest");
    }

    private static int pick(int n) {
        seed = seed * 6364136223846793005L + 1442695040888963407L;
        return (int) ((seed >>> 33) % n);
    }

    private static int any() {
        return NUMBERS[pick(NUMBERS.length)];
    }

    private static int near() {
        return pick(8) == 0 ? any() : pick(5) - pick(2);
    }

    private static long calls() {
        LateAndEarly x = new LateAndEarly();
        long all = 0;
        int count = 0;
        while (count < 480) {
            if (pick(20) == 0) {
                x.cut(0);
                count += Check.feed(x, TEXTS[pick(TEXTS.length)]) + 2;
                all = all * 31 + x.parse(pick(4));
            }
            all = all * 31 + call(x);
            count++;
        }
        return all;
    }

    private static int call(LateAndEarly x) {
        switch (pick(24)) {
            case 0: return x.feed(seed * 77, any());
            case 1: return x.cut(any());
            case 2: return x.tape(any());
            case 3: return x.parse(any());
            case 4: return x.wrong();
            case 5: return x.about(near(), any());
            case 6: return x.node(near(), any(), near());
            case 7: return x.sum(near(), near(), near());
            case 8: return x.at(near(), near(), near(), any());
            case 9: return x.placed(near(), near(), near(), any(), near());
            case 10: return x.life(near(), near(), any());
            case 11: return x.places(near(), near(), near(), any());
            case 12: return x.name(any(), any());
            case 13: return x.run(near(), near());
            case 14: return x.ran(near());
            case 15: return x.told(any());
            case 16: return x.value(any());
            case 17: return x.row(near(), any());
            case 18: return x.worked(any());
            case 19: return x.step(near(), near());
            case 20: return x.home(any());
            case 21: return x.works(near(), near(), any());
            case 22: return x.write(near(), near());
            default: return x.write(any(), any());
        }
    }
}
