import java.util.ArrayList;
import java.util.Arrays;
import java.util.List;

/**
 * Many texts, made by a fixed rule, on which the program and the slow model must answer alike;
 * and what the document says of all placings: the same is told, and no sum is worked oftener.
 */
public final class ModelTest {
    private static long seed = 20261118;
    private static int good = 0;
    private static int faults = 0;
    /** One object for some texts, so that each comes to where others were; it does not count calls. */
    private static LateAndEarly x = new LateAndEarly();
    private static int place = 0;
    private static final int[] nodesAt = {-1, -1, -1, -1};

    private static int pick(int n) {
        seed = seed * 6364136223846793005L + 1442695040888963407L;
        return (int) ((seed >>> 33) % n);
    }

    private static String one(String... of) {
        return of[pick(of.length)];
    }

    public static void main(String[] args) {
        for (int i = 0; i < 1500; i++) {
            boolean big = i % 100 == 99;
            String text = routine(big ? 12 + pick(29) : 1 + pick(7), big ? 4 : 1 + pick(7), pick(8) == 0);
            compare(text);
            for (int k = 0; k < 3; k++) {
                compare(spoil(text));
            }
        }
        Check.due("enough texts without a FAULT", good > 1000 ? 1 : 0, 1);
        Check.due("enough texts with one", faults > 1000 ? 1 : 0, 1);
        Check.end("ModelTest");
    }

    // ---- texts

    private static String name(boolean t) {
        return t && pick(3) == 0 ? one("t0", "t1", "t31") : one("v0", "v1", "v2", "v3", "v15");
    }

    private static String operand(boolean t) {
        if (pick(3) > 0) {
            return name(t);
        }
        return one("0", "1", "2", "3", "7", "007", "-1", "- 0", "-  2", "1000", "-12345", "999999999");
    }

    private static String sum(boolean t) {
        switch (pick(8)) {
            case 0: return "r" + pick(2) + one("[", " [ ") + operand(t) + "]";
            case 1: return operand(t) + "/" + operand(t);
            case 2: return "v1" + one(" + ", "+", " +\n") + "v2";
            case 3: return "v1 / v2";
            case 4: return "r0[v1]";
            case 5: return "v2*v3";
            case 6: return operand(t) + one("+", "-", "*", "&", "^", " - ", " ^ ") + operand(t);
            default: return "v0+1";
        }
    }

    private static String statement(boolean t) {
        switch (pick(10)) {
            case 0: return "tell " + operand(t);
            case 1: return one("r0[", "r1 [") + operand(t) + "] =" + operand(t);
            case 2: return name(t) + " = " + operand(t);
            default: return one("v4", "v5", "v6", name(t)) + one("=", " = ") + sum(t);
        }
    }

    private static String routine(int blocks, int statements, boolean t) {
        StringBuilder text = new StringBuilder();
        for (int b = 0; b < blocks; b++) {
            text.append("b" + b + one(":", ": ", " :\n"));
            for (int i = pick(statements + 1); i > 0; i--) {
                text.append(statement(t)).append(one(";", " ; ", ";\n"));
            }
            text.append(end(b, blocks, t)).append(one(";", ";\n"));
        }
        return text.toString();
    }

    private static String end(int b, int blocks, boolean t) {
        int next = b + 1;
        if (next >= blocks) {
            return "leave";
        }
        int other = pick(6) == 0 ? next : 1 + pick(Math.min(blocks - 1, b + 4));
        String test = "if " + operand(t) + "<" + operand(t);
        switch (pick(8)) {
            case 0: return "go b" + next;
            case 1: return pick(4) == 0 ? "leave" : "go b" + next;
            case 2: case 3: case 4: return test + " b" + next + " b" + other;
            default: return test + " b" + other + " b" + next;
        }
    }

    private static String spoil(String text) {
        int at = pick(text.length());
        String with = one("", " ", ";", "-", "v", "b1", "0", "?", "r0[", "t1", " leave;", "b0", "+ 1",
            "]", "9", "if", "\t", "123456789", " go b3;", "x");
        return text.substring(0, at) + with + text.substring(Math.min(text.length(), at + pick(3)));
    }

    // ---- comparing

    private static void compare(String text) {
        if (text.length() > 3000) {
            return;
        }
        if (pick(20) == 0) {
            x = new LateAndEarly();
            Arrays.fill(nodesAt, -1);
        }
        place = pick(4);
        int got = Check.parse(x, place, text);
        SlowModel model;
        try {
            model = new SlowModel(text);
        } catch (SlowModel.Fault fault) {
            faults++;
            Check.due("parse of " + text, got, -10 - fault.place);
            Check.due("wrong of " + text, x.wrong(), fault.number);
            Check.due("about", x.about(place, 1), nodesAt[place]);
            return;
        }
        Check.due("wrong of " + text, x.wrong(), 0);
        if (model.sums.size() > 32) {
            Check.due("parse of " + text, got, -3);
            Check.due("about", x.about(place, 1), nodesAt[place]);
            return;
        }
        good++;
        Check.due("parse of " + text, got, model.nodes.size());
        nodesAt[place] = got;
        Check.due("the WAY of a new ROUTINE", x.home(place), 0);
        nodes(model);
        for (int e = 0; e < model.sums.size(); e++) {
            sum(model, e);
        }
        runs(model, text);
        ways(model);
        written(model);
    }

    private static int or(List<Integer> list, int i) {
        return i < list.size() ? list.get(i) : -1;
    }

    private static void nodes(SlowModel m) {
        int[] about = {m.first.size(), m.nodes.size(), m.sums.size(), m.nodes.size() - m.statements,
            m.statements};
        for (int what = 0; what < 5; what++) {
            Check.due("about " + what, x.about(place, what), about[what]);
        }
        for (int n = 0; n < m.nodes.size(); n++) {
            SlowModel.Node node = m.nodes.get(n);
            int[] want = {node.kind, node.block, m.sums.indexOf(node.sum), or(node.next, 0),
                or(node.next, 1), node.from.size()};
            for (int what = 0; what < 6; what++) {
                Check.due("node " + n + " what " + what, x.node(place, n, what), want[what]);
            }
        }
    }

    private static void sum(SlowModel m, int e) {
        int[] want = {m.sign(e), m.toldOperand(e, 0), m.toldOperand(e, 1), m.bold(e) ? 1 : 0, m.users(e)};
        for (int what = 0; what < 5; what++) {
            Check.due("sum " + e + " what " + what, x.sum(place, e, what), want[what]);
        }
        boolean[][] facts = m.facts(e);
        for (int n = 0; n < m.nodes.size(); n++) {
            for (int what = 0; what < 8; what++) {
                Check.due("at", x.at(place, e, n, what), facts[what][n] ? 1 : 0);
            }
        }
        for (int placing = 0; placing < 3; placing++) {
            int[] count = new int[3];
            boolean[][] placed = m.placed(placing, e);
            for (int n = 0; n < m.nodes.size(); n++) {
                for (int what = 0; what < 3; what++) {
                    int one = placed[what][n] ? 1 : 0;
                    count[what] += one;
                    Check.due("placed", x.placed(place, placing, e, n, what), one);
                }
            }
            Check.due("places 0", x.places(place, placing, e, 0), count[0]);
            Check.due("places 1", x.places(place, placing, e, 1), count[1]);
            Check.due("life", x.life(place, placing, e), count[2]);
        }
        Check.due("late life is no longer", x.life(place, 2, e) <= x.life(place, 1, e) ? 1 : 0, 1);
    }

    private static void runs(SlowModel m, String text) {
        for (int i = 0; i < 3; i++) {
            int[] begin = new int[48];
            for (int k = 0; k < 48; k++) {
                begin[k] = pick(4) == 0 ? pick(1000000) * 3000 : pick(8) - (i == 0 ? 0 : 2);
                x.name(k, begin[k]);
            }
            SlowModel.Run plain = m.new Run(0, begin);
            for (int placing = 0; placing < 3; placing++) {
                SlowModel.Run want = m.new Run(placing, begin);
                run(m, placing, want);
                // A plain RUN that does not end may never come to what a placed one refuses.
                if (plain.ended != 2) {
                    Check.due("ends as plain: " + text, want.ended, plain.ended);
                    Check.due("tells as plain: " + text, want.told.toString(), plain.told.toString());
                }
                for (int e = 0; e < 32 && plain.ended == 0; e++) {
                    Check.due("no oftener: " + text, want.worked[e] <= plain.worked[e] ? 1 : 0, 1);
                }
            }
        }
    }

    private static void run(SlowModel m, int placing, SlowModel.Run want) {
        Check.due("run", x.run(place, placing), want.ended);
        Check.due("ran 0", x.ran(0), want.ended);
        Check.due("ran 1", x.ran(1), want.came);
        Check.due("ran 2", x.ran(2), want.told.size());
        Check.due("ran 3", x.ran(3), want.refusedBlock);
        int all = 0;
        for (int e = 0; e < 32; e++) {
            all += want.worked[e];
            Check.due("worked", x.worked(e), want.worked[e]);
        }
        Check.due("ran 4", x.ran(4), all);
        for (int i = 0; i < 110; i++) {
            Check.due("told", x.told(i), i < 100 && i < want.told.size() ? want.told.get(i) : 0);
        }
        for (int k = 0; k < 48; k++) {
            Check.due("value", x.value(k), want.names.get(k < 16 ? "v" + k : "t" + (k - 16)));
        }
        for (int i = 0; i < 16; i++) {
            Check.due("row", x.row(i / 8, i % 8), want.rows[i / 8][i % 8]);
        }
    }

    private static void ways(SlowModel m) {
        for (int i = 0; i < 3; i++) {
            List<Integer> way = new ArrayList<>();
            for (int k = pick(20); k > 0; k--) {
                int b = pick(m.first.size());
                boolean leads = way.isEmpty() ? b == 0
                    : m.end(way.get(way.size() - 1)).blocks.contains(b);
                if (leads) {
                    way.add(b);
                }
                Check.due("step", x.step(place, b), leads ? way.size() : -2);
            }
            for (int e = 0; e < m.sums.size(); e++) {
                int[] count = new int[3];
                for (int placing = 0; placing < 3; placing++) {
                    count[placing] = m.works(placing, e, way);
                    Check.due("works", x.works(place, placing, e), count[placing]);
                }
                boolean whole = !way.isEmpty() && m.end(way.get(way.size() - 1)).kind == 6;
                if (whole) {
                    Check.due("no way works it oftener", count[1] <= count[0] ? 1 : 0, 1);
                    Check.due("late works as often as early", count[2], count[1]);
                }
            }
            if (i < 2) {
                Check.due("home", x.home(place), way.size());
            }
        }
    }

    private static void written(SlowModel m) {
        for (int placing = 0; placing < 3; placing++) {
            x.cut(0);
            x.feed(65, 1);
            String want = m.written(placing);
            if (placing > 0 && m.hasT) {
                Check.due("write", x.write(place, placing), -4);
                Check.due("tape", Check.tape(x), "A");
            } else if (want.length() > 3000) {
                Check.due("write", x.write(place, placing), -3);
                Check.due("tape", Check.tape(x), "A");
            } else {
                Check.due("write", x.write(place, placing), want.length());
                Check.due("tape", Check.tape(x), want);
                again(m, placing);
            }
        }
    }

    /** A written text is a routine again, which tells the same as the plain one. */
    private static void again(SlowModel m, int placing) {
        String text = Check.tape(x);
        int other = (place + 1 + pick(3)) % 4;
        int answer = x.parse(other);
        if (answer < 0) {
            boolean tooMuch = x.wrong() == 3 || x.wrong() == 2 && text.contains("\nb40:");
            Check.due("a FAULT of " + text, tooMuch ? 1 : 0, 1);
            return;
        }
        x.run(place, 0);
        int told = x.ran(2);
        int ended = x.ran(0);
        int first = x.told(0);
        int last = x.told(Math.min(99, told - 1));
        int[] rows = new int[16];
        for (int i = 0; i < 16; i++) {
            rows[i] = x.row(i / 8, i % 8);
        }
        nodesAt[other] = answer;
        x.run(other, 0);
        if (ended != 2 && x.ran(0) != 2) {
            Check.due("ends the same", x.ran(0), ended);
            Check.due("tells as much", x.ran(2), told);
            Check.due("the first told", x.told(0), first);
            Check.due("the last told", x.told(Math.min(99, told - 1)), last);
            for (int i = 0; i < 16; i++) {
                Check.due("the same rows", x.row(i / 8, i % 8), rows[i]);
            }
        }
        if (placing == 0) {
            Check.due("write of a written one", x.write(other, 0), text.length());
            Check.due("its text", Check.tape(x), text);
        }
    }
}
