import java.util.ArrayList;
import java.util.Arrays;
import java.util.HashMap;
import java.util.HashSet;
import java.util.List;
import java.util.Map;
import java.util.Set;

/**
 * The document read once more, in another way than the program: texts by regular expressions,
 * operands as texts, each SUM by itself, edges as lists, sets as rows of booleans that are
 * shrunk or grown one NODE at a time until nothing changes.
 */
final class SlowModel {
    static final class Fault extends RuntimeException {
        private static final long serialVersionUID = 1;
        final int place;
        final int number;

        Fault(int place, int number) {
            this.place = place;
            this.number = number;
        }
    }

    /** One statement or end, or a NODE ON THE WAY. */
    static final class Node {
        int kind;
        int block;
        String target;
        String sum;
        List<String> operands = new ArrayList<>();
        List<Integer> blocks = new ArrayList<>();
        List<Integer> next = new ArrayList<>();
        List<Integer> from = new ArrayList<>();
        List<Integer> namePlaces = new ArrayList<>();
    }

    final List<Node> nodes = new ArrayList<>();
    final List<Integer> first = new ArrayList<>();
    final List<String> sums = new ArrayList<>();
    final List<Integer> headPlaces = new ArrayList<>();
    int statements;
    boolean hasT;

    // ---- the text

    private final List<String> tokens = new ArrayList<>();
    private final List<Integer> places = new ArrayList<>();
    private int now;

    SlowModel(String text) {
        int i = 0;
        while (i < text.length()) {
            char c = text.charAt(i);
            if (c == ' ' || c == '\n') {
                i++;
                continue;
            }
            int j = i;
            while (j < text.length() && String.valueOf(text.charAt(j)).matches("[a-z0-9]")) {
                j++;
            }
            j = Math.max(j, i + 1);
            tokens.add(text.substring(i, j));
            places.add(i);
            i = j;
        }
        tokens.add("");
        places.add(text.length());
        readText();
        afterwards();
        linkAll();
    }

    private String peek() {
        return tokens.get(now);
    }

    private boolean isToken(String t) {
        return t.isEmpty() || t.matches("[:;=+*/&^<\\[\\]-]") || t.matches("[0-9]{1,9}")
            || t.matches("[a-z]+[0-9]*") && t.length() <= 8;
    }

    private Fault fault(int number) {
        return new Fault(places.get(now), isToken(peek()) ? number : 1);
    }

    private String take(String pattern) {
        if (peek().isEmpty() || !isToken(peek()) || !peek().matches(pattern)) {
            throw fault(2);
        }
        return tokens.get(now++);
    }

    private static final String NAME = "v([0-9]|1[0-5])|t([0-9]|[12][0-9]|3[01])";
    private static final String BLOCK = "b([0-9]|[123][0-9])";

    private void readText() {
        do {
            if (first.size() == 40) {
                throw fault(3);
            }
            readBlock();
        } while (!peek().isEmpty());
    }

    private void readBlock() {
        int place = places.get(now);
        take("b" + first.size());
        headPlaces.add(place);
        first.add(nodes.size());
        take(":");
        boolean ended = false;
        while (!ended) {
            boolean begins = isToken(peek()) && peek().matches(NAME + "|r0|r1|tell|go|if|leave");
            if (begins && nodes.size() == 160) {
                throw fault(3);
            }
            if (!begins) {
                throw fault(2);
            }
            ended = readStatement(take(".*"));
            take(";");
        }
    }

    private boolean readStatement(String begin) {
        Node n = new Node();
        n.block = first.size() - 1;
        nodes.add(n);
        if (begin.equals("tell")) {
            n.kind = 3;
            n.operands.add(operand());
        } else if (begin.equals("leave")) {
            n.kind = 6;
        } else if (begin.equals("go")) {
            n.kind = 4;
            block(n);
        } else if (begin.equals("if")) {
            n.kind = 5;
            n.operands.add(operand());
            take("<");
            n.operands.add(operand());
            block(n);
            block(n);
        } else if (begin.startsWith("r")) {
            n.kind = 2;
            n.target = begin;
            take("\\[");
            n.operands.add(operand());
            take("\\]");
            take("=");
            n.operands.add(operand());
        } else {
            n.target = begin;
            hasT |= begin.startsWith("t");
            take("=");
            value(n);
        }
        return n.kind == 4 || n.kind == 5 || n.kind == 6;
    }

    private void block(Node n) {
        int place = places.get(now);
        n.blocks.add(Integer.parseInt(take(BLOCK).substring(1)));
        n.namePlaces.add(place);
    }

    private void value(Node n) {
        if (peek().matches("r0|r1")) {
            String row = take("r0|r1");
            take("\\[");
            n.sum = row + " [ " + operand() + " ]";
            take("\\]");
        } else {
            String a = operand();
            if (peek().matches("[+*/&^-]")) {
                n.sum = a + " " + take(".") + " " + operand();
            } else {
                n.kind = 1;
                n.operands.add(a);
            }
        }
    }

    private String operand() {
        if (peek().matches("-")) {
            take("-");
            return number("-" + take("[0-9]+"));
        }
        String t = take("[0-9]+|" + NAME);
        hasT |= t.startsWith("t");
        return t.matches("[0-9]+") ? number(t) : t;
    }

    private static String number(String t) {
        return String.valueOf(Integer.parseInt(t));
    }

    private void afterwards() {
        statements = nodes.size();
        for (Node n : nodes) {
            for (int i = 0; i < n.blocks.size(); i++) {
                if (n.blocks.get(i) == 0 || n.blocks.get(i) >= first.size()) {
                    throw new Fault(n.namePlaces.get(i), 4);
                }
            }
        }
        Set<Integer> come = new HashSet<>();
        visit(0, come);
        for (int b = 0; b < first.size(); b++) {
            if (!come.contains(b)) {
                throw new Fault(headPlaces.get(b), 5);
            }
        }
        for (int b = 0; b < first.size(); b++) {
            Set<Integer> seen = new HashSet<>();
            visit(b, seen);
            if (seen.stream().noneMatch(k -> end(k).kind == 6)) {
                throw new Fault(headPlaces.get(b), 6);
            }
        }
    }

    private void visit(int b, Set<Integer> seen) {
        if (seen.add(b)) {
            for (int to : end(b).blocks) {
                visit(to, seen);
            }
        }
    }

    int endNode(int b) {
        return (b + 1 < first.size() ? first.get(b + 1) : statements) - 1;
    }

    Node end(int b) {
        return nodes.get(endNode(b));
    }

    private void linkAll() {
        Map<Integer, Integer> ways = new HashMap<>();
        for (int n = 0; n < statements; n++) {
            for (int b : nodes.get(n).blocks) {
                ways.merge(b, 1, Integer::sum);
            }
        }
        for (int n = 0; n < statements; n++) {
            Node node = nodes.get(n);
            if (node.sum != null && !sums.contains(node.sum)) {
                sums.add(node.sum);
            }
            if (node.kind < 4) {
                node.next.add(n + 1);
            }
            for (int b : node.blocks) {
                if (node.kind == 5 && ways.get(b) > 1) {
                    Node way = new Node();
                    way.kind = 7;
                    way.block = b;
                    way.next.add(first.get(b));
                    node.next.add(nodes.size());
                    nodes.add(way);
                } else {
                    node.next.add(first.get(b));
                }
            }
        }
        for (int n = 0; n < nodes.size(); n++) {
            for (int to : nodes.get(n).next) {
                nodes.get(to).from.add(n);
            }
        }
    }

    // ---- the sums

    boolean isRow(int e) {
        return sums.get(e).startsWith("r");
    }

    char sign(int e) {
        return isRow(e) ? 'r' : sums.get(e).split(" ")[1].charAt(0);
    }

    String operand(int e, int which) {
        String[] parts = sums.get(e).split(" ");
        if (isRow(e)) {
            return which == 0 ? parts[0].substring(1) : parts[2];
        }
        return which == 0 ? parts[0] : parts[2];
    }

    int toldOperand(int e, int which) {
        String o = operand(e, which);
        if (o.startsWith("v")) {
            return 1000 + Integer.parseInt(o.substring(1));
        }
        if (o.startsWith("t")) {
            return 2000 + Integer.parseInt(o.substring(1));
        }
        int x = Integer.parseInt(o);
        return x > 999 ? 999 : x < -999 ? -999 : x;
    }

    boolean bold(int e) {
        return isRow(e) || sign(e) == '/';
    }

    int users(int e) {
        return (int) nodes.stream().filter(n -> sums.get(e).equals(n.sum)).count();
    }

    // ---- the facts of one sum, by NODES

    interface Rule {
        boolean holds(int n, boolean[] set);
    }

    private boolean[] greatest(Rule rule) {
        boolean[] set = new boolean[nodes.size()];
        Arrays.fill(set, true);
        return settle(set, rule, false);
    }

    private boolean[] least(Rule rule) {
        return settle(new boolean[nodes.size()], rule, true);
    }

    private boolean[] settle(boolean[] set, Rule rule, boolean to) {
        boolean changed = true;
        while (changed) {
            changed = false;
            for (int n = 0; n < set.length; n++) {
                if (set[n] != to && rule.holds(n, set) == to) {
                    set[n] = to;
                    changed = true;
                }
            }
        }
        return set;
    }

    boolean[] works(int e) {
        return least((n, s) -> sums.get(e).equals(nodes.get(n).sum));
    }

    boolean[] kills(int e) {
        return least((n, s) -> {
            Node node = nodes.get(n);
            if (node.kind == 2) {
                return sums.get(e).startsWith(node.target + " ");
            }
            return node.kind < 2 && Arrays.asList(sums.get(e).split(" ")).contains(node.target);
        });
    }

    private boolean seen(int n) {
        Node node = nodes.get(n);
        return node.kind == 2 || node.kind == 3
            || node.sum != null && (node.sum.startsWith("r") || node.sum.contains("/"));
    }

    /** The eight rows of at(), in its order. */
    boolean[][] facts(int e) {
        boolean[] works = works(e);
        boolean[] kills = kills(e);
        boolean[] wanted = greatest((n, s) -> works[n] || !kills[n] && nodes.get(n).kind != 6
            && nodes.get(n).next.stream().allMatch(m -> s[m]) && !(bold(e) && seen(n)));
        boolean[] there = greatest((n, s) -> n != 0
            && nodes.get(n).from.stream().allMatch(m -> !kills[m] && (works[m] || s[m])));
        boolean[] early = least((n, s) -> wanted[n] && (n == 0
            || nodes.get(n).from.stream().anyMatch(m -> kills[m] || !there[m] && !wanted[m])));
        boolean[] delayed = greatest((n, s) -> early[n]
            || n != 0 && nodes.get(n).from.stream().allMatch(m -> s[m] && !works[m]));
        boolean[] latest = least((n, s) -> delayed[n] && (works[n] || nodes.get(n).next.isEmpty()
            || !nodes.get(n).next.stream().allMatch(m -> delayed[m])));
        boolean[] alone = greatest((n, s) ->
            nodes.get(n).next.stream().allMatch(m -> latest[m] || !works[m] && s[m]));
        return new boolean[][] {works, kills, wanted, there, early, delayed, latest, alone};
    }

    private final Map<Integer, boolean[][]> known = new HashMap<>();

    /** SET, TAKEN and alive of a sum. */
    boolean[][] placed(int placing, int e) {
        return known.computeIfAbsent(placing * 100 + e, k -> {
            boolean[][] f = facts(e);
            boolean[] set = least((n, s) -> placing == 1 && f[4][n]
                || placing == 2 && f[6][n] && !f[7][n]);
            boolean[] taken = least((n, s) -> placing == 1 && f[0][n]
                || placing == 2 && f[0][n] && !(f[6][n] && f[7][n]));
            boolean[] alive = least((n, s) -> !set[n]
                && (taken[n] || nodes.get(n).next.stream().anyMatch(m -> s[m])));
            return new boolean[][] {set, taken, alive};
        });
    }

    // ---- runs

    static final class Refused extends RuntimeException {
        private static final long serialVersionUID = 1;
    }

    /** A run, told as the program tells it. */
    final class Run {
        final Map<String, Integer> names = new HashMap<>();
        final int[][] rows = new int[2][8];
        final List<Integer> told = new ArrayList<>();
        final int[] worked = new int[32];
        int ended;
        int came;
        int refusedBlock = -1;
        private final Map<Integer, Integer> kept = new HashMap<>();
        private final int placing;

        Run(int placing, int[] begin) {
            this.placing = placing;
            for (int k = 0; k < 48; k++) {
                names.put(k < 16 ? "v" + k : "t" + (k - 16), begin[k]);
            }
            int n = 0;
            try {
                while (n >= 0) {
                    if (nodes.get(n).kind != 7 && came == 1000) {
                        ended = 2;
                        return;
                    }
                    came += nodes.get(n).kind == 7 ? 0 : 1;
                    n = pass(n);
                }
            } catch (Refused refused) {
                ended = 1;
            }
        }

        private int pass(int n) {
            Node node = nodes.get(n);
            refusedBlock = node.block;
            for (int e = 0; e < sums.size(); e++) {
                if (placed(placing, e)[0][n]) {
                    kept.put(e, work(e));
                }
            }
            if (node.kind == 0) {
                int e = sums.indexOf(node.sum);
                names.put(node.target, placed(placing, e)[1][n] ? kept.get(e) : Integer.valueOf(work(e)));
            } else if (node.kind == 1) {
                names.put(node.target, valueOf(node.operands.get(0)));
            } else if (node.kind == 2) {
                int place = valueOf(node.operands.get(0));
                check(place);
                rows[node.target.charAt(1) - '0'][place] = valueOf(node.operands.get(1));
            } else if (node.kind == 3) {
                told.add(valueOf(node.operands.get(0)));
            }
            refusedBlock = -1;
            if (node.kind == 6) {
                return -1;
            }
            boolean isSo = node.kind != 5
                || valueOf(node.operands.get(0)) < valueOf(node.operands.get(1));
            return node.next.get(isSo ? 0 : 1);
        }

        private void check(int place) {
            if (place < 0 || place > 7) {
                throw new Refused();
            }
        }

        private int valueOf(String operand) {
            return names.containsKey(operand) ? names.get(operand) : Integer.parseInt(operand);
        }

        private int work(int e) {
            worked[e]++;
            long a = valueOf(operand(e, 0));
            long b = valueOf(operand(e, 1));
            switch (sign(e)) {
                case '+': return (int) (a + b);
                case '-': return (int) (a - b);
                case '*': return (int) (a * b);
                case '&': return (int) (a & b);
                case '^': return (int) (a ^ b);
                case '/':
                    if (b == 0) {
                        throw new Refused();
                    }
                    return (int) (a / b);
                default:
                    check((int) b);
                    return rows[(int) a][(int) b];
            }
        }
    }

    // ---- ways and written texts

    int works(int placing, int e, List<Integer> way) {
        List<Integer> path = new ArrayList<>();
        for (int i = 0; i < way.size(); i++) {
            int b = way.get(i);
            for (int n = first.get(b); n <= endNode(b); n++) {
                path.add(n);
            }
            if (i + 1 < way.size()) {
                int w = end(b).blocks.indexOf(way.get(i + 1));
                int between = end(b).next.get(w);
                if (nodes.get(between).kind == 7) {
                    path.add(between);
                }
            }
        }
        int count = 0;
        for (int n : path) {
            count += placed(placing, e)[0][n] ? 1 : 0;
            count += sums.get(e).equals(nodes.get(n).sum) && !placed(placing, e)[1][n] ? 1 : 0;
        }
        return count;
    }

    String written(int placing) {
        Map<Integer, Integer> own = new HashMap<>();
        for (int n = statements; n < nodes.size(); n++) {
            if (!ahead(placing, n).isEmpty()) {
                own.put(n, first.size() + own.size());
            }
        }
        StringBuilder text = new StringBuilder();
        for (int b = 0; b < first.size(); b++) {
            text.append("b" + b + ":\n");
            for (int n = first.get(b); n <= endNode(b); n++) {
                text.append(ahead(placing, n)).append("  ").append(line(placing, n, own)).append(";\n");
            }
        }
        for (int n = statements; n < nodes.size(); n++) {
            if (own.containsKey(n)) {
                text.append("b" + own.get(n) + ":\n").append(ahead(placing, n))
                    .append("  go b" + nodes.get(n).block + ";\n");
            }
        }
        return text.toString();
    }

    private String ahead(int placing, int n) {
        StringBuilder lines = new StringBuilder();
        for (int e = 0; e < sums.size(); e++) {
            if (placed(placing, e)[0][n]) {
                lines.append("  t" + e + " = " + sums.get(e) + ";\n");
            }
        }
        return lines.toString();
    }

    private String line(int placing, int n, Map<Integer, Integer> own) {
        Node node = nodes.get(n);
        List<String> o = node.operands;
        List<String> to = new ArrayList<>();
        for (int i = 0; i < node.blocks.size(); i++) {
            to.add("b" + own.getOrDefault(node.next.get(i), node.blocks.get(i)));
        }
        switch (node.kind) {
            case 0:
                int e = sums.indexOf(node.sum);
                return node.target + " = " + (placed(placing, e)[1][n] ? "t" + e : node.sum);
            case 1: return node.target + " = " + o.get(0);
            case 2: return node.target + " [ " + o.get(0) + " ] = " + o.get(1);
            case 3: return "tell " + o.get(0);
            case 4: return "go " + to.get(0);
            case 5: return "if " + o.get(0) + " < " + o.get(1) + " " + to.get(0) + " " + to.get(1);
            default: return "leave";
        }
    }
}
