import java.util.ArrayList;
import java.util.List;

/** REFUSALS change nothing; nor does what only asks. Each call is made on objects of several states. */
public final class RefusalTest {
    /** A call, and what is due of it. */
    private record Due(String name, Script.Call call, int want) {
    }

    private static final int LEAST = Integer.MIN_VALUE, MOST = Integer.MAX_VALUE;
    private static final String PLACED = "b0:if v0<1 b1 b2;b1:v1=8/v2;v4=v2+3;go b2;b2:tell v4;v3=8/v2;r0[v4]=v3;"
        + "leave;";
    private static final String LOOP = "b0:v4=v1+v2;go b1;b1:v3=v1+v2;v1=v5;if v0<1 b1 b2;b2:v6=v1+v2;leave;";

    public static void main(String[] args) {
        aNewOne();
        oneInUse();
        oneWithAFullTape();
        oneWithAFullWay();
        oneTooLongToWrite();
        asksChangeNothing();
        changesAreSeen();
        Check.end("RefusalTest");
    }

    private static void none(Script script, List<Due> dues) {
        String seen = script.seen();
        String tape = script.tape();
        for (Due due : dues) {
            Script more = script.and(new Script().call(due.call()));
            Check.due(due.name(), due.call().on(script.play()), due.want());
            Check.due("all behind " + due.name(), more.seen(), seen);
            Check.due("the tape behind " + due.name(), more.tape(), tape);
        }
    }

    private static Due due(String name, int want, Script.Call call) {
        return new Due(name, call, want);
    }

    /** What every object refuses. */
    private static List<Due> everywhere() {
        List<Due> dues = new ArrayList<>();
        for (int n : new int[] {0, 9, -1, LEAST, MOST}) {
            dues.add(due("feed " + n, -2, x -> x.feed(0x4142434445464748L, n)));
        }
        for (int n : new int[] {3001, -1, LEAST, MOST}) {
            dues.add(due("cut " + n, -2, x -> x.cut(n)));
        }
        for (int i : new int[] {3000, -1}) {
            dues.add(due("tape " + i, -1, x -> x.tape(i)));
        }
        for (int p : new int[] {4, -1}) {
            dues.add(due("parse " + p, -1, x -> x.parse(p)));
            dues.add(due("about " + p, -1, x -> x.about(p, 0)));
            dues.add(due("node " + p, -1, x -> x.node(p, 0, 0)));
            dues.add(due("sum " + p, -1, x -> x.sum(p, 0, 0)));
            dues.add(due("at " + p, -1, x -> x.at(p, 0, 0, 0)));
            dues.add(due("placed " + p, -1, x -> x.placed(p, 0, 0, 0, 0)));
            dues.add(due("life " + p, -1, x -> x.life(p, 0, 0)));
            dues.add(due("places " + p, -1, x -> x.places(p, 0, 0, 0)));
            dues.add(due("run " + p, -1, x -> x.run(p, 0)));
            dues.add(due("step " + p, -1, x -> x.step(p, 0)));
            dues.add(due("home " + p, -1, x -> x.home(p)));
            dues.add(due("works " + p, -1, x -> x.works(p, 0, 0)));
            dues.add(due("write " + p, -1, x -> x.write(p, 0)));
        }
        for (int placing : new int[] {3, -1}) {
            dues.add(due("run with " + placing, -1, x -> x.run(0, placing)));
            dues.add(due("write with " + placing, -1, x -> x.write(0, placing)));
            dues.add(due("works with " + placing, -1, x -> x.works(0, placing, 0)));
        }
        for (int b : new int[] {40, -1, MOST}) {
            dues.add(due("step to " + b, -1, x -> x.step(0, b)));
        }
        for (int k : new int[] {48, -1, LEAST, MOST}) {
            dues.add(due("name " + k, 0, x -> x.name(k, 99)));
            dues.add(due("value " + k, 0, x -> x.value(k)));
        }
        dues.add(due("ran 5", -1, x -> x.ran(5)));
        dues.add(due("told 100", 0, x -> x.told(100)));
        dues.add(due("row 2", 0, x -> x.row(2, 0)));
        dues.add(due("worked 32", -1, x -> x.worked(32)));
        return dues;
    }

    private static void aNewOne() {
        List<Due> dues = everywhere();
        for (int p = 0; p < 4; p++) {
            int place = p;
            dues.add(due("about " + p, -1, x -> x.about(place, 0)));
            dues.add(due("run " + p, -1, x -> x.run(place, 2)));
            dues.add(due("step " + p, -1, x -> x.step(place, 0)));
            dues.add(due("home " + p, -1, x -> x.home(place)));
            dues.add(due("works " + p, -1, x -> x.works(place, 0, 0)));
            dues.add(due("write " + p, -1, x -> x.write(place, 0)));
        }
        dues.add(due("cut 1", -2, x -> x.cut(1)));
        none(new Script(), dues);
    }

    /** ROUTINES at two places, a WAY, a RUN that was, NAMES, bytes, and a FAULT. */
    private static Script inUse() {
        return new Script().parse(0, PLACED).parse(2, "b0:t1=v2*4;v5=r1[t1];leave;").call(x -> x.name(2, 3))
            .call(x -> x.name(20, -7)).call(x -> x.name(0, 1)).call(x -> x.step(0, 0)).call(x -> x.step(0, 2))
            .call(x -> x.step(2, 0)).call(x -> x.run(0, 2)).parse(3, "b0:go b0;").feed("b0:tell 5;leave;?");
    }

    private static void oneInUse() {
        List<Due> dues = everywhere();
        dues.add(due("cut 18", -2, x -> x.cut(18)));
        for (int b = 0; b < 3; b++) {
            int block = b;
            dues.add(due("step behind a leave to " + b, -2, x -> x.step(0, block)));
        }
        dues.add(due("step to no block", -1, x -> x.step(0, 3)));
        dues.add(due("step to itself", -2, x -> x.step(2, 0)));
        dues.add(due("step of no ROUTINE", -1, x -> x.step(1, 0)));
        dues.add(due("run of no ROUTINE", -1, x -> x.run(3, 0)));
        dues.add(due("write of no ROUTINE", -1, x -> x.write(3, 0)));
        dues.add(due("early with a t", -4, x -> x.write(2, 1)));
        dues.add(due("late with a t", -4, x -> x.write(2, 2)));
        dues.add(due("home of no ROUTINE", -1, x -> x.home(1)));
        none(inUse(), dues);
    }

    private static void oneWithAFullTape() {
        List<Due> dues = new ArrayList<>();
        for (int n = 1; n <= 8; n++) {
            int count = n;
            dues.add(due("feed " + n, -3, x -> x.feed(0x4142434445464748L, count)));
        }
        dues.add(due("feed 9", -2, x -> x.feed(65, 9)));
        dues.add(due("cut 3001", -2, x -> x.cut(3001)));
        dues.add(due("parse 4", -1, x -> x.parse(4)));
        dues.add(due("write 1", -1, x -> x.write(1, 0)));
        none(new Script().parse(0, LOOP).feed("x".repeat(3000)), dues);
    }

    private static void oneWithAFullWay() {
        Script script = new Script().parse(0, LOOP).feed("b0:").call(x -> x.step(0, 0));
        for (int i = 1; i < 60; i++) {
            script.call(x -> x.step(0, 1));
        }
        List<Due> dues = new ArrayList<>();
        dues.add(due("the 61st", -3, x -> x.step(0, 1)));
        dues.add(due("the 61st by the other way", -3, x -> x.step(0, 2)));
        dues.add(due("no way", -2, x -> x.step(0, 0)));
        dues.add(due("no block", -1, x -> x.step(0, 3)));
        dues.add(due("another place", -1, x -> x.step(1, 0)));
        none(script, dues);
    }

    private static void oneTooLongToWrite() {
        Script script = new Script().parse(0, "b0:" + "v15=v14+999999999;".repeat(122) + "leave;").feed("b0:");
        List<Due> dues = new ArrayList<>();
        dues.add(due("write", -3, x -> x.write(0, 0)));
        dues.add(due("write with 3", -1, x -> x.write(0, 3)));
        none(script, dues);
    }

    private static void asksChangeNothing() {
        List<Due> dues = new ArrayList<>();
        dues.add(due("tape", 'b', x -> x.tape(0)));
        dues.add(due("wrong", 4, x -> x.wrong()));
        dues.add(due("about", 3, x -> x.about(0, 0)));
        dues.add(due("node", 5, x -> x.node(0, 0, 0)));
        dues.add(due("sum", '/', x -> x.sum(0, 0, 0)));
        dues.add(due("at", 1, x -> x.at(0, 0, 0, 7)));
        dues.add(due("placed", 1, x -> x.placed(0, 1, 1, 1, 0)));
        dues.add(due("life", 0, x -> x.life(0, 0, 0)));
        dues.add(due("places", 0, x -> x.places(0, 0, 0, 0)));
        dues.add(due("ran", 1, x -> x.ran(2)));
        dues.add(due("told", 0, x -> x.told(0)));
        dues.add(due("value", 3, x -> x.value(2)));
        dues.add(due("row", 2, x -> x.row(0, 0)));
        dues.add(due("worked", 1, x -> x.worked(0)));
        dues.add(due("works", 1, x -> x.works(0, 0, 0)));
        none(inUse(), dues);
    }

    /** That a change would be seen: each of these makes one. */
    private static void changesAreSeen() {
        Script script = inUse();
        String seen = script.seen();
        Script.Call[] changes = {x -> x.name(47, 1), x -> x.run(2, 0), x -> x.home(0), x -> x.parse(1), x -> x.parse(0)};
        for (Script.Call change : changes) {
            boolean same = script.and(new Script().call(change)).seen().equals(seen);
            Check.due("a change is seen", same ? 1 : 0, 0);
        }
        String tape = script.tape();
        Check.due("the tape", tape, "b0:tell 5;leave;?");
        Check.due("a byte more", script.and(new Script().call(x -> x.feed('!', 1))).tape(), tape + "!");
    }
}
