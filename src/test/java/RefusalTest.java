import java.util.ArrayList;
import java.util.List;
import java.util.function.Consumer;
import java.util.function.Supplier;

/**
 * Each refused call: which exception it throws, and that it changes nothing. It is made on one of
 * two objects that are made alike; whatever these are asked behind it, they must answer alike.
 */
public final class RefusalTest {
    private static final int NONE = ClockTree.NONE;
    private static final int LEAST = Integer.MIN_VALUE;
    private static final int GREATEST = Integer.MAX_VALUE;
    private static final int[] NO_PORTS = {-1, 4, LEAST, GREATEST};

    private static final Due due = new Due();
    private static int refused = 0;

    private final String scene;
    private final Supplier<ClockTree> make;
    private final List<List<Long>> untouched = new ArrayList<>();

    private RefusalTest(String scene, Supplier<ClockTree> make) {
        this.scene = scene;
        this.make = make;
        for (int part = 0; part < Look.PARTS; part++) {
            untouched.add(Look.at(make.get(), part));
        }
    }

    public static void main(String[] args) {
        emptyScene();
        busyScene();
        fullScene();
        System.out.println(refused + " refused calls");
        due.end();
    }

    private void argument(String call, Consumer<ClockTree> body) {
        refuse(call, body, IllegalArgumentException.class);
    }

    private void state(String call, Consumer<ClockTree> body) {
        refuse(call, body, IllegalStateException.class);
    }

    private void refuse(String call, Consumer<ClockTree> body, Class<?> want) {
        refused++;
        for (int part = 0; part < Look.PARTS; part++) {
            ClockTree x = make.get();
            Class<?> thrown = null;
            try {
                body.accept(x);
            } catch (RuntimeException exception) {
                thrown = exception.getClass();
            }
            if (thrown != want) {
                due.say(scene + ": " + call + " threw " + thrown + ", due is " + want);
            }
            if (!Look.at(x, part).equals(untouched.get(part))) {
                due.say(scene + ": " + call + " has changed something, seen by part " + part);
            }
        }
    }

    /** No element is there, and so no port, link or finding. */
    private static void emptyScene() {
        RefusalTest empty = new RefusalTest("empty", ClockTree::new);
        empty.elementValues(0);
        empty.elementValues(15);
        for (int e : new int[] {0, 1, 7, 15, -1, 16, LEAST, GREATEST}) {
            empty.noElement(e, 2);
        }
        for (int link : new int[] {0, 1, 23, 24, -1, LEAST, GREATEST}) {
            empty.noLink(link);
        }
        empty.noRounds();
        for (int k : new int[] {0, 1, 99, 100, -1, LEAST, GREATEST}) {
            empty.noFinding(k);
        }
        empty.argument("link(0, 0, 0, 0)", x -> x.link(0, 0, 0, 0));
    }

    /**
     * Elements 0 to 4 and 15, of which 4 is failed, and links 0 to 4, of which 2 is failed: 0, 1, 2
     * in a ring, 3 beside it, 4 and 15 by themselves. Much is about to change: the words over links
     * 0 and 1 were lost twice, that over link 0 will be lost a third time, and element 0 has a
     * better source, which will be ready in the fourth round from here.
     */
    private static ClockTree busy() {
        ClockTree x = new ClockTree();
        x.element(0, 3, 100, 2);
        x.element(1, 4, -50, -1);
        x.element(2, 0, 7, 9);
        x.element(3, 6, -1000, -9);
        x.element(4, 5, 0, 1);
        x.element(15, 2, 1000, 9);
        x.link(0, 0, 1, 0);
        x.link(1, 1, 2, 0);
        x.link(2, 1, 0, 1);
        x.link(3, 0, 2, 2);
        x.link(4, 0, 15, 3);
        x.source(0, 3, 1, 40);
        x.source(3, 3, 6, -1000);
        x.source(15, 0, 2, 5);
        x.priority(1, 0, 4);
        x.priority(3, 3, 9);
        x.restore(0, 5);
        x.restore(1, 10);
        x.restore(2, 3);
        x.command(3, 1, 3);
        x.command(2, 0, 0);
        x.lockout(2, 2, true);
        x.rounds(7);
        x.fail(2, true);
        x.rounds(1);
        x.failElement(4, true);
        x.lockout(15, 0, true);
        x.source(0, 2, 0, 60);
        for (int i = 0; i < 2; i++) {
            x.lose(0, false);
            x.lose(1, false);
            x.rounds(1);
        }
        x.lose(0, false);
        x.check();
        return x;
    }

    private static void busyScene() {
        int findings = busy().check();
        due.is("the busy scene has findings", findings > 0, true);
        ClockTree next = busy();
        next.rounds(1);
        due.is("element 1 loses its time", next.state(1, 0), 2);
        due.is("element 2 keeps it", next.state(2, 0), 1);
        next.rounds(2);
        due.is("element 0 has its old source", next.state(0, 1), 3);
        next.rounds(1);
        due.is("element 0 has the better one", next.state(0, 1), 2);
        RefusalTest busy = new RefusalTest("busy", RefusalTest::busy);
        busy.elementValues(5);
        busy.elementValues(0);
        busy.elementValues(4);
        for (int e : new int[] {0, 1, 2, 3, 4, 15}) {
            busy.state("element(" + e + ", ..) there already", x -> x.element(e, 1, 2, 3));
            busy.state("element(" + e + ", ..) as it is", x -> x.element(e, 0, 0, 0));
            busy.ports(e);
            busy.elementNumbers(e);
        }
        for (int e : new int[] {5, 14, -1, 16, LEAST, GREATEST}) {
            busy.noElement(e, 0);
        }
        for (int link : new int[] {5, 23, 24, -1, LEAST, GREATEST}) {
            busy.noLink(link);
        }
        busy.noRounds();
        for (int k : new int[] {findings, findings + 1, 99, 100, -1, LEAST, GREATEST}) {
            busy.noFinding(k);
        }
        for (int what : new int[] {-1, 2, LEAST, GREATEST}) {
            busy.argument("finding(0, " + what + ")", x -> x.finding(0, what));
        }
        busy.sameElement(new int[] {0, 4, 15});
        busy.takenPorts();
        busy.linkedSources();
    }

    /** 16 elements, 24 links, 100 findings; elements 8 to 15 are forced to a port with nothing. */
    private static ClockTree full() {
        ClockTree x = new ClockTree();
        for (int e = 0; e < 16; e++) {
            x.element(e, e % 7, 10 * e, e - 8);
        }
        for (int e = 0; e < 16; e++) {
            x.link(e, 0, (e + 1) % 16, 1);
        }
        for (int e = 0; e < 8; e++) {
            x.link(e, 2, e + 8, 2);
            x.command(e + 8, 0, 3);
        }
        x.source(0, 3, 1, 40);
        x.source(5, 3, 2, -40);
        x.tracing(false);
        x.rounds(9);
        x.lose(23, true);
        x.check();
        return x;
    }

    private static void fullScene() {
        due.is("the full scene has 100 findings", full().check(), 100);
        RefusalTest full = new RefusalTest("full", RefusalTest::full);
        for (int e = 0; e < 16; e++) {
            int there = e;
            full.state("element(" + e + ", ..) there already", x -> x.element(there, 6, 1000, 9));
        }
        full.elementValues(0);
        full.elementValues(15);
        for (int e : new int[] {-1, 16, LEAST, GREATEST}) {
            full.noElement(e, 3);
        }
        for (int link : new int[] {24, 25, -1, LEAST, GREATEST}) {
            full.noLink(link);
        }
        full.noRounds();
        for (int k : new int[] {100, 101, -1, LEAST, GREATEST}) {
            full.noFinding(k);
        }
        full.state("link(1, 3, 2, 3), both with nothing", x -> x.link(1, 3, 2, 3));
        full.state("link(14, 3, 15, 3), both with nothing", x -> x.link(14, 3, 15, 3));
        full.state("link(0, 0, 2, 3), one has a link", x -> x.link(0, 0, 2, 3));
        full.state("link(0, 3, 5, 3), both with sources", x -> x.link(0, 3, 5, 3));
        full.sameElement(new int[] {1, 15});
        full.argument("link(1, 3, 2, 4)", x -> x.link(1, 3, 2, 4));
        full.argument("link(1, -1, 2, 3)", x -> x.link(1, -1, 2, 3));
    }

    /** Wrong values go before "there already", whether element e is there or not. */
    private void elementValues(int e) {
        for (int wrong : new int[] {-1, 16, LEAST, GREATEST}) {
            argument("element(" + wrong + ", 0, 0, 0)", x -> x.element(wrong, 0, 0, 0));
        }
        for (int wrong : new int[] {-1, 7, 8, LEAST, GREATEST}) {
            argument("element(" + e + ", " + wrong + ", 0, 0)", x -> x.element(e, wrong, 0, 0));
        }
        for (int wrong : new int[] {-1001, 1001, LEAST, GREATEST}) {
            argument("element(" + e + ", 0, " + wrong + ", 0)", x -> x.element(e, 0, wrong, 0));
        }
        for (int wrong : new int[] {-10, 10, LEAST, GREATEST}) {
            argument("element(" + e + ", 0, 0, " + wrong + ")", x -> x.element(e, 0, 0, wrong));
        }
    }

    /** All calls that want an element that is there, with one that is not. */
    private void noElement(int e, int other) {
        argument("link(" + e + ", 3, " + other + ", 3)", x -> x.link(e, 3, other, 3));
        argument("link(" + other + ", 3, " + e + ", 3)", x -> x.link(other, 3, e, 3));
        argument("link(" + other + ", 0, " + e + ", 3)", x -> x.link(other, 0, e, 3));
        argument("source(" + e + ", 0, 0, 0)", x -> x.source(e, 0, 0, 0));
        argument("source(" + e + ", 0, NONE, 0)", x -> x.source(e, 0, NONE, 0));
        argument("priority(" + e + ", 0, 1)", x -> x.priority(e, 0, 1));
        argument("restore(" + e + ", 1)", x -> x.restore(e, 1));
        argument("command(" + e + ", 0, 1)", x -> x.command(e, 0, 1));
        argument("command(" + e + ", 1, NONE)", x -> x.command(e, 1, NONE));
        argument("lockout(" + e + ", 0, true)", x -> x.lockout(e, 0, true));
        argument("failElement(" + e + ", true)", x -> x.failElement(e, true));
        argument("failElement(" + e + ", false)", x -> x.failElement(e, false));
        for (int what = -1; what <= 5; what++) {
            int asked = what;
            argument("state(" + e + ", " + what + ")", x -> x.state(e, asked));
        }
        argument("phase(" + e + ")", x -> x.phase(e));
        argument("sends(" + e + ", 0)", x -> x.sends(e, 0));
        argument("traced(" + e + ")", x -> x.traced(e));
        argument("best(" + e + ")", x -> x.best(e));
    }

    /** All calls that want a port, with ports that are none of the element e, which is there. */
    private void ports(int e) {
        int other = e == 1 ? 3 : 1;
        for (int p : NO_PORTS) {
            argument("link(" + e + ", " + p + ", " + other + ", 2)", x -> x.link(e, p, other, 2));
            argument("link(" + other + ", 2, " + e + ", " + p + ")", x -> x.link(other, 2, e, p));
            argument("link(" + other + ", 0, " + e + ", " + p + ")", x -> x.link(other, 0, e, p));
            argument("source(" + e + ", " + p + ", 0, 0)", x -> x.source(e, p, 0, 0));
            argument("source(" + e + ", " + p + ", NONE, 0)", x -> x.source(e, p, NONE, 0));
            argument("priority(" + e + ", " + p + ", 1)", x -> x.priority(e, p, 1));
            argument("lockout(" + e + ", " + p + ", true)", x -> x.lockout(e, p, true));
            argument("sends(" + e + ", " + p + ")", x -> x.sends(e, p));
        }
        for (int which = 0; which < 2; which++) {
            int asked = which;
            for (int p : new int[] {-2, 4, LEAST, GREATEST}) {
                argument("command(" + e + ", " + which + ", " + p + ")",
                        x -> x.command(e, asked, p));
            }
        }
    }

    /** All other numbers that are not as said, with the element e, which is there. */
    private void elementNumbers(int e) {
        for (int v : new int[] {-1, 10, LEAST, GREATEST}) {
            argument("priority(" + e + ", 2, " + v + ")", x -> x.priority(e, 2, v));
        }
        for (int n : new int[] {-1, 11, LEAST, GREATEST}) {
            argument("restore(" + e + ", " + n + ")", x -> x.restore(e, n));
        }
        for (int which : new int[] {-1, 2, LEAST, GREATEST}) {
            argument("command(" + e + ", " + which + ", 2)", x -> x.command(e, which, 2));
            argument("command(" + e + ", " + which + ", NONE)", x -> x.command(e, which, NONE));
        }
        for (int what : new int[] {-1, 5, LEAST, GREATEST}) {
            argument("state(" + e + ", " + what + ")", x -> x.state(e, what));
        }
        // Some of these ports have a link, for which the call would be refused in second place.
        for (int p = 0; p < 4; p++) {
            sourceNumbers(e, p);
        }
    }

    private void sourceNumbers(int e, int p) {
        for (int quality : new int[] {-2, 7, 8, LEAST, GREATEST}) {
            argument("source(" + e + ", " + p + ", " + quality + ", 0)",
                    x -> x.source(e, p, quality, 0));
        }
        for (int offset : new int[] {-1001, 1001, LEAST, GREATEST}) {
            argument("source(" + e + ", " + p + ", 0, " + offset + ")",
                    x -> x.source(e, p, 0, offset));
        }
    }

    private void noLink(int link) {
        argument("fail(" + link + ", true)", x -> x.fail(link, true));
        argument("fail(" + link + ", false)", x -> x.fail(link, false));
        argument("lose(" + link + ", true)", x -> x.lose(link, true));
        argument("lose(" + link + ", false)", x -> x.lose(link, false));
    }

    private void noRounds() {
        for (int n : new int[] {0, -1, 201, LEAST, GREATEST}) {
            argument("rounds(" + n + ")", x -> x.rounds(n));
        }
    }

    private void noFinding(int k) {
        for (int what = -1; what <= 2; what++) {
            int asked = what;
            argument("finding(" + k + ", " + what + ")", x -> x.finding(k, asked));
        }
    }

    /** Also between ports that have something, and when there are 24 links. */
    private void sameElement(int[] elements) {
        for (int e : elements) {
            for (int p = 0; p < 4; p++) {
                int first = p;
                for (int q = 0; q < 4; q++) {
                    int second = q;
                    argument("link(" + e + ", " + p + ", " + e + ", " + q + ")",
                            x -> x.link(e, first, e, second));
                }
            }
        }
    }

    private void takenPorts() {
        state("link from a link's first end", x -> x.link(0, 0, 1, 2));
        state("link from a link's second end", x -> x.link(1, 0, 3, 1));
        state("link to a link's first end", x -> x.link(1, 2, 0, 0));
        state("link to a link's second end", x -> x.link(3, 1, 1, 0));
        state("link of the same two ports again", x -> x.link(0, 0, 1, 0));
        state("link of the same two ports, turned", x -> x.link(1, 0, 0, 0));
        state("link from a failed link's port", x -> x.link(2, 1, 1, 2));
        state("link to a failed link's port", x -> x.link(1, 2, 0, 1));
        state("link from a source's port", x -> x.link(0, 3, 1, 2));
        state("link to a source's port", x -> x.link(1, 2, 0, 3));
        state("link to a source's port that is locked out", x -> x.link(1, 2, 15, 0));
        state("link between two sources", x -> x.link(0, 3, 3, 3));
        state("link from a link's port to a source's", x -> x.link(0, 0, 3, 3));
        state("link of a failed element's port", x -> x.link(4, 0, 1, 2));
    }

    private void linkedSources() {
        int[][] linked = {{0, 0}, {1, 0}, {1, 1}, {2, 0}, {2, 1}, {0, 1}, {3, 0}, {2, 2}, {4, 0},
            {15, 3}};
        for (int[] port : linked) {
            int e = port[0];
            int p = port[1];
            state("source(" + e + ", " + p + ", 0, 0)", x -> x.source(e, p, 0, 0));
            state("source(" + e + ", " + p + ", 6, 1000)", x -> x.source(e, p, 6, 1000));
            state("source(" + e + ", " + p + ", NONE, 0)", x -> x.source(e, p, NONE, 0));
            state("source(" + e + ", " + p + ", NONE, 1001)", x -> x.source(e, p, NONE, 1001));
            state("source(" + e + ", " + p + ", NONE, least)", x -> x.source(e, p, NONE, LEAST));
        }
    }
}
