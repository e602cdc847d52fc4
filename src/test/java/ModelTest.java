import java.util.Random;

/** Long mixed runs of calls, each answered by ClockTree and by Model; the seeds are fixed. */
public final class ModelTest {
    private static final int RUNS = 300;
    private static final int CALLS = 70;
    private static final int THROWN_ARGUMENT = 1_000_001;
    private static final int THROWN_STATE = 1_000_002;
    private static final int THROWN_OTHER = 1_000_003;

    private interface Answer {
        long get();
    }

    private final Due due;
    private final Random random;
    private final ClockTree tree = new ClockTree();
    private final Model model = new Model();
    private final StringBuilder calls = new StringBuilder();
    private final int size;
    private int links = 0;

    private ModelTest(Due due, long seed) {
        this.due = due;
        random = new Random(seed);
        size = random.nextInt(8) == 0 ? 16 : 2 + random.nextInt(6);
    }

    public static void main(String[] args) {
        int runs = args.length > 0 ? Integer.parseInt(args[0]) : RUNS;
        long first = args.length > 1 ? Long.parseLong(args[1]) : 1;
        Due due = new Due();
        for (long seed = first; seed < first + runs && due.isClean(); seed++) {
            ModelTest run = new ModelTest(due, seed);
            run.go();
            if (!due.isClean()) {
                System.out.println("seed " + seed + ":\n" + run.calls);
            }
        }
        due.end();
    }

    private void go() {
        build();
        for (int i = 0; i < CALLS && due.isClean(); i++) {
            step();
            compareAll();
        }
    }

    private static long caught(Answer answer) {
        try {
            return answer.get();
        } catch (IllegalArgumentException thrown) {
            return THROWN_ARGUMENT;
        } catch (IllegalStateException thrown) {
            return THROWN_STATE;
        } catch (RuntimeException thrown) {
            System.out.println(thrown);
            return THROWN_OTHER;
        }
    }

    private void same(String call, Answer got, Answer want) {
        long answer = caught(got);
        long wanted = caught(want);
        due.is(call, answer, wanted);
    }

    private void call(String call, Answer got, Answer want) {
        calls.append(call).append(";\n");
        same(call, got, want);
    }

    private static long bit(boolean value) {
        return value ? 1 : 0;
    }

    /** Mostly a right one, now and then one that is just outside. */
    private int within(int least, int most) {
        int kind = random.nextInt(60);
        return kind == 0 ? least - 1 : kind == 1 ? most + 1
                : least + random.nextInt(most - least + 1);
    }

    private int anElement() {
        return random.nextInt(50) == 0 ? within(0, 15) : random.nextInt(size);
    }

    private int aLink() {
        return links == 0 || random.nextInt(40) == 0 ? within(0, 24) : random.nextInt(links);
    }

    private void build() {
        for (int e = 0; e < size; e++) {
            if (random.nextInt(6) != 0) {
                makeElement(e);
            }
        }
        if (random.nextInt(3) == 0) {
            makeRing();
        }
        int wanted = random.nextInt(2 * size + 2);
        for (int i = 0; i < wanted; i++) {
            makeLink();
        }
        for (int i = random.nextInt(3); i >= 0; i--) {
            makeSource();
        }
        if (random.nextInt(3) == 0) {
            call("tracing(false)", () -> bit(tree.tracing(false)), () -> bit(model.tracing(false)));
        }
    }

    private void makeElement(int e) {
        int quality = within(0, 6);
        int offset = within(-1000, 1000);
        int slope = within(-9, 9);
        call("element(" + e + ", " + quality + ", " + offset + ", " + slope + ")", () -> {
            tree.element(e, quality, offset, slope);
            return 0;
        }, () -> {
            model.element(e, quality, offset, slope);
            return 0;
        });
    }

    private void makeLink() {
        joinPorts(anElement(), within(0, 3), anElement(), within(0, 3));
    }

    private void joinPorts(int a, int p, int b, int q) {
        long[] number = {THROWN_ARGUMENT};
        call("link(" + a + ", " + p + ", " + b + ", " + q + ")", () -> {
            number[0] = tree.link(a, p, b, q);
            return number[0];
        }, () -> model.link(a, p, b, q));
        links = number[0] < 24 ? (int) number[0] + 1 : links;
    }

    /** A ring in which each may take its time from the one before it alone. */
    private void makeRing() {
        for (int e = 0; e < size; e++) {
            int here = e;
            int next = (e + 1) % size;
            joinPorts(e, 0, next, 1);
            call("lockout(" + e + ", 0, true)",
                    () -> bit(tree.lockout(here, 0, true)), () -> bit(model.lockout(here, 0, true)));
        }
    }

    private void makeSource() {
        int e = anElement();
        int p = within(0, 3);
        int quality = random.nextInt(4) == 0 ? -1 : within(0, 6);
        int offset = within(-1000, 1000);
        call("source(" + e + ", " + p + ", " + quality + ", " + offset + ")", () -> {
            tree.source(e, p, quality, offset);
            return 0;
        }, () -> {
            model.source(e, p, quality, offset);
            return 0;
        });
    }

    private void step() {
        int e = anElement();
        int p = within(0, 3);
        int link = aLink();
        boolean on = random.nextBoolean();
        switch (random.nextInt(26)) {
            case 0:
                makeElement(random.nextBoolean() ? e : within(0, 15));
                break;
            case 1:
            case 2:
                makeLink();
                break;
            case 3:
            case 4:
                makeSource();
                break;
            case 5:
                setNumbers(e, p);
                break;
            case 6:
                call("tracing(" + on + ")", () -> bit(tree.tracing(on)), () -> bit(model.tracing(on)));
                break;
            case 7:
                setCommand(e);
                break;
            case 8:
                call("lockout(" + e + ", " + p + ", " + on + ")",
                        () -> bit(tree.lockout(e, p, on)), () -> bit(model.lockout(e, p, on)));
                break;
            case 9:
            case 10:
                call("fail(" + link + ", " + on + ")",
                        () -> bit(tree.fail(link, on)), () -> bit(model.fail(link, on)));
                break;
            case 11:
            case 12:
                call("failElement(" + e + ", " + on + ")",
                        () -> bit(tree.failElement(e, on)), () -> bit(model.failElement(e, on)));
                break;
            case 13:
            case 14:
                loseWord(link, on);
                break;
            case 15:
                check();
                break;
            default:
                goRounds();
                break;
        }
    }

    private void setNumbers(int e, int p) {
        int v = within(0, 9);
        int n = random.nextBoolean() ? within(0, 2) : within(0, 10);
        call("priority(" + e + ", " + p + ", " + v + ")",
                () -> tree.priority(e, p, v), () -> model.priority(e, p, v));
        call("restore(" + e + ", " + n + ")", () -> tree.restore(e, n), () -> model.restore(e, n));
    }

    private void setCommand(int e) {
        int which = within(0, 1);
        int p = random.nextInt(3) == 0 ? -1 : within(-1, 3);
        call("command(" + e + ", " + which + ", " + p + ")",
                () -> tree.command(e, which, p), () -> model.command(e, which, p));
    }

    private void loseWord(int link, boolean back) {
        call("lose(" + link + ", " + back + ")", () -> {
            tree.lose(link, back);
            return 0;
        }, () -> {
            model.lose(link, back);
            return 0;
        });
    }

    private void goRounds() {
        int kind = random.nextInt(30);
        int n = kind == 0 ? within(1, 200) : kind < 8 ? within(1, 12) : 1;
        call("rounds(" + n + ")", () -> tree.rounds(n), () -> model.rounds(n));
    }

    private void check() {
        int[] count = {0};
        call("check()", tree::check, () -> {
            count[0] = model.check();
            return count[0];
        });
        for (int i = -1; i <= count[0]; i++) {
            int k = i;
            same("finding(" + k + ", 0)", () -> tree.finding(k, 0), () -> model.finding(k, 0));
            same("finding(" + k + ", 1)", () -> tree.finding(k, 1), () -> model.finding(k, 1));
        }
    }

    private void compareAll() {
        same("settled()", tree::settled, model::settled);
        same("loop()", () -> bit(tree.loop()), () -> bit(model.loop()));
        same("finding(0, 1)", () -> tree.finding(0, 1), () -> model.finding(0, 1));
        for (int i = -1; i <= 16; i++) {
            int e = i;
            for (int what = -1; what <= 5; what++) {
                int w = what;
                same("state(" + e + ", " + w + ")", () -> tree.state(e, w), () -> model.state(e, w));
                same("sends(" + e + ", " + w + ")", () -> tree.sends(e, w), () -> model.sends(e, w));
            }
            same("phase(" + e + ")", () -> tree.phase(e), () -> model.phase(e));
            same("traced(" + e + ")", () -> tree.traced(e), () -> model.traced(e));
            same("best(" + e + ")", () -> tree.best(e), () -> model.best(e));
        }
    }
}
