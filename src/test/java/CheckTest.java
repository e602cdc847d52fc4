import java.util.ArrayList;
import java.util.List;
import java.util.function.Supplier;

/**
 * check() is 'as if it failed now' and its rounds went by: here each failure happens indeed, to an
 * object that is made alike, and the starved are those that it shows then.
 */
public final class CheckTest {
    private static final int NONE = ClockTree.NONE;

    private static final Due due = new Due();

    public static void main(String[] args) {
        asIf("settled for long", 3, 3, 0, CheckTest::settledForLong);
        asIf("no round yet", 3, 3, 0, CheckTest::lame);
        asIf("a source is gone", 3, 3, 0, CheckTest::sourceIsGone);
        asIf("usable rounds count", 3, 4, 2, CheckTest::usableRoundsCount);
        asIf("hops count", 3, 4, 1, CheckTest::hopsCount);
        asIf("ages count", 3, 3, 2, CheckTest::agesCount);
        asIf("traces count", 4, 6, 1, CheckTest::tracesCount);
        asIf("hops change late", 3, 3, 0, CheckTest::hopsChangeLate);
        asIf("traces change late", 6, 7, 0, CheckTest::tracesChangeLate);
        for (int restore = 0; restore <= 10; restore++) {
            int n = restore;
            asIf("restore time of element 0", 16, 24, n, () -> restlessRing(0, n));
            asIf("restore time of element 15", 16, 24, n, () -> restlessRing(15, n));
            asIf("restore time of a failed one", 16, 24, n, () -> failedRestore(n));
        }
        asIf("the longest restore time", 16, 24, 10, CheckTest::longestOfThree);
        due.end();
    }

    /** Checks a net of so many elements and links, the longest restore time of which is known. */
    private static void asIf(String scene, int elements, int links, int restore,
            Supplier<ClockTree> make) {
        int rounds = 4 * (24 + restore);
        List<int[]> want = new ArrayList<>();
        for (int link = 0; link < links; link++) {
            ClockTree x = make.get();
            if (!x.fail(link, true)) {
                x.rounds(rounds);
                addStarved(x, elements, link, want);
            }
        }
        for (int e = 0; e < elements; e++) {
            ClockTree x = make.get();
            if (!x.failElement(e, true)) {
                x.rounds(rounds);
                addStarved(x, elements, 100 + e, want);
            }
        }
        compare(scene + ", restore time " + restore, make.get(), want);
    }

    private static void addStarved(ClockTree x, int elements, int failed, List<int[]> want) {
        for (int e = 0; e < elements; e++) {
            boolean starved = x.state(e, 0) != 1 && x.state(e, 0) != 3 && x.best(e) < 7;
            if (starved && want.size() < 100) {
                want.add(new int[] {failed, e});
            }
        }
    }

    private static void compare(String scene, ClockTree x, List<int[]> want) {
        due.is(scene + ": check()", x.check(), want.size());
        for (int i = 0; i < want.size(); i++) {
            int k = i;
            due.is(scene + ": finding(" + k + ", 0)", x.finding(k, 0), want.get(k)[0]);
            due.is(scene + ": finding(" + k + ", 1)", x.finding(k, 1), want.get(k)[1]);
        }
        due.badArgument(scene + ": one more", () -> x.finding(want.size(), 0));
    }

    private static ClockTree elements(int n) {
        ClockTree x = new ClockTree();
        for (int e = 0; e < n; e++) {
            x.element(e, 0, 0, 0);
        }
        return x;
    }

    /** A ring of three, in which element 2 may not take its time from element 0. */
    private static ClockTree lame() {
        ClockTree x = elements(3);
        x.link(0, 0, 1, 0);
        x.link(1, 1, 2, 0);
        x.link(2, 1, 0, 1);
        x.source(0, 3, 1, 0);
        x.lockout(2, 1, true);
        return x;
    }

    /** Nothing moves any more before the failure, nor in the two rounds in which words last. */
    private static ClockTree settledForLong() {
        ClockTree x = lame();
        x.rounds(200);
        return x;
    }

    /** The best source is gone, so that all must turn to a worse one in the check's own rounds. */
    private static ClockTree sourceIsGone() {
        ClockTree x = elements(3);
        x.link(2, 1, 0, 0);
        x.link(2, 2, 1, 0);
        x.link(1, 2, 0, 2);
        x.source(2, 3, 2, 0);
        x.source(0, 3, 0, 0);
        x.rounds(13);
        x.source(0, 3, NONE, 0);
        return x;
    }

    // The following three have no source that may be used, but words that run round for ever, where
    // tracing is off: who has one at the end depends on all that was when the failure came.

    private static ClockTree usableRoundsCount() {
        ClockTree x = elements(3);
        x.link(1, 1, 2, 1);
        x.link(1, 0, 0, 0);
        x.link(2, 2, 0, 2);
        x.link(2, 0, 0, 1);
        x.source(1, 3, 1, 0);
        x.restore(0, 1);
        x.restore(1, 2);
        x.restore(2, 2);
        x.tracing(false);
        x.rounds(11);
        x.lockout(1, 3, true);
        x.lose(1, false);
        return x;
    }

    private static ClockTree hopsCount() {
        ClockTree x = elements(3);
        x.link(0, 1, 1, 1);
        x.link(2, 2, 1, 0);
        x.link(0, 0, 2, 0);
        x.link(0, 2, 1, 2);
        x.source(1, 3, 2, 0);
        x.source(2, 3, 2, 0);
        x.lockout(0, 0, true);
        x.lockout(1, 0, true);
        x.restore(2, 1);
        x.tracing(false);
        x.rounds(1);
        x.command(1, 0, 2);
        return x;
    }

    private static ClockTree agesCount() {
        ClockTree x = elements(3);
        x.link(1, 2, 2, 2);
        x.link(1, 1, 2, 0);
        x.link(0, 1, 1, 0);
        x.source(2, 1, 0, 0);
        x.source(0, 2, 0, 0);
        x.restore(0, 2);
        x.lockout(2, 1, true);
        x.lockout(2, 2, true);
        x.tracing(false);
        x.rounds(2);
        return x;
    }

    /** Manual ports make the choices go to and fro for ever, although tracing is on. */
    private static ClockTree tracesCount() {
        ClockTree x = elements(4);
        x.link(3, 3, 2, 1);
        x.link(0, 3, 2, 2);
        x.link(1, 3, 2, 0);
        x.link(0, 0, 2, 3);
        x.link(1, 1, 3, 0);
        x.link(1, 2, 0, 2);
        x.source(1, 0, 0, 0);
        x.source(3, 2, 1, 0);
        x.command(0, 1, 0);
        x.command(1, 1, 3);
        x.command(3, 1, 3);
        x.lockout(2, 0, true);
        x.priority(2, 1, 2);
        x.restore(3, 1);
        x.rounds(1);
        return x;
    }

    // In the next two a round goes by in which all words are of the quality that they had before
    // (in the second also of as many hops), and yet the net is not at rest.

    private static ClockTree hopsChangeLate() {
        ClockTree x = elements(3);
        x.link(0, 0, 1, 1);
        x.link(1, 2, 2, 2);
        x.link(0, 1, 2, 3);
        x.source(0, 3, 1, 0);
        x.source(2, 0, 1, 0);
        x.command(0, 1, 1);
        x.rounds(9);
        x.command(2, 0, 2);
        return x;
    }

    private static ClockTree tracesChangeLate() {
        ClockTree x = elements(6);
        x.link(2, 0, 3, 1);
        x.link(4, 3, 1, 2);
        x.link(3, 3, 1, 0);
        x.link(0, 3, 2, 3);
        x.link(5, 2, 3, 0);
        x.link(5, 3, 4, 2);
        x.link(5, 0, 0, 0);
        x.source(0, 2, 0, 0);
        x.lockout(5, 2, true);
        x.rounds(10);
        return x;
    }

    /**
     * One good word runs round a ring of five for ever: who has it at the end tells how many rounds
     * went by. Elements 5 to 15 are in a ring of their own, in which e has the restore time n.
     */
    private static ClockTree restlessRing(int e, int n) {
        ClockTree x = elements(16);
        for (int i = 0; i < 5; i++) {
            x.link(i, 0, (i + 1) % 5, 1);
            x.lockout(i, 0, true);
        }
        for (int i = 5; i < 16; i++) {
            x.link(i, 0, i == 15 ? 5 : i + 1, 1);
        }
        // These lead to a source, so that the ring's elements can be starved, but may not be used.
        for (int i = 0; i < 5; i++) {
            x.link(i, 2, i + 5, 2);
            x.lockout(i, 2, true);
        }
        for (int i = 5; i < 8; i++) {
            x.link(i, 3, i + 5, 3);
        }
        x.source(9, 3, 4, 0);
        x.tracing(false);
        x.source(0, 3, 1, 0);
        x.rounds(1);
        x.source(0, 3, NONE, 0);
        x.rounds(1);
        x.restore(e, n);
        return x;
    }

    private static ClockTree failedRestore(int n) {
        ClockTree x = restlessRing(11, n);
        x.failElement(11, true);
        return x;
    }

    private static ClockTree longestOfThree() {
        ClockTree x = restlessRing(7, 3);
        x.restore(8, 10);
        x.restore(9, 5);
        return x;
    }
}
