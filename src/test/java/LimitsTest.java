/**
 * The boundaries that 'Promise 1' to 'Promise 22' name, one promise after the other: the least and
 * the greatest value that is taken, what is empty and what is full. The values that are just
 * outside are refused in RefusalTest.
 */
public final class LimitsTest {
    private static final int NONE = ClockTree.NONE;

    private static final Due due = new Due();

    public static void main(String[] args) {
        nothingIsThere();
        tracingIsOn();
        sixteenElements();
        newElementHasNothing();
        refusedElementIsNotThere();
        numbersOfLinks();
        fourLinksBetweenTwo();
        linksOfFailedElements();
        portIsTakenUntilItsSourceIsGone();
        sixtyFourSources();
        sourceTakenAway();
        sourceBecomesALink();
        allPriorities();
        allRestoreTimes();
        tracingWas();
        allCommands();
        commandsOfOneElement();
        allLockouts();
        allFailedLinks();
        allFailedElements();
        failingTwiceIsFailingOnce();
        wholeTwiceIsWholeOnce();
        wholeAgainIsAsNew();
        lostWordsOfAllLinks();
        lostWhereNothingComes();
        lostInOneRoundOnly();
        fromOneToTwoHundredRounds();
        roundsOfNothing();
        settledFromTheFirstRound();
        settledWithNewElements();
        settledAndCallsBetween();
        settledByChoiceAlone();
        statesOfAllKinds();
        statesAreOfTheLatestRound();
        phasesOfAll();
        sendsOfAll();
        sendsAreOfTheLatestRound();
        tracedFromAllPorts();
        noLoop();
        bestOfAllQualities();
        bestOverAllLinks();
        bestOfFailedOnes();
        checkOfNothing();
        checkOfOne();
        checkInItsOrder();
        findingsUpToTheMost();
        findingsOfTheLatestCheck();
        starvedNeedASource();
        fiveHundredAndTwelveCalls();
        due.end();
    }

    /** n elements of quality 0, offset 0 and slope 0. */
    private static ClockTree elements(int n) {
        ClockTree x = new ClockTree();
        for (int e = 0; e < n; e++) {
            x.element(e, 0, 0, 0);
        }
        return x;
    }

    private static void ringOfLinks(ClockTree x) {
        for (int e = 0; e < 16; e++) {
            due.is("link in the ring", x.link(e, 0, (e + 1) % 16, 1), e);
        }
    }

    /** 16 elements in a ring, and 8 links across it. */
    private static ClockTree full() {
        ClockTree x = elements(16);
        ringOfLinks(x);
        for (int e = 0; e < 8; e++) {
            due.is("link across", x.link(e, 2, e + 8, 2), 16 + e);
        }
        return x;
    }

    /** Element 0 with a source (1, 40) at port 3, and element 1, by link 0 between ports 0. */
    private static ClockTree pair() {
        ClockTree x = new ClockTree();
        x.element(0, 3, 100, 2);
        x.element(1, 4, -50, -1);
        x.link(0, 0, 1, 0);
        x.source(0, 3, 1, 40);
        return x;
    }

    private static void state(String what, ClockTree x, int e, int condition, int port) {
        due.is(what + ": state(" + e + ", 0)", x.state(e, 0), condition);
        due.is(what + ": state(" + e + ", 1)", x.state(e, 1), port);
    }

    // Promise 1: No elements; tracing is on.

    private static void nothingIsThere() {
        for (int i = 0; i < 16; i++) {
            int e = i;
            ClockTree x = new ClockTree();
            due.badArgument("1: state", () -> x.state(e, 0));
            x.element(e, 0, 0, 0);
            due.is("1: it was not there", x.state(e, 0), 0);
        }
        ClockTree x = new ClockTree();
        due.is("1: settled", x.settled(), 0);
        due.is("1: loop", x.loop(), false);
        due.badArgument("1: no check yet", () -> x.finding(0, 0));
        due.is("1: check", x.check(), 0);
        due.badArgument("1: no link", () -> x.fail(0, false));
        due.badArgument("1: no word", () -> x.lose(0, false));
    }

    private static void tracingIsOn() {
        due.is("1: tracing(false)", new ClockTree().tracing(false), true);
        due.is("1: tracing(true)", new ClockTree().tracing(true), true);
    }

    // Promise 2: An element is there, whole and free, all its ports with nothing, priorities and
    // restore time 0, no commands.

    private static void sixteenElements() {
        ClockTree x = new ClockTree();
        for (int i = 15; i >= 0; i--) {
            int e = i;
            due.badArgument("2: not there yet", () -> x.phase(e));
            x.element(e, e % 7, 100 * e - 700, e - 7);
            due.is("2: there", x.state(e, 4), 100 * e - 700);
            due.badState("2: there already", () -> x.element(e, 0, 0, 0));
        }
        for (int e = 0; e < 16; e++) {
            state("2: whole and free", x, e, 0, NONE);
            due.is("2: its own offset", x.state(e, 4), 100 * e - 700);
        }
    }

    private static void newElementHasNothing() {
        ClockTree x = elements(1);
        x.rounds(4);
        x.element(15, 6, 1000, -9);
        state("2: free", x, 15, 0, NONE);
        due.is("2: hops", x.state(15, 2), NONE);
        due.is("2: quality", x.state(15, 3), NONE);
        due.is("2: phase", x.phase(15), 0);
        due.is("2: traced", x.traced(15), NONE);
        due.is("2: best", x.best(15), 7);
        due.is("2: restore time", x.restore(15, 1), 0);
        due.is("2: forced", x.command(15, 0, 1), NONE);
        due.is("2: manual", x.command(15, 1, 1), NONE);
        for (int p = 0; p < 4; p++) {
            due.is("2: sends", x.sends(15, p), NONE);
            due.is("2: priority", x.priority(15, p, 1), 0);
            due.is("2: locked out", x.lockout(15, p, true), false);
            due.is("2: its port has nothing", x.link(15, p, 0, p), p);
        }
        due.is("2: failed", x.failElement(15, true), false);
    }

    private static void refusedElementIsNotThere() {
        ClockTree x = new ClockTree();
        due.badArgument("2: slope 10", () -> x.element(3, 6, 1000, 10));
        due.badArgument("2: not there", () -> x.state(3, 4));
        x.element(3, 1, 2, 3);
        due.is("2: now it is", x.state(3, 4), 2);
        due.badState("2: again", () -> x.element(3, 6, 1000, 9));
        due.is("2: as it was", x.state(3, 4), 2);
    }

    // Promise 3: A whole link between two ports: its number, from 0. .. or there are 24.

    private static void numbersOfLinks() {
        ClockTree x = full();
        due.badState("3: a 25th", () -> x.link(0, 3, 15, 3));
        due.is("3: the first is whole", x.fail(0, false), false);
        due.is("3: the last is whole", x.fail(23, false), false);
        due.badArgument("3: no 25th", () -> x.fail(24, false));
        x.fail(7, true);
        due.badState("3: a failed one is one of them", () -> x.link(0, 3, 15, 3));
        x.failElement(9, true);
        due.badState("3: so is a failed element's", () -> x.link(0, 3, 15, 3));
        x.source(0, 3, 6, 0);
        due.is("3: its port is as it was", x.best(8), 6);
    }

    private static void fourLinksBetweenTwo() {
        ClockTree x = elements(2);
        for (int p = 0; p < 4; p++) {
            due.is("3: its number", x.link(1, p, 0, 3 - p), p);
        }
        for (int p = 0; p < 4; p++) {
            int taken = p;
            due.badState("3: all are taken", () -> x.link(0, taken, 1, taken));
        }
        due.badArgument("3: no link of refused ones", () -> x.fail(4, true));
        x.rounds(1);
        for (int p = 0; p < 4; p++) {
            due.is("3: over each", x.sends(0, p), 8);
            due.is("3: and back", x.sends(1, p), 8);
        }
    }

    private static void linksOfFailedElements() {
        ClockTree x = elements(2);
        x.source(0, 3, 2, 0);
        x.failElement(0, true);
        due.is("3: to a failed element", x.link(1, 0, 0, 0), 0);
        due.badState("3: its port is taken", () -> x.link(1, 1, 0, 0));
        x.failElement(0, false);
        x.rounds(2);
        state("3: over it", x, 1, 1, 0);
    }

    private static void portIsTakenUntilItsSourceIsGone() {
        ClockTree x = elements(2);
        x.source(0, 0, 6, 0);
        due.badState("3: the first port has a source", () -> x.link(0, 0, 1, 0));
        due.badState("3: the second port has a source", () -> x.link(1, 0, 0, 0));
        x.source(0, 0, NONE, 0);
        due.is("3: none any more", x.link(0, 0, 1, 0), 0);
        due.badState("4: a link does not go away", () -> x.source(0, 0, NONE, 0));
    }

    // Promise 4: A port has a source, another one, or (quality NONE) none any more.

    private static void sixtyFourSources() {
        ClockTree x = elements(16);
        for (int e = 0; e < 16; e++) {
            for (int p = 0; p < 4; p++) {
                x.source(e, p, p == e % 4 ? e % 6 : 6, 10 * e + p);
            }
        }
        x.rounds(1);
        for (int e = 0; e < 16; e++) {
            state("4: four sources", x, e, 1, e % 4);
            due.is("4: its quality", x.state(e, 3), e % 6);
            due.is("4: its offset", x.state(e, 4), 10 * e + e % 4);
            due.is("4: traced", x.traced(e), 4 * e + e % 4);
        }
    }

    private static void sourceTakenAway() {
        for (int offset : new int[] {0, 1000, 1001, -1001, Integer.MIN_VALUE, Integer.MAX_VALUE}) {
            ClockTree x = elements(1);
            x.source(0, 2, NONE, offset);
            due.is("4: there was none", x.best(0), 7);
            x.source(0, 2, 6, 1000);
            due.is("4: there is one", x.best(0), 6);
            x.rounds(1);
            x.source(0, 2, 0, -1000);
            due.is("4: there is another one", x.best(0), 0);
            x.rounds(1);
            due.is("4: its offset", x.state(0, 4), -1000);
            x.source(0, 2, NONE, offset);
            due.is("4: none any more", x.best(0), 7);
            x.rounds(1);
            state("4: none any more", x, 0, 2, NONE);
            due.is("4: the offset is not looked at", x.state(0, 4), -1000);
        }
    }

    /** What a source was is no word that the port has when it gets a link. */
    private static void sourceBecomesALink() {
        ClockTree x = elements(2);
        x.restore(0, 2);
        x.source(0, 0, 1, 500);
        x.source(0, 3, 6, 600);
        x.rounds(20);
        state("4: by the source", x, 0, 1, 0);
        x.source(0, 0, NONE, 0);
        x.link(0, 0, 1, 0);
        due.is("4: nothing was sent to a source", x.sends(0, 0), NONE);
        x.rounds(1);
        state("4: a link without a word", x, 0, 1, 3);
        x.source(1, 3, 0, 0);
        x.rounds(3);
        state("4: usable for two rounds, as a link", x, 0, 1, 3);
        x.rounds(1);
        state("4: for three", x, 0, 1, 0);
    }

    // Promise 5: A port's priority becomes v (0 .. 9): what it was.

    private static void allPriorities() {
        ClockTree x = elements(16);
        for (int e = 0; e < 16; e += 15) {
            for (int p = 0; p < 4; p++) {
                for (int v = 0; v <= 9; v++) {
                    due.is("5: what it was", x.priority(e, p, v), v == 0 ? 0 : v - 1);
                }
            }
        }
        due.is("5: of no other port", x.priority(1, 0, 0), 0);
        due.is("5: 9, still", x.priority(15, 3, 9), 9);
        due.is("5: and again", x.priority(15, 3, 0), 9);
    }

    // Promise 6: An element's restore time becomes n (0 .. 10): what it was.

    private static void allRestoreTimes() {
        ClockTree x = elements(16);
        for (int e = 0; e < 16; e += 15) {
            for (int n = 0; n <= 10; n++) {
                due.is("6: what it was", x.restore(e, n), n == 0 ? 0 : n - 1);
            }
        }
        due.is("6: of no other element", x.restore(1, 0), 0);
        due.is("6: 10, still", x.restore(15, 10), 10);
        due.is("6: and again", x.restore(15, 0), 10);
    }

    // Promise 7: TRACING is on or not: whether it was.

    private static void tracingWas() {
        ClockTree x = new ClockTree();
        due.is("7: on, then on", x.tracing(true), true);
        due.is("7: on, then off", x.tracing(false), true);
        due.is("7: off, then off", x.tracing(false), false);
        due.is("7: off, then on", x.tracing(true), false);
        due.is("7: on at last", x.tracing(true), true);
    }

    // Promise 8: The port that is forced (which 0) or manual (1), or NONE: what it was.

    private static void allCommands() {
        ClockTree x = elements(16);
        for (int e = 0; e < 16; e += 15) {
            for (int which = 0; which < 2; which++) {
                for (int p = NONE; p <= 3; p++) {
                    due.is("8: what it was", x.command(e, which, p), p == NONE ? NONE : p - 1);
                }
                due.is("8: what it was at last", x.command(e, which, NONE), 3);
                due.is("8: none", x.command(e, which, NONE), NONE);
            }
        }
    }

    private static void commandsOfOneElement() {
        ClockTree x = elements(2);
        x.command(0, 0, 1);
        x.command(0, 1, 2);
        due.is("8: forced and manual are two", x.command(0, 0, NONE), 1);
        due.is("8: manual is as it was", x.command(0, 1, NONE), 2);
        due.is("8: no other element's", x.command(1, 0, NONE), NONE);
        due.is("8: nor its manual one", x.command(1, 1, NONE), NONE);
        x.command(0, 0, 3);
        x.failElement(0, true);
        x.rounds(1);
        x.failElement(0, false);
        due.is("8: a failure leaves it", x.command(0, 0, NONE), 3);
    }

    // Promise 9: A port is locked out, or not: whether it was.

    private static void allLockouts() {
        ClockTree x = elements(16);
        for (int e = 0; e < 16; e += 15) {
            for (int p = 0; p < 4; p++) {
                due.is("9: it was not", x.lockout(e, p, false), false);
                due.is("9: nor then", x.lockout(e, p, true), false);
                due.is("9: then it was", x.lockout(e, p, true), true);
                due.is("9: and then", x.lockout(e, p, false), true);
                due.is("9: and is no more", x.lockout(e, p, p == 3), false);
            }
        }
        due.is("9: this alone", x.lockout(0, 2, false), false);
        due.is("9: and this", x.lockout(0, 3, false), true);
        due.is("9: no other element's", x.lockout(1, 3, false), false);
    }

    // Promise 10: A link fails or is whole: whether it was failed.

    private static void allFailedLinks() {
        ClockTree x = full();
        for (int link = 0; link < 24; link++) {
            due.is("10: whole", x.fail(link, false), false);
            due.is("10: fails", x.fail(link, true), false);
            due.is("10: fails again", x.fail(link, true), true);
        }
        x.source(0, 3, 1, 0);
        x.rounds(20);
        for (int e = 1; e < 16; e++) {
            due.is("10: nothing comes", x.state(e, 0), 0);
        }
        for (int link = 0; link < 24; link++) {
            due.is("10: whole again", x.fail(link, false), true);
            due.is("10: whole, twice", x.fail(link, false), false);
        }
        x.rounds(20);
        for (int e = 1; e < 16; e++) {
            due.is("10: it comes again", x.state(e, 0), 1);
        }
    }

    // Promise 11: An element fails, or is whole: whether it was failed.

    private static void allFailedElements() {
        ClockTree x = full();
        for (int e = 0; e < 16; e++) {
            due.is("11: whole", x.failElement(e, false), false);
            due.is("11: fails", x.failElement(e, true), false);
            state("11: failed", x, e, 3, NONE);
            due.is("11: fails again", x.failElement(e, true), true);
        }
        due.is("11: all are failed", x.rounds(200), 199);
        due.is("11: nothing can fail", x.check(), 0);
        for (int e = 0; e < 16; e++) {
            due.is("11: no phase", x.phase(e), 0);
            due.is("11: whole again", x.failElement(e, false), true);
            due.is("11: whole, twice", x.failElement(e, false), false);
        }
    }

    private static void failingTwiceIsFailingOnce() {
        ClockTree x = pair();
        x.rounds(4);
        x.failElement(1, true);
        x.failElement(1, true);
        x.failElement(1, false);
        x.rounds(1);
        state("11: by the word of the round before", x, 1, 1, 0);
    }

    private static void wholeTwiceIsWholeOnce() {
        ClockTree x = pair();
        x.rounds(4);
        due.is("11: it was not failed", x.failElement(0, false), false);
        state("11: one that was whole is not whole again", x, 0, 1, 3);
        due.is("11: nor has it sent nothing", x.sends(0, 0), 1);
        due.is("11: its hops", x.state(1, 2), 1);
        x.source(0, 3, NONE, 0);
        x.failElement(0, false);
        x.rounds(1);
        state("11: it ever was locked", x, 0, 2, NONE);
    }

    /** Free, no words, not usable before, nothing sent; what was set stays. */
    private static void wholeAgainIsAsNew() {
        ClockTree x = pair();
        x.restore(1, 2);
        x.priority(1, 0, 5);
        x.lockout(1, 2, true);
        x.source(1, 1, 6, 0);
        x.rounds(9);
        x.failElement(1, true);
        due.is("11: failed: no hops", x.state(1, 2), NONE);
        due.is("11: failed: no quality", x.state(1, 3), NONE);
        due.is("11: failed: it has sent nothing", x.sends(1, 0), NONE);
        x.failElement(1, false);
        state("11: free", x, 1, 0, NONE);
        due.is("11: no hops", x.state(1, 2), NONE);
        due.is("11: it has sent nothing", x.sends(1, 0), NONE);
        x.lose(0, false);
        x.rounds(1);
        state("11: its port has no word", x, 1, 1, 1);
        x.rounds(2);
        state("11: its ports were not usable: the source is ready first", x, 1, 1, 1);
        x.rounds(1);
        state("11: then the link", x, 1, 1, 0);
        due.is("11: restore time", x.restore(1, 0), 2);
        due.is("11: priority", x.priority(1, 0, 0), 5);
        due.is("11: lockout", x.lockout(1, 2, false), true);
    }

    // Promise 12: The word that would come over a link in the next round from its first end (back:
    // from the second one) is LOST.

    private static void lostWordsOfAllLinks() {
        for (int link = 0; link < 24; link++) {
            ClockTree x = full();
            int first = link < 16 ? link : link - 16;
            int second = link < 16 ? (link + 1) % 16 : first + 8;
            int p = link < 16 ? 0 : 2;
            int q = link < 16 ? 1 : 2;
            x.source(first, 3, 1, 0);
            x.command(second, 0, q);
            x.rounds(1);
            x.lose(link, true);
            x.rounds(1);
            state("12: lost on the way back", x, second, 1, q);
            x.failElement(second, true);
            x.failElement(second, false);
            x.lose(link, false);
            x.rounds(1);
            state("12: lost on the way there", x, second, 0, q);
            due.is("12: though it was sent", x.sends(first, p), 1);
            x.rounds(1);
            state("12: but not the next one", x, second, 1, q);
        }
    }

    private static void lostWhereNothingComes() {
        ClockTree x = pair();
        x.lose(0, false);
        x.rounds(1);
        x.rounds(1);
        state("12: nothing would have come in that round", x, 1, 1, 0);
        ClockTree y = pair();
        y.rounds(1);
        y.fail(0, true);
        y.lose(0, false);
        y.fail(0, false);
        y.rounds(1);
        state("12: lost, though the link was failed then", y, 1, 0, NONE);
    }

    private static void lostInOneRoundOnly() {
        ClockTree x = pair();
        x.rounds(1);
        x.lose(0, false);
        x.lose(0, false);
        x.lose(0, false);
        x.rounds(1);
        state("12: lost", x, 1, 0, NONE);
        x.rounds(1);
        state("12: three times lost is once lost", x, 1, 1, 0);
        ClockTree y = pair();
        y.rounds(1);
        y.failElement(1, true);
        y.lose(0, false);
        y.rounds(1);
        y.failElement(1, false);
        y.rounds(1);
        state("12: the round went by, though nobody listened", y, 1, 1, 0);
    }

    // Promise 13: n rounds (1 .. 200): SETTLED behind them.

    private static void fromOneToTwoHundredRounds() {
        ClockTree x = new ClockTree();
        x.element(0, 0, 1, 0);
        long phase = 0;
        for (int n = 1; n <= 200; n++) {
            phase += n;
            due.is("13: settled behind " + n, x.rounds(n), phase);
            due.is("13: " + n + " rounds went by", x.phase(0), phase);
        }
    }

    private static void roundsOfNothing() {
        ClockTree x = new ClockTree();
        due.badArgument("13: 0", () -> x.rounds(0));
        due.badArgument("13: 201", () -> x.rounds(201));
        due.is("13: none went by", x.settled(), 0);
        due.is("13: 1", x.rounds(1), 1);
        due.is("13: 200", x.rounds(200), 201);
    }

    // Promise 14: for how many of the latest rounds no element's state was another one at the end
    // than at the end of the round before.

    private static void settledFromTheFirstRound() {
        ClockTree x = elements(16);
        due.is("14: before", x.settled(), 0);
        due.is("14: all were free, and are", x.rounds(1), 1);
        ClockTree y = elements(1);
        y.source(0, 0, 0, 0);
        due.is("14: it locked in the first round", y.rounds(1), 0);
        due.is("14: and stays so", y.rounds(1), 1);
        ClockTree z = elements(1);
        z.failElement(0, true);
        due.is("14: it failed before the first round", z.rounds(1), 0);
        ClockTree w = elements(1);
        w.command(0, 0, 3);
        due.is("14: it chose in the first round", w.rounds(1), 0);
    }

    private static void settledWithNewElements() {
        ClockTree x = elements(1);
        x.rounds(10);
        x.element(15, 0, 0, 0);
        due.is("14: a call is no round", x.settled(), 10);
        due.is("14: one that was not there counts as free", x.rounds(1), 11);
        x.element(14, 0, 0, 0);
        x.source(14, 0, 6, 0);
        due.is("14: and now is locked", x.rounds(1), 0);
        x.element(13, 0, 0, 0);
        x.failElement(13, true);
        due.is("14: or failed", x.rounds(1), 0);
        due.is("14: settled", x.rounds(5), 5);
    }

    private static void settledAndCallsBetween() {
        ClockTree x = pair();
        x.rounds(10);
        due.is("14: locked in two rounds", x.settled(), 8);
        x.failElement(1, true);
        due.is("14: a call is no round", x.settled(), 8);
        due.is("14: failed between", x.rounds(1), 0);
        due.is("14: failed, still", x.rounds(7), 7);
        x.failElement(1, false);
        due.is("14: whole again, locked at once", x.rounds(1), 0);
        due.is("14: locked", x.rounds(1), 1);
        x.failElement(1, true);
        x.failElement(1, false);
        due.is("14: failed between, but locked at both ends", x.rounds(1), 2);
        x.fail(0, true);
        due.is("14: two rounds of its last word", x.rounds(2), 4);
        due.is("14: in holdover", x.rounds(1), 0);
    }

    private static void settledByChoiceAlone() {
        ClockTree x = elements(1);
        x.source(0, 0, 1, 0);
        x.source(0, 3, 1, 0);
        due.is("14: locked", x.rounds(3), 2);
        x.priority(0, 0, 1);
        due.is("14: by another port", x.rounds(1), 0);
        x.source(0, 3, 0, 100);
        due.is("14: quality and offset are no state", x.rounds(1), 1);
        x.source(0, 0, NONE, 0);
        due.is("14: nor is a port that it did not choose", x.rounds(1), 2);
        x.source(0, 3, NONE, 0);
        due.is("14: holdover", x.rounds(1), 0);
        x.command(0, 0, 2);
        due.is("14: holdover, with another choice", x.rounds(1), 0);
    }

    // Promise 15: 0 free, 1 locked, 2 in holdover, 3 failed; the port, NONE for none or when
    // failed; the hops and quality of its choice, NONE when not locked; its offset.

    private static void statesOfAllKinds() {
        ClockTree x = new ClockTree();
        for (int e = 12; e < 16; e++) {
            x.element(e, 0, e, 1);
        }
        x.source(13, 3, 6, 500);
        x.source(14, 2, 0, 600);
        x.source(15, 1, 0, 700);
        x.rounds(1);
        x.source(14, 2, NONE, 0);
        x.failElement(15, true);
        x.rounds(1);
        int[][] want = {{0, NONE, NONE, NONE, 12}, {1, 3, 0, 6, 500}, {2, NONE, NONE, NONE, 601},
            {3, NONE, NONE, NONE, 700}};
        for (int e = 12; e < 16; e++) {
            for (int what = 0; what < 5; what++) {
                due.is("15: state(" + e + ", " + what + ")", x.state(e, what), want[e - 12][what]);
            }
        }
        x.command(12, 0, 0);
        x.command(15, 0, 1);
        x.rounds(1);
        state("15: free, but forced", x, 12, 0, 0);
        due.is("15: its hops", x.state(12, 2), NONE);
        due.is("15: its quality", x.state(12, 3), NONE);
        state("15: failed and forced", x, 15, 3, NONE);
    }

    private static void statesAreOfTheLatestRound() {
        ClockTree x = pair();
        x.rounds(5);
        x.source(0, 3, 6, 900);
        x.lockout(1, 0, true);
        x.command(1, 0, 3);
        x.fail(0, true);
        state("15: no round since", x, 0, 1, 3);
        due.is("15: its quality", x.state(0, 3), 1);
        due.is("15: its offset", x.state(0, 4), 40);
        state("15: no round since", x, 1, 1, 0);
        due.is("15: its hops", x.state(1, 2), 1);
    }

    // Promise 16: The PHASE.

    private static void phasesOfAll() {
        ClockTree x = new ClockTree();
        for (int e = 0; e < 16; e++) {
            x.element(e, 0, e == 15 ? 1000 : -1000 + e, 0);
        }
        x.rounds(200);
        for (int e = 0; e < 16; e++) {
            due.is("16: phase", x.phase(e), 200L * (e == 15 ? 1000 : -1000 + e));
        }
    }

    // Promise 17: The quality of the word that an element sent to a port in the latest round; NONE
    // when there was none.

    private static void sendsOfAll() {
        ClockTree x = full();
        for (int e = 0; e < 16; e++) {
            for (int p = 0; p < 4; p++) {
                due.is("17: before", x.sends(e, p), NONE);
            }
        }
        x.rounds(1);
        for (int e = 0; e < 16; e++) {
            for (int p = 0; p < 4; p++) {
                due.is("17: to each that has a link", x.sends(e, p), p == 3 ? NONE : 8);
            }
        }
    }

    private static void sendsAreOfTheLatestRound() {
        ClockTree x = pair();
        x.rounds(3);
        x.source(0, 3, 0, 0);
        due.is("17: the source is another one since", x.sends(0, 0), 1);
        x.fail(0, true);
        due.is("17: the link has failed since", x.sends(0, 0), 1);
        x.rounds(1);
        due.is("17: over a failed link", x.sends(0, 0), 0);
        x.failElement(1, true);
        x.rounds(1);
        due.is("17: to a failed element", x.sends(0, 0), 0);
        due.is("17: by a failed element", x.sends(1, 0), NONE);
        x.failElement(0, true);
        due.is("17: by one that has failed since", x.sends(0, 0), NONE);
        x.failElement(0, false);
        due.is("17: by one that is whole again", x.sends(0, 0), NONE);
    }

    // Promise 18: 4 times the element that has it, and the port; NONE when to none.

    private static void tracedFromAllPorts() {
        for (int slot = 0; slot < 64; slot++) {
            ClockTree x = elements(16);
            int other = slot / 4 == 0 ? 1 : 0;
            x.source(slot / 4, slot % 4, 3, 0);
            x.link(slot / 4, (slot + 1) % 4, other, 0);
            due.is("18: before", x.traced(slot / 4), NONE);
            x.rounds(2);
            due.is("18: its own", x.traced(slot / 4), slot);
            due.is("18: over a link", x.traced(other), slot);
            due.is("18: nobody else's", x.traced(slot / 4 == 15 ? 14 : 15), NONE);
        }
    }

    // Promise 19: Whether there is a LOOP.

    private static void noLoop() {
        ClockTree x = full();
        due.is("19: before all rounds", x.loop(), false);
        x.rounds(50);
        due.is("19: nobody is locked", x.loop(), false);
        x.source(0, 3, 1, 0);
        x.rounds(50);
        due.is("19: all are", x.loop(), false);
    }

    // Promise 20: The best quality of all sources of elements to which whole links and elements
    // lead from e (also its own); 7 when there is none, or e is failed.

    private static void bestOfAllQualities() {
        ClockTree x = elements(1);
        due.is("20: none", x.best(0), 7);
        for (int quality = 6; quality >= 0; quality--) {
            x.source(0, quality % 4, quality, 0);
            due.is("20: the best so far", x.best(0), quality);
        }
        for (int p = 0; p < 4; p++) {
            x.source(0, p, NONE, 0);
        }
        due.is("20: none any more", x.best(0), 7);
    }

    private static void bestOverAllLinks() {
        ClockTree x = elements(16);
        for (int e = 0; e < 15; e++) {
            // Not in rising order, so that the way cannot be found by going over the links once.
            int near = e * 7 % 15;
            x.link(near, 1, near + 1, 0);
        }
        x.source(15, 3, 6, 0);
        due.is("20: from one end to the other", x.best(0), 6);
        x.source(0, 3, 5, 0);
        due.is("20: and back", x.best(15), 5);
        due.is("20: its own", x.best(0), 5);
        x.lockout(0, 3, true);
        due.is("20: a locked out one is one, too", x.best(15), 5);
        for (int link = 0; link < 15; link++) {
            x.fail(link, true);
            due.is("20: over a failed link", x.best(15), 6);
            due.is("20: nor to it", x.best(0), 5);
            x.fail(link, false);
        }
        for (int e = 1; e < 15; e++) {
            x.failElement(e, true);
            due.is("20: over a failed element", x.best(15), 6);
            due.is("20: for it", x.best(e), 7);
            x.failElement(e, false);
        }
        due.is("20: all is whole again", x.best(15), 5);
    }

    private static void bestOfFailedOnes() {
        ClockTree x = pair();
        due.is("20: over the link", x.best(1), 1);
        x.failElement(0, true);
        due.is("20: a failed one with a source", x.best(0), 7);
        due.is("20: from a failed one", x.best(1), 7);
        x.source(1, 3, 6, 0);
        due.is("20: its own", x.best(1), 6);
        x.failElement(1, true);
        due.is("20: failed, too", x.best(1), 7);
    }

    // Promise 21: For each whole link in rising order, then each whole element. How many such
    // findings there are, 100 at most.

    private static void checkOfNothing() {
        ClockTree x = new ClockTree();
        due.is("21: nobody is there", x.check(), 0);
        due.badArgument("22: no finding", () -> x.finding(0, 0));
        ClockTree y = full();
        due.is("21: no source is there", y.check(), 0);
        y.source(0, 3, 0, 0);
        due.is("21: all are served twice", y.check(), 0);
    }

    private static void checkOfOne() {
        ClockTree x = elements(1);
        x.source(0, 0, 0, 0);
        x.lockout(0, 0, true);
        due.is("21: it is not starved by its own failure", x.check(), 0);
        x.element(15, 0, 0, 0);
        due.is("21: but by another one's, which changes nothing", x.check(), 1);
        due.is("22: element 15 failed", x.finding(0, 0), 115);
        due.is("22: element 0 is starved", x.finding(0, 1), 0);
        x.failElement(15, true);
        due.is("21: a failed one does not fail", x.check(), 0);
    }

    /** Elements 0 and 15 are starved whatever fails but themselves. */
    private static void checkInItsOrder() {
        ClockTree x = elements(2);
        x.element(15, 0, 0, 0);
        x.link(15, 0, 1, 1);
        x.link(0, 0, 1, 0);
        for (int e = 0; e < 16; e += 15) {
            x.source(e, 3, 2, 0);
            x.lockout(e, 3, true);
            x.command(e, 0, 3);
        }
        x.command(1, 0, 3);
        // Element 1 is starved, too, as long as it is not cut off from both.
        int[][] want = {{0, 0}, {0, 1}, {0, 15}, {1, 0}, {1, 1}, {1, 15}, {100, 1}, {100, 15},
            {101, 0}, {101, 15}, {115, 0}, {115, 1}};
        due.is("21: findings", x.check(), want.length);
        for (int k = 0; k < want.length; k++) {
            due.is("22: finding(" + k + ", 0)", x.finding(k, 0), want[k][0]);
            due.is("22: finding(" + k + ", 1)", x.finding(k, 1), want[k][1]);
        }
        x.fail(0, true);
        // By link 1 and by element 0 element 1 is cut off now.
        int[][] then = {{1, 0}, {1, 15}, {100, 15}, {101, 0}, {101, 15}, {115, 0}, {115, 1}};
        due.is("21: link 0 does not fail again", x.check(), then.length);
        for (int k = 0; k < then.length; k++) {
            due.is("22: then finding(" + k + ", 0)", x.finding(k, 0), then[k][0]);
            due.is("22: then finding(" + k + ", 1)", x.finding(k, 1), then[k][1]);
        }
    }

    /**
     * k elements, each with a source that it may not use, are starved by all but themselves: by
     * links and elements of a row that has no source.
     */
    private static ClockTree starvedBy(int k, int others, int links) {
        ClockTree x = elements(k + others);
        for (int e = 0; e < k; e++) {
            x.source(e, 0, 0, 0);
            x.lockout(e, 0, true);
        }
        for (int i = 0; i < links; i++) {
            int near = k + i % (others - 1);
            x.link(near, 2 * (i / (others - 1)), near + 1, 2 * (i / (others - 1)) + 1);
        }
        return x;
    }

    private static void findingsUpToTheMost() {
        int[][] nets = {{1, 2, 0}, {1, 15, 24}, {3, 13, 18}, {4, 12, 10}, {3, 13, 19}, {4, 12, 22}};
        int[] want = {2, 39, 99, 100, 100, 100};
        for (int i = 0; i < nets.length; i++) {
            int k = nets[i][0];
            int links = nets[i][2];
            ClockTree x = starvedBy(k, nets[i][1], links);
            due.is("21: findings", x.check(), want[i]);
            for (int j = 0; j < want[i] && j / k < links; j++) {
                due.is("22: by a link", x.finding(j, 0), j / k);
                due.is("22: who", x.finding(j, 1), j % k);
            }
            int none = want[i];
            due.badArgument("22: one too many", () -> x.finding(none, 0));
            due.badArgument("22: one too many, who", () -> x.finding(none, 1));
        }
        lastFindings();
    }

    private static void lastFindings() {
        ClockTree x = starvedBy(4, 12, 10);
        due.is("21: just 100", x.check(), 100);
        due.is("22: the last one is by element 15", x.finding(99, 0), 115);
        due.is("22: and is element 3", x.finding(99, 1), 3);
        ClockTree y = starvedBy(3, 13, 19);
        due.is("21: 102 would be", y.check(), 100);
        due.is("22: the first of element 15's", y.finding(99, 0), 115);
        due.is("22: is element 0", y.finding(99, 1), 0);
        y.fail(0, true);
        due.is("21: 99", y.check(), 99);
        due.is("22: the last one of 99", y.finding(98, 0), 115);
        due.badArgument("22: not 99", () -> y.finding(99, 0));
    }

    // Promise 22: Of finding k (from 0) of the latest check().

    private static void findingsOfTheLatestCheck() {
        ClockTree x = starvedBy(2, 2, 1);
        due.badArgument("22: no check yet", () -> x.finding(0, 0));
        due.is("21: findings", x.check(), 2 * 3 + 2);
        x.lockout(0, 0, false);
        x.rounds(3);
        x.failElement(2, true);
        due.is("22: calls since change none", x.finding(7, 0), 103);
        due.is("22: nor who is starved", x.finding(7, 1), 1);
        due.is("21: fewer", x.check(), 3);
        due.badArgument("22: none of the check before", () -> x.finding(3, 0));
        due.is("22: link 0 failed", x.finding(0, 0), 0);
        due.is("22: element 0 failed", x.finding(1, 0), 100);
        due.is("22: element 3 failed", x.finding(2, 0), 103);
        due.is("22: element 1 is starved", x.finding(2, 1), 1);
        x.lockout(1, 0, false);
        due.is("21: none", x.check(), 0);
        due.badArgument("22: none at all", () -> x.finding(0, 1));
    }

    private static void starvedNeedASource() {
        ClockTree x = elements(3);
        x.source(0, 3, 6, 0);
        x.link(0, 0, 1, 0);
        x.link(1, 1, 2, 0);
        due.is("21: who is cut off from all sources is not starved", x.check(), 0);
        x.source(2, 3, 0, 0);
        x.lockout(2, 3, true);
        int[][] want = {{0, 1}, {0, 2}, {1, 2}, {100, 1}, {100, 2}, {101, 2}};
        due.is("21: but who is cut off from those that it may use", x.check(), want.length);
        for (int k = 0; k < want.length; k++) {
            due.is("22: by what", x.finding(k, 0), want[k][0]);
            due.is("22: who", x.finding(k, 1), want[k][1]);
        }
    }

    /** An object is used for at most 512 calls: the last of them is answered like the first. */
    private static void fiveHundredAndTwelveCalls() {
        ClockTree x = elements(2);
        x.link(0, 0, 1, 0);
        x.source(0, 3, 1, 40);
        for (int i = 4; i < 510; i++) {
            x.check();
        }
        due.is("call 511", x.rounds(200), 198);
        due.is("call 512", x.state(1, 4), 40);
    }
}
