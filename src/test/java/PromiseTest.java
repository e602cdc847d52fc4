/** Each promise of the document by itself, with answers worked out by hand from its words. */
public final class PromiseTest {
    private static final int NONE = ClockTree.NONE;
    private static final int[] WRONG_ELEMENTS = {-1, 16, 2, Integer.MIN_VALUE, Integer.MAX_VALUE};
    private static final int[] WRONG_PORTS = {-1, 4, Integer.MIN_VALUE, Integer.MAX_VALUE};

    private static final Due due = new Due();

    public static void main(String[] args) {
        newObject();
        elements();
        elementsWrong();
        links();
        linksFull();
        sources();
        sourceOthers();
        priorities();
        restoreTimes();
        tracingOnAndOff();
        commands();
        lockouts();
        failedLinks();
        failedLinkSendsOn();
        failedElements();
        wholeAgain();
        lostWords();
        lostWordsOtherWay();
        numbersOfRounds();
        settledRounds();
        states();
        hopsAndQualities();
        phases();
        sentWords();
        tracedSources();
        loops();
        bestQualities();
        checks();
        checkOfTwoLinks();
        checkChangesNothing();
        checkPassesItsRounds();
        checkPassesLongestRestore();
        checkLosesWords();
        checkKeepsWords();
        checkObeysNewCommands();
        findingsAtMost();
        due.end();
    }

    /** Element 0 with a source (1, 40) at port 3, and element 1, by link 0 between ports 0. */
    private static ClockTree pair() {
        ClockTree x = new ClockTree();
        x.element(0, 3, 100, 2);
        x.element(1, 4, -50, -1);
        x.link(0, 0, 1, 0);
        x.source(0, 3, 1, 40);
        return x;
    }

    private static void state(ClockTree x, int e, int condition, int port) {
        due.is("state(" + e + ", 0)", x.state(e, 0), condition);
        due.is("state(" + e + ", 1)", x.state(e, 1), port);
    }

    private static void newObject() {
        ClockTree x = new ClockTree();
        for (int i = 0; i < 16; i++) {
            int e = i;
            due.badArgument("1: state of " + e, () -> x.state(e, 0));
        }
        due.is("1: settled()", x.settled(), 0);
        due.is("1: loop()", x.loop(), false);
        due.is("1: check()", x.check(), 0);
        due.badArgument("1: fail(0)", () -> x.fail(0, true));
        due.is("1: tracing(true)", x.tracing(true), true);
    }

    private static void elements() {
        ClockTree x = new ClockTree();
        x.rounds(3);
        x.element(0, 0, 1000, 9);
        x.element(15, 6, -1000, -9);
        for (int e = 0; e < 16; e += 15) {
            state(x, e, 0, NONE);
            due.is("2: hops", x.state(e, 2), NONE);
            due.is("2: quality", x.state(e, 3), NONE);
            due.is("2: offset", x.state(e, 4), e == 0 ? 1000 : -1000);
            due.is("2: phase", x.phase(e), 0);
            due.is("2: traced", x.traced(e), NONE);
            due.is("2: best", x.best(e), 7);
            due.is("2: restore time", x.restore(e, 0), 0);
            due.is("2: forced", x.command(e, 0, NONE), NONE);
            due.is("2: manual", x.command(e, 1, NONE), NONE);
            for (int p = 0; p < 4; p++) {
                due.is("2: sends", x.sends(e, p), NONE);
                due.is("2: priority", x.priority(e, p, 0), 0);
                due.is("2: locked out", x.lockout(e, p, false), false);
            }
            due.is("2: failed", x.failElement(e, false), false);
        }
        for (int p = 0; p < 4; p++) {
            x.link(0, p, 15, p);
        }
        x.rounds(1);
        due.is("2: held, best", x.sends(0, 0), 8);
        due.is("2: held, worst", x.sends(15, 3), 14);
        due.is("2: free offset", x.state(15, 4), -1000);
        due.is("2: phase of one round", x.phase(0), 1000);
    }

    private static void elementsWrong() {
        ClockTree x = new ClockTree();
        due.badArgument("2: e -1", () -> x.element(-1, 0, 0, 0));
        due.badArgument("2: e 16", () -> x.element(16, 0, 0, 0));
        due.badArgument("2: quality -1", () -> x.element(1, -1, 0, 0));
        due.badArgument("2: quality 7", () -> x.element(1, 7, 0, 0));
        due.badArgument("2: offset 1001", () -> x.element(1, 0, 1001, 0));
        due.badArgument("2: offset -1001", () -> x.element(1, 0, -1001, 0));
        due.badArgument("2: slope 10", () -> x.element(1, 0, 0, 10));
        due.badArgument("2: slope -10", () -> x.element(1, 0, 0, -10));
        due.badArgument("2: a refused one is not there", () -> x.state(1, 0));
        x.element(1, 5, 7, 1);
        due.badState("2: there already", () -> x.element(1, 0, 0, 0));
        due.badArgument("2: of two the first", () -> x.element(1, 7, 0, 0));
        due.is("2: a refused call leaves the offset", x.state(1, 4), 7);
        x.failElement(1, true);
        due.badState("2: a failed one is there, too", () -> x.element(1, 0, 0, 0));
    }

    private static void links() {
        ClockTree x = new ClockTree();
        x.element(0, 0, 0, 0);
        x.element(1, 0, 0, 0);
        for (int wrong : WRONG_ELEMENTS) {
            due.badArgument("3: a " + wrong, () -> x.link(wrong, 0, 1, 0));
            due.badArgument("3: b " + wrong, () -> x.link(0, 0, wrong, 0));
        }
        for (int wrong : WRONG_PORTS) {
            due.badArgument("3: p " + wrong, () -> x.link(0, wrong, 1, 0));
            due.badArgument("3: q " + wrong, () -> x.link(0, 0, 1, wrong));
        }
        due.badArgument("3: same element", () -> x.link(0, 0, 0, 1));
        due.is("3: first", x.link(0, 0, 1, 3), 0);
        due.badState("3: p has a link", () -> x.link(0, 0, 1, 1));
        due.badState("3: q has a link", () -> x.link(0, 1, 1, 3));
        due.badArgument("3: of two the first", () -> x.link(0, 0, 0, 0));
        x.source(0, 1, 6, 0);
        due.badState("3: p has a source", () -> x.link(0, 1, 1, 1));
        due.badState("3: q has a source", () -> x.link(1, 1, 0, 1));
        x.source(0, 1, NONE, 0);
        due.is("3: a port without its source", x.link(0, 1, 1, 1), 1);
        due.badArgument("3: a refused link has no number", () -> x.fail(2, true));
        due.is("3: a new link is whole", x.fail(1, false), false);
    }

    private static void linksFull() {
        ClockTree x = new ClockTree();
        for (int e = 0; e < 16; e++) {
            x.element(e, 0, 0, 0);
        }
        for (int e = 0; e < 16; e++) {
            due.is("3: ring", x.link(e, 0, (e + 1) % 16, 1), e);
        }
        for (int e = 0; e < 8; e++) {
            due.is("3: across", x.link(e, 2, e + 8, 2), 16 + e);
        }
        due.badState("3: there are 24", () -> x.link(0, 3, 1, 3));
        due.badArgument("3: there are 24, but the same element", () -> x.link(0, 3, 0, 3));
        due.is("3: link 23 is there", x.fail(23, true), false);
        due.badArgument("3: link 24 is not", () -> x.fail(24, true));
        x.source(0, 3, 1, 0);
        x.rounds(20);
        due.is("3: time goes over all", x.traced(8), 3);
    }

    private static void sources() {
        ClockTree x = new ClockTree();
        x.element(0, 0, 5, 0);
        x.element(1, 0, 0, 0);
        for (int wrong : WRONG_ELEMENTS) {
            due.badArgument("4: e " + wrong, () -> x.source(wrong, 0, 0, 0));
        }
        for (int wrong : WRONG_PORTS) {
            due.badArgument("4: p " + wrong, () -> x.source(0, wrong, 0, 0));
            due.badArgument("4: p " + wrong + " for none", () -> x.source(0, wrong, NONE, 0));
        }
        due.badArgument("4: quality 7", () -> x.source(0, 0, 7, 0));
        due.badArgument("4: quality -2", () -> x.source(0, 0, -2, 0));
        due.badArgument("4: offset 1001", () -> x.source(0, 0, 0, 1001));
        due.badArgument("4: offset -1001", () -> x.source(0, 0, 0, -1001));
        x.rounds(1);
        due.is("4: refused ones are not there", x.state(0, 0), 0);
        x.link(0, 0, 1, 0);
        due.badState("4: it has a link", () -> x.source(0, 0, 0, 0));
        due.badState("4: it has a link, for none", () -> x.source(1, 0, NONE, 0));
        due.badArgument("4: of two the first", () -> x.source(0, 0, 7, 0));
        x.source(0, 1, NONE, Integer.MAX_VALUE);
        x.source(0, 1, 6, -1000);
        due.is("4: best", x.best(0), 6);
    }

    private static void sourceOthers() {
        ClockTree x = new ClockTree();
        x.element(0, 0, 5, 3);
        x.source(0, 2, 6, -1000);
        x.rounds(1);
        state(x, 0, 1, 2);
        due.is("4: quality", x.state(0, 3), 6);
        due.is("4: offset", x.state(0, 4), -1000);
        x.source(0, 2, 0, 1000);
        due.is("4: another one counts from the next round", x.state(0, 4), -1000);
        x.rounds(1);
        due.is("4: quality of another one", x.state(0, 3), 0);
        due.is("4: offset of another one", x.state(0, 4), 1000);
        x.source(0, 2, NONE, 5000);
        state(x, 0, 1, 2);
        x.rounds(1);
        state(x, 0, 2, NONE);
        due.is("4: offset without it", x.state(0, 4), 1003);
        x.source(0, 2, NONE, 0);
        x.rounds(1);
        due.is("4: none any more, twice", x.state(0, 4), 1006);
    }

    private static void priorities() {
        ClockTree x = new ClockTree();
        x.element(0, 0, 0, 0);
        x.element(1, 0, 0, 0);
        for (int wrong : WRONG_ELEMENTS) {
            due.badArgument("5: e " + wrong, () -> x.priority(wrong, 0, 0));
        }
        for (int wrong : WRONG_PORTS) {
            due.badArgument("5: p " + wrong, () -> x.priority(0, wrong, 0));
        }
        due.badArgument("5: v -1", () -> x.priority(0, 0, -1));
        due.badArgument("5: v 10", () -> x.priority(0, 0, 10));
        x.source(0, 1, 2, 0);
        x.source(0, 2, 2, 0);
        x.source(0, 3, 3, 0);
        x.rounds(1);
        due.is("5: the lowest of equals", x.state(0, 1), 1);
        due.is("5: was", x.priority(0, 1, 9), 0);
        x.priority(0, 2, 8);
        x.rounds(1);
        due.is("5: the least priority", x.state(0, 1), 2);
        due.is("5: was 9", x.priority(0, 1, 8), 9);
        x.rounds(1);
        due.is("5: equals again", x.state(0, 1), 1);
        x.source(0, 2, 1, 0);
        x.priority(0, 2, 9);
        x.rounds(1);
        due.is("5: quality goes before priority", x.state(0, 1), 2);
        due.is("5: of this port alone", x.priority(1, 2, 1), 0);
        hopsGoBeforePriority();
    }

    private static void hopsGoBeforePriority() {
        ClockTree x = pair();
        x.source(1, 2, 1, 0);
        x.priority(1, 2, 9);
        x.rounds(5);
        due.is("5: hops go before priority", x.state(1, 1), 2);
        x.source(1, 2, 2, 0);
        x.rounds(1);
        due.is("5: quality goes before hops", x.state(1, 1), 0);
    }

    private static void restoreTimes() {
        ClockTree x = new ClockTree();
        x.element(0, 0, 0, 0);
        for (int wrong : WRONG_ELEMENTS) {
            due.badArgument("6: e " + wrong, () -> x.restore(wrong, 0));
        }
        due.badArgument("6: n -1", () -> x.restore(0, -1));
        due.badArgument("6: n 11", () -> x.restore(0, 11));
        due.is("6: was 0", x.restore(0, 10), 0);
        x.source(0, 3, 5, 0);
        x.rounds(1);
        due.is("6: the best of the usable, where none is ready", x.state(0, 1), 3);
        x.rounds(10);
        x.source(0, 1, 0, 0);
        x.rounds(10);
        due.is("6: 10 rounds are one too few", x.state(0, 1), 3);
        x.rounds(1);
        due.is("6: ready in the 11th", x.state(0, 1), 1);
        due.is("6: was 10", x.restore(0, 2), 10);
        x.lockout(0, 1, true);
        x.rounds(1);
        due.is("6: locked out", x.state(0, 1), 3);
        x.lockout(0, 1, false);
        x.rounds(2);
        due.is("6: not ready yet", x.state(0, 1), 3);
        x.restore(0, 1);
        x.rounds(1);
        due.is("6: a shorter time counts at once", x.state(0, 1), 1);
        x.source(0, 0, 0, 0);
        x.priority(0, 1, 1);
        x.restore(0, 10);
        x.rounds(1);
        due.is("6: a longer one, too", x.state(0, 1), 3);
        x.source(0, 3, NONE, 0);
        x.rounds(1);
        due.is("6: none is ready, the best usable one", x.state(0, 1), 0);
    }

    /** A ring of three round which a word can run, with no source any more. */
    private static ClockTree orphanedRing() {
        ClockTree x = new ClockTree();
        for (int e = 0; e < 3; e++) {
            x.element(e, e, 10 * e, 1);
        }
        x.link(0, 0, 1, 1);
        x.link(1, 0, 2, 1);
        x.link(2, 0, 0, 1);
        x.source(0, 3, 2, 77);
        x.lockout(0, 0, true);
        x.lockout(1, 0, true);
        x.lockout(2, 0, true);
        return x;
    }

    private static void tracingOnAndOff() {
        ClockTree x = orphanedRing();
        due.is("7: was on", x.tracing(false), true);
        due.is("7: was off", x.tracing(false), false);
        x.rounds(10);
        x.source(0, 3, NONE, 0);
        x.rounds(30);
        state(x, 0, 1, 1);
        due.is("7: it takes its own time", x.loop(), true);
        due.is("7: and is traced to nothing", x.traced(1), NONE);
        due.is("7: was off, still", x.tracing(true), false);
        x.rounds(20);
        due.is("7: no loop with tracing", x.loop(), false);
        for (int e = 0; e < 3; e++) {
            due.is("7: nobody is locked", x.state(e, 0), 2);
        }

        ClockTree y = orphanedRing();
        y.rounds(10);
        y.source(0, 3, NONE, 0);
        y.rounds(1);
        due.is("7: with tracing its own word is no use", y.state(0, 0), 2);
    }

    private static void commands() {
        ClockTree x = new ClockTree();
        x.element(0, 2, 0, 5);
        x.element(1, 0, 0, 0);
        for (int wrong : WRONG_ELEMENTS) {
            due.badArgument("8: e " + wrong, () -> x.command(wrong, 0, 0));
        }
        due.badArgument("8: p 4", () -> x.command(0, 0, 4));
        due.badArgument("8: p -2", () -> x.command(0, 1, -2));
        due.badArgument("8: which 2", () -> x.command(0, 2, 0));
        due.badArgument("8: which -1", () -> x.command(0, -1, 0));
        x.source(0, 0, 1, 10);
        x.source(0, 1, 2, 20);
        x.source(0, 2, 3, 30);
        x.link(0, 3, 1, 0);
        due.is("8: no manual one", x.command(0, 1, 1), NONE);
        x.rounds(1);
        state(x, 0, 1, 1);
        due.is("8: no forced one", x.command(0, 0, 2), NONE);
        x.rounds(1);
        state(x, 0, 1, 2);
        due.is("8: forced was 2", x.command(0, 0, 3), 2);
        x.rounds(1);
        state(x, 0, 2, 3);
        due.is("8: a forced port that is not usable", x.state(0, 3), NONE);
        due.is("8: holdover", x.state(0, 4), 35);
        due.is("8: to the one that it chose", x.sends(0, 3), 7);
        due.is("8: forced was 3", x.command(0, 0, NONE), 3);
        due.is("8: manual was 1", x.command(0, 1, 3), 1);
        x.rounds(1);
        state(x, 0, 1, 0);
        due.is("8: manual was 3", x.command(0, 1, NONE), 3);
        manualNeedsNoRestore();
    }

    private static void manualNeedsNoRestore() {
        ClockTree x = new ClockTree();
        x.element(0, 0, 0, 0);
        x.source(0, 0, 0, 0);
        x.restore(0, 3);
        x.rounds(4);
        x.source(0, 1, 6, 0);
        x.command(0, 1, 1);
        x.rounds(1);
        due.is("8: a manual port need not be ready", x.state(0, 1), 1);
        x.lockout(0, 1, true);
        x.rounds(1);
        due.is("8: but usable", x.state(0, 1), 0);
        x.command(0, 0, 1);
        x.rounds(1);
        state(x, 0, 2, 1);
    }

    private static void lockouts() {
        ClockTree x = pair();
        for (int wrong : WRONG_ELEMENTS) {
            due.badArgument("9: e " + wrong, () -> x.lockout(wrong, 0, true));
        }
        for (int wrong : WRONG_PORTS) {
            due.badArgument("9: p " + wrong, () -> x.lockout(0, wrong, true));
        }
        x.rounds(5);
        due.is("9: a source, was not", x.lockout(0, 3, true), false);
        state(x, 0, 1, 3);
        x.rounds(1);
        state(x, 0, 2, NONE);
        due.is("9: was", x.lockout(0, 3, false), true);
        x.rounds(5);
        due.is("9: a link, was not", x.lockout(1, 0, true), false);
        due.is("9: was, still", x.lockout(1, 0, true), true);
        x.rounds(1);
        state(x, 1, 2, NONE);
        due.is("9: not chosen, so held", x.sends(1, 0), 12);
        x.lockout(1, 0, false);
        x.rounds(1);
        state(x, 1, 1, 0);
    }

    private static void failedLinks() {
        ClockTree x = pair();
        due.badArgument("10: link -1", () -> x.fail(-1, true));
        due.badArgument("10: link 1", () -> x.fail(1, true));
        due.badArgument("10: link 24", () -> x.fail(24, false));
        x.rounds(4);
        due.is("10: was whole", x.fail(0, true), false);
        due.is("10: was failed", x.fail(0, true), true);
        x.rounds(2);
        state(x, 1, 1, 0);
        x.rounds(1);
        state(x, 1, 2, NONE);
        due.is("10: it sends over a failed link, too", x.sends(0, 0), 1);
        due.is("10: was failed, still", x.fail(0, false), true);
        due.is("10: was whole again", x.fail(0, false), false);
        x.rounds(1);
        state(x, 1, 1, 0);
    }

    private static void failedLinkSendsOn() {
        ClockTree x = pair();
        x.fail(0, true);
        x.rounds(3);
        state(x, 1, 0, NONE);
        x.fail(0, false);
        x.rounds(1);
        state(x, 1, 1, 0);
        due.is("10: the offset of two rounds ago", x.state(1, 4), 40);
    }

    private static void failedElements() {
        ClockTree x = pair();
        for (int wrong : WRONG_ELEMENTS) {
            due.badArgument("11: e " + wrong, () -> x.failElement(wrong, true));
        }
        x.rounds(4);
        due.is("11: was whole", x.failElement(0, true), false);
        due.is("11: was failed", x.failElement(0, true), true);
        state(x, 0, 3, NONE);
        due.is("11: no hops", x.state(0, 2), NONE);
        due.is("11: no quality", x.state(0, 3), NONE);
        due.is("11: it has sent nothing", x.sends(0, 0), NONE);
        due.is("11: traced to none", x.traced(0), NONE);
        due.is("11: nor is who follows it", x.traced(1), NONE);
        due.is("11: its offset stays", x.state(0, 4), 40);
        x.rounds(2);
        due.is("11: still", x.state(0, 4), 40);
        due.is("11: its phase stays", x.phase(0), 160);
        due.is("11: it sends nothing", x.sends(0, 0), NONE);
        state(x, 1, 1, 0);
        due.is("11: that of the failed one", x.state(1, 4), 40);
        x.rounds(1);
        state(x, 1, 2, NONE);
        due.is("11: was failed, still", x.failElement(0, false), true);
        due.is("11: was whole again", x.failElement(0, false), false);
        state(x, 0, 0, NONE);
        due.is("11: whole again, it has sent nothing", x.sends(0, 0), NONE);
        x.rounds(1);
        state(x, 0, 1, 3);
        state(x, 1, 2, NONE);
        x.rounds(1);
        state(x, 1, 1, 0);
    }

    private static void wholeAgain() {
        ClockTree x = pair();
        x.restore(1, 2);
        x.source(1, 1, 6, 900);
        x.rounds(6);
        state(x, 1, 1, 0);
        x.failElement(1, false);
        state(x, 1, 1, 0);
        x.failElement(1, true);
        x.failElement(1, false);
        x.lose(0, false);
        x.rounds(1);
        state(x, 1, 1, 1);
        x.rounds(1);
        due.is("11: nothing is ready, the best", x.state(1, 1), 0);
        x.rounds(1);
        due.is("11: this one is ready first", x.state(1, 1), 1);
        x.rounds(1);
        due.is("11: then both", x.state(1, 1), 0);

        ClockTree y = pair();
        y.rounds(5);
        y.failElement(1, true);
        y.lockout(1, 0, true);
        y.rounds(2);
        y.failElement(1, false);
        y.rounds(1);
        state(y, 1, 0, NONE);
        due.is("11: never locked since it is whole again", y.state(1, 4), -50);
        due.is("11: commands stay", y.lockout(1, 0, false), true);
    }

    private static void lostWords() {
        ClockTree x = pair();
        due.badArgument("12: link -1", () -> x.lose(-1, false));
        due.badArgument("12: link 1", () -> x.lose(1, false));
        x.rounds(4);
        for (int i = 0; i < 2; i++) {
            x.lose(0, false);
            x.rounds(1);
            state(x, 1, 1, 0);
        }
        x.lose(0, false);
        x.lose(0, true);
        due.is("12: lost, but sent", x.sends(0, 0), 1);
        x.rounds(1);
        state(x, 1, 2, NONE);
        x.rounds(1);
        state(x, 1, 1, 0);
        lostInTheNextRoundAlone();
    }

    private static void lostInTheNextRoundAlone() {
        ClockTree x = pair();
        x.lose(0, false);
        x.rounds(2);
        state(x, 1, 1, 0);
        ClockTree y = pair();
        y.rounds(1);
        y.lose(0, true);
        y.rounds(1);
        state(y, 1, 1, 0);
        ClockTree z = pair();
        z.rounds(1);
        z.lose(0, false);
        z.rounds(1);
        state(z, 1, 0, NONE);
        z.rounds(1);
        state(z, 1, 1, 0);
    }

    private static void lostWordsOtherWay() {
        ClockTree x = new ClockTree();
        x.element(0, 0, 0, 0);
        x.element(1, 0, 0, 0);
        x.link(1, 2, 0, 1);
        x.source(0, 0, 3, 0);
        x.rounds(1);
        x.lose(0, true);
        x.rounds(1);
        state(x, 1, 0, NONE);
        x.lose(0, false);
        x.rounds(1);
        state(x, 1, 1, 2);
    }

    private static void numbersOfRounds() {
        ClockTree x = pair();
        due.badArgument("13: 0", () -> x.rounds(0));
        due.badArgument("13: -1", () -> x.rounds(-1));
        due.badArgument("13: 201", () -> x.rounds(201));
        due.badArgument("13: least", () -> x.rounds(Integer.MIN_VALUE));
        due.is("13: nothing went by", x.phase(0), 0);
        due.is("13: 200", x.rounds(200), 198);
        due.is("13: all went by", x.phase(0), 200 * 40);
        due.is("13: 1 more", x.rounds(1), 199);
    }

    private static void settledRounds() {
        ClockTree x = new ClockTree();
        due.is("14: nobody is there", x.rounds(3), 3);
        x.element(0, 0, 0, 0);
        x.element(1, 0, 0, 0);
        x.link(0, 0, 1, 0);
        due.is("14: a new one counts as free", x.rounds(1), 4);
        x.element(2, 0, 0, 0);
        x.failElement(2, true);
        due.is("14: calls alone change nothing", x.settled(), 4);
        due.is("14: another one in the first of two", x.rounds(2), 1);
        x.failElement(2, false);
        x.failElement(2, true);
        due.is("14: as it was", x.rounds(1), 2);
        x.failElement(2, false);
        due.is("14: whole again is another one", x.rounds(1), 0);
        x.source(0, 3, 1, 0);
        due.is("14: both lock, one after the other", x.rounds(3), 1);
        x.source(0, 3, 5, 9);
        due.is("14: qualities and offsets do not count", x.rounds(4), 5);
        x.source(0, 2, 1, 0);
        due.is("14: another port does", x.rounds(1), 0);
        x.command(0, 0, 1);
        x.rounds(10);
        due.is("14: another state of one, then of the next", x.settled(), 8);
        x.command(0, 0, 0);
        due.is("14: another port, not locked", x.rounds(1), 0);
        x.failElement(0, true);
        x.failElement(0, false);
        x.command(0, 0, NONE);
        x.rounds(5);
        x.failElement(0, true);
        x.failElement(0, false);
        due.is("14: compared from end to end", x.rounds(1), 4);
        due.is("14: settled() is the same", x.settled(), 4);
    }

    private static void states() {
        ClockTree x = pair();
        for (int wrong : WRONG_ELEMENTS) {
            due.badArgument("15: e " + wrong, () -> x.state(wrong, 0));
        }
        for (int wrong : new int[] {-1, 5, Integer.MIN_VALUE, Integer.MAX_VALUE}) {
            due.badArgument("15: what " + wrong, () -> x.state(0, wrong));
        }
        int[][] first = {{1, 3, 0, 1, 40}, {0, NONE, NONE, NONE, -50}};
        int[][] second = {{1, 3, 0, 1, 40}, {1, 0, 1, 1, 100}};
        int[][] third = {{1, 3, 0, 1, 40}, {1, 0, 1, 1, 40}};
        x.rounds(1);
        allStates(x, first);
        x.rounds(1);
        allStates(x, second);
        x.rounds(1);
        allStates(x, third);
        x.source(0, 3, NONE, 0);
        x.command(1, 0, 2);
        x.rounds(1);
        allStates(x, new int[][] {{2, NONE, NONE, NONE, 42}, {2, 2, NONE, NONE, 39}});
        x.rounds(1);
        allStates(x, new int[][] {{2, NONE, NONE, NONE, 44}, {2, 2, NONE, NONE, 38}});
        x.failElement(0, true);
        x.rounds(1);
        allStates(x, new int[][] {{3, NONE, NONE, NONE, 44}, {2, 2, NONE, NONE, 37}});
    }

    private static void allStates(ClockTree x, int[][] want) {
        for (int e = 0; e < want.length; e++) {
            for (int what = 0; what < 5; what++) {
                due.is("15: state(" + e + ", " + what + ")", x.state(e, what), want[e][what]);
            }
        }
    }

    private static void hopsAndQualities() {
        ClockTree x = new ClockTree();
        for (int e = 0; e < 16; e++) {
            x.element(e, 0, e, 0);
        }
        for (int e = 0; e < 15; e++) {
            x.link(e, 1, e + 1, 0);
        }
        x.source(0, 3, 6, -1);
        x.rounds(15);
        due.is("15: not there yet", x.state(15, 0), 0);
        x.rounds(1);
        due.is("15: a round for each link", x.state(15, 0), 1);
        due.is("15: hops", x.state(15, 2), 15);
        due.is("15: quality", x.state(15, 3), 6);
        due.is("18: over all links", x.traced(15), 3);
        due.is("19: a long way is no loop", x.loop(), false);
        due.is("20: over all links", x.best(15), 6);
        // Offsets go a link in two rounds: that of element 14, which had it from 13, and so on.
        due.is("15: the offset is two rounds behind", x.state(15, 4), 14);
        x.rounds(14);
        due.is("15: and comes at last", x.state(15, 4), 0);
        x.rounds(1);
        due.is("15: from the source", x.state(15, 4), -1);
    }

    private static void phases() {
        ClockTree x = pair();
        for (int wrong : WRONG_ELEMENTS) {
            due.badArgument("16: e " + wrong, () -> x.phase(wrong));
        }
        due.is("16: before", x.phase(1), 0);
        x.rounds(1);
        due.is("16: free", x.phase(1), -50);
        x.rounds(1);
        due.is("16: the oscillator's of the other one", x.phase(1), 50);
        x.rounds(2);
        due.is("16: locked", x.phase(1), 130);
        x.failElement(1, true);
        x.rounds(7);
        due.is("16: failed", x.phase(1), 130);
        x.failElement(1, false);
        due.is("16: whole again", x.phase(1), 130);
        x.rounds(1);
        due.is("16: goes on", x.phase(1), 170);
        x.lockout(1, 0, true);
        x.rounds(3);
        due.is("16: holdover", x.phase(1), 170 + 39 + 38 + 37);
    }

    private static void sentWords() {
        ClockTree x = pair();
        for (int wrong : WRONG_ELEMENTS) {
            due.badArgument("17: e " + wrong, () -> x.sends(wrong, 0));
        }
        for (int wrong : WRONG_PORTS) {
            due.badArgument("17: p " + wrong, () -> x.sends(0, wrong));
        }
        due.is("17: before", x.sends(0, 0), NONE);
        x.rounds(1);
        due.is("17: locked", x.sends(0, 0), 1);
        due.is("17: free", x.sends(1, 0), 12);
        due.is("17: no link", x.sends(0, 1), NONE);
        due.is("17: a source", x.sends(0, 3), NONE);
        x.link(0, 1, 1, 1);
        due.is("17: a new link", x.sends(0, 1), NONE);
        x.rounds(1);
        due.is("17: to the one that it chose", x.sends(1, 0), 7);
        due.is("17: to the other one", x.sends(1, 1), 1);
        due.is("17: over the new link", x.sends(0, 1), 1);
        x.source(0, 3, NONE, 0);
        due.is("17: of the latest round", x.sends(0, 0), 1);
        x.rounds(1);
        due.is("17: holdover", x.sends(0, 0), 11);
    }

    private static void tracedSources() {
        ClockTree x = pair();
        for (int wrong : WRONG_ELEMENTS) {
            due.badArgument("18: e " + wrong, () -> x.traced(wrong));
        }
        due.is("18: before", x.traced(0), NONE);
        x.rounds(2);
        due.is("18: its own", x.traced(0), 3);
        due.is("18: by a link", x.traced(1), 3);
        x.fail(0, true);
        due.is("18: by a link that has failed since", x.traced(1), 3);
        x.source(0, 3, NONE, 0);
        due.is("18: gone since", x.traced(1), 3);
        x.rounds(1);
        due.is("18: not locked any more", x.traced(0), NONE);
        due.is("18: nor is what is behind it", x.traced(1), NONE);
        due.is("18: though it is locked", x.state(1, 0), 1);
        x.source(1, 2, 0, 0);
        x.rounds(1);
        due.is("18: another source", x.traced(1), 6);
    }

    private static void loops() {
        ClockTree x = new ClockTree();
        for (int e = 0; e < 4; e++) {
            x.element(e, e, 0, 0);
        }
        x.link(0, 0, 1, 0);
        x.link(0, 1, 1, 1);
        x.link(2, 0, 0, 2);
        x.source(0, 3, 1, 0);
        x.source(1, 3, 1, 0);
        due.is("19: before", x.loop(), false);
        x.rounds(2);
        due.is("19: two sources", x.loop(), false);
        x.tracing(false);
        x.command(0, 0, 0);
        x.command(1, 0, 1);
        x.rounds(1);
        state(x, 0, 1, 0);
        state(x, 1, 1, 1);
        due.is("19: each takes it from the other", x.loop(), true);
        due.is("19: from outside it", x.traced(2), NONE);
        x.failElement(1, true);
        due.is("19: not by a failed one", x.loop(), false);
    }

    private static void bestQualities() {
        ClockTree x = pair();
        x.element(2, 0, 0, 0);
        x.element(3, 0, 0, 0);
        x.link(1, 1, 2, 0);
        for (int wrong : new int[] {-1, 16, 4, Integer.MAX_VALUE}) {
            due.badArgument("20: e " + wrong, () -> x.best(wrong));
        }
        due.is("20: its own", x.best(0), 1);
        due.is("20: over two links", x.best(2), 1);
        due.is("20: no link", x.best(3), 7);
        x.source(2, 3, 0, 0);
        due.is("20: the best", x.best(0), 0);
        x.source(2, 3, 6, 0);
        due.is("20: not its own, but a better one", x.best(2), 1);
        x.fail(0, true);
        due.is("20: not over a failed link", x.best(1), 6);
        x.failElement(2, true);
        due.is("20: nor from a failed element", x.best(1), 7);
        due.is("20: nor for one", x.best(2), 7);
        x.fail(0, false);
        x.failElement(2, false);
        x.failElement(1, true);
        due.is("20: nor over one", x.best(2), 6);
        x.lockout(2, 3, true);
        due.is("20: a source that is locked out is one", x.best(2), 6);
    }

    /** A ring of three, in which element 2 may not take its time from element 0. */
    private static ClockTree lame() {
        ClockTree x = new ClockTree();
        for (int e = 0; e < 3; e++) {
            x.element(e, 0, 0, 0);
        }
        x.link(0, 0, 1, 0);
        x.link(1, 1, 2, 0);
        x.link(2, 1, 0, 1);
        x.source(0, 3, 1, 0);
        x.lockout(2, 1, true);
        return x;
    }

    private static void checks() {
        ClockTree x = lame();
        int[][] want = {{0, 1}, {0, 2}, {1, 2}, {101, 2}};
        due.is("21: before all rounds", x.check(), 4);
        x.rounds(10);
        due.badArgument("22: k -1", () -> x.finding(-1, 0));
        due.is("21: check", x.check(), 4);
        for (int k = 0; k < 4; k++) {
            due.is("22: finding(" + k + ", 0)", x.finding(k, 0), want[k][0]);
            due.is("22: finding(" + k + ", 1)", x.finding(k, 1), want[k][1]);
        }
        due.badArgument("22: k 4", () -> x.finding(4, 0));
        due.badArgument("22: what 2", () -> x.finding(0, 2));
        due.badArgument("22: what -1", () -> x.finding(0, -1));
        x.fail(0, true);
        due.is("22: of the latest check", x.finding(3, 0), 101);
        // Element 1 would be cut off by link 1; by link 2 both would be, so that neither starves.
        due.is("21: a failed link does not fail again", x.check(), 2);
        due.is("22: by link 1", x.finding(0, 0), 1);
        due.is("22: element 2", x.finding(0, 1), 2);
        due.is("22: by element 1", x.finding(1, 0), 101);
        x.fail(0, false);
        x.failElement(1, true);
        // Element 2 has its way to element 0 alone, over link 2, which it may not use.
        due.is("21: a failed element does not fail again", x.check(), 2);
        due.is("22: by link 0", x.finding(0, 0), 0);
        due.is("22: by link 1", x.finding(1, 0), 1);
        due.is("22: element 2", x.finding(1, 1), 2);
        x.lockout(2, 1, false);
        due.is("21: nothing starves", x.check(), 0);
        due.badArgument("22: none of the one before", () -> x.finding(0, 0));
    }

    private static void checkOfTwoLinks() {
        ClockTree x = pair();
        due.is("21: without the link there is no source", x.check(), 0);
        due.badArgument("22: none", () -> x.finding(0, 0));
        due.is("21: second link", x.link(0, 1, 1, 1), 1);
        x.lockout(1, 1, true);
        x.restore(1, 10);
        due.is("21: the other one is locked out", x.check(), 1);
        due.is("22: link", x.finding(0, 0), 0);
        due.is("22: element", x.finding(0, 1), 1);
    }

    private static void checkChangesNothing() {
        ClockTree x = lame();
        ClockTree y = lame();
        x.restore(2, 2);
        y.restore(2, 2);
        for (int i = 0; i < 12; i++) {
            if (i == 4) {
                x.lose(0, false);
                y.lose(0, false);
                x.failElement(1, true);
                y.failElement(1, true);
            }
            x.check();
            due.is("21: settled", x.settled(), y.settled());
            due.is("21: rounds", x.rounds(1), y.rounds(1));
            for (int e = 0; e < 3; e++) {
                for (int what = 0; what < 5; what++) {
                    due.is("21: state", x.state(e, what), y.state(e, what));
                }
                due.is("21: phase", x.phase(e), y.phase(e));
                due.is("21: sends", x.sends(e, 0), y.sends(e, 0));
            }
        }
    }

    /**
     * Elements 0 to 4 in a ring, round which one good word runs for ever, a link each round: behind
     * round r only element (r - 1) % 5 is locked. Two rounds have gone by. Nobody may take the time
     * of element 5, so that all others are starved when link 0, between 6 and 7, fails.
     */
    private static ClockTree runningWord() {
        ClockTree x = new ClockTree();
        for (int e = 0; e < 8; e++) {
            x.element(e, 0, 0, 0);
        }
        x.link(6, 0, 7, 0);
        for (int e = 0; e < 5; e++) {
            x.link(e, 0, (e + 1) % 5, 1);
            x.lockout(e, 0, true);
        }
        x.link(5, 0, 0, 2);
        x.lockout(0, 2, true);
        x.source(5, 3, 4, 0);
        x.tracing(false);
        x.source(0, 3, 1, 0);
        x.rounds(1);
        x.source(0, 3, NONE, 0);
        x.rounds(1);
        return x;
    }

    /** By link 0 all of the ring are starved but for one element (or NONE). */
    private static void starvedByFirstLink(ClockTree x, int but) {
        x.check();
        int k = 0;
        for (int e = 0; e < 5; e++) {
            if (e != but) {
                due.is("21: by the first link, but for " + but, x.finding(k, 0), 0);
                due.is("21: in the ring, but for " + but, x.finding(k, 1), e);
                k++;
            }
        }
        due.is("21: by the next link", x.finding(k, 0), 1);
    }

    private static void checkPassesItsRounds() {
        ClockTree x = runningWord();
        state(x, 0, 2, NONE);
        state(x, 1, 1, 1);
        starvedByFirstLink(x, (2 + 96 - 1) % 5);
        x.rounds(1);
        starvedByFirstLink(x, (3 + 96 - 1) % 5);
    }

    private static void checkPassesLongestRestore() {
        ClockTree x = runningWord();
        x.restore(6, 1);
        x.restore(7, 3);
        starvedByFirstLink(x, (2 + 4 * 27 - 1) % 5);
        x.restore(6, 10);
        starvedByFirstLink(x, (2 + 4 * 34 - 1) % 5);
    }

    private static void checkLosesWords() {
        ClockTree x = runningWord();
        x.lose(2, true);
        starvedByFirstLink(x, (2 + 96 - 1) % 5);
        x.lose(2, false);
        starvedByFirstLink(x, NONE);
        x.rounds(1);
        starvedByFirstLink(x, NONE);
    }

    /** The word that element 1 has lasts, since the next one is lost: now two are locked at once. */
    private static void checkKeepsWords() {
        ClockTree x = runningWord();
        x.lose(1, false);
        x.check();
        int[] starved = {0, 3, 4};
        for (int k = 0; k < 3; k++) {
            due.is("21: by the first link", x.finding(k, 0), 0);
            due.is("21: not 1 nor 2", x.finding(k, 1), starved[k]);
        }
        due.is("21: by the next link", x.finding(3, 0), 1);
    }

    private static void checkObeysNewCommands() {
        ClockTree x = pair();
        x.element(2, 0, 0, 0);
        x.element(3, 0, 0, 0);
        x.link(1, 1, 2, 0);
        x.rounds(50);
        due.is("21: all is well", x.check(), 0);
        x.command(1, 0, 3);
        due.is("21: three failures, which do nothing to it", x.check(), 4);
        int[][] want = {{1, 1}, {102, 1}, {103, 1}, {103, 2}};
        for (int k = 0; k < 4; k++) {
            due.is("21: by what, after a command", x.finding(k, 0), want[k][0]);
            due.is("21: who, after a command", x.finding(k, 1), want[k][1]);
        }
    }

    private static void findingsAtMost() {
        ClockTree x = new ClockTree();
        for (int e = 0; e < 16; e++) {
            x.element(e, 0, 0, 0);
            x.command(e, 0, 3);
        }
        for (int e = 0; e < 16; e++) {
            x.link(e, 0, (e + 1) % 16, 1);
        }
        x.source(0, 3, 1, 0);
        x.lockout(0, 3, true);
        due.is("21: 100 at most", x.check(), 100);
        due.is("22: the last one", x.finding(99, 0), 6);
        due.is("22: its element", x.finding(99, 1), 3);
        due.badArgument("22: none behind it", () -> x.finding(100, 0));
    }
}
