/**
 * The sentences of 'Terms' that name a boundary, one after the other, each with a test of its own.
 * The values that are just outside are refused in RefusalTest.
 */
public final class TermsTest {
    private static final int NONE = ClockTree.NONE;
    private static final int FREE = 0;
    private static final int LOCKED = 1;
    private static final int HOLDOVER = 2;
    private static final int FAILED = 3;

    private static final Due due = new Due();

    public static void main(String[] args) {
        oscillatorQualities();
        oscillatorOffsets();
        oscillatorSlopes();
        portsOfEach();
        sourceQualities();
        sourceOffsets();
        heldWordsAreNoUse();
        dontUseIsNoUse();
        wordsGoOneLinkARound(false);
        wordsGoOneLinkARound(true);
        newLinkBringsNothingYet();
        failedLinkBringsNothing();
        failedSenderBringsNothing();
        failedElementHearsNothing();
        wordsLastTwoRoundsMore();
        wordsLastBehindFailures();
        newWordEndsTheCount();
        latestWordCounts();
        lockedOutPorts();
        traceOfTwo();
        traceOfAll();
        tracingLooksAtWordsThatAreHad();
        readyAfterRestoreTime();
        readyOneAfterTheOther();
        readyGoesBeforeBetter();
        readyOfWordsThatLast();
        longUsableIsReady();
        forcedPorts();
        manualPorts();
        choiceByQuality();
        choiceByHops();
        choiceByPriority();
        choiceOfTheLowest();
        freeHoldoverFree();
        sentToEachPort();
        sentByOneThatIsNotLocked();
        sentByOneThatIsForced();
        offsetsOfSources();
        offsetsOverALink();
        offsetsOfALaterElement();
        offsetsInHoldover();
        offsetsOfFailedOnes();
        phasesOfWholeRounds();
        phaseBeyondAnInt();
        followingEndsAtWhatIsNotLocked();
        followingAfterChanges();
        followingAllElements();
        loopOfTwo();
        loopWithATail();
        loopOfAll();
        hopsHaveNoEnd();
        due.end();
    }

    private static void state(String what, ClockTree x, int e, int condition, int port) {
        due.is(what + ": state(" + e + ", 0)", x.state(e, 0), condition);
        due.is(what + ": state(" + e + ", 1)", x.state(e, 1), port);
    }

    /** n elements of quality 0, offset 0 and slope 0. */
    private static ClockTree elements(int n) {
        ClockTree x = new ClockTree();
        for (int e = 0; e < n; e++) {
            x.element(e, 0, 0, 0);
        }
        return x;
    }

    /** Element 0 with a source (1, 40) at port 3, and element 1, by link 0 between ports 0. */
    private static ClockTree pair() {
        ClockTree x = new ClockTree();
        x.element(0, 3, 100, 2);
        x.element(1, 4, -50, -1);
        x.link(0, 0, 1, 0);
        x.source(0, 3, 1, 40);
        return x;
    }

    private static ClockTree settledPair() {
        ClockTree x = pair();
        x.rounds(5);
        state("a pair", x, 0, LOCKED, 3);
        state("a pair", x, 1, LOCKED, 0);
        return x;
    }

    /** n in a ring, each of which may take its time from the one before it alone, at port 1. */
    private static ClockTree ring(int n) {
        ClockTree x = elements(n);
        for (int e = 0; e < n; e++) {
            x.link(e, 0, (e + 1) % n, 1);
            x.lockout(e, 0, true);
        }
        return x;
    }

    // ELEMENTS are 0 .. 15; an OSCILLATOR has a quality (0 the best .. 6), an offset, a slope.

    private static void oscillatorQualities() {
        for (int quality = 0; quality <= 6; quality++) {
            ClockTree x = new ClockTree();
            x.element(0, quality, 0, 0);
            x.element(15, 0, 0, 0);
            x.link(0, 3, 15, 0);
            x.rounds(1);
            due.is("held, of quality " + quality, x.sends(0, 3), 8 + quality);
        }
    }

    private static void oscillatorOffsets() {
        for (int offset : new int[] {-1000, -999, 0, 999, 1000}) {
            ClockTree x = new ClockTree();
            x.element(15, 0, offset, 9);
            due.is("offset of a new one", x.state(15, 4), offset);
            x.rounds(200);
            due.is("offset of a free one", x.state(15, 4), offset);
            due.is("phase of a free one", x.phase(15), 200L * offset);
        }
    }

    private static void oscillatorSlopes() {
        for (int slope = -9; slope <= 9; slope++) {
            ClockTree x = new ClockTree();
            x.element(7, 0, 0, slope);
            x.source(7, 0, 0, 10);
            x.rounds(1);
            x.source(7, 0, NONE, 0);
            x.rounds(3);
            due.is("three rounds of slope " + slope, x.state(7, 4), 10 + 3 * slope);
        }
    }

    // PORTS are 0 .. 3 of each; a port has a LINK, a SOURCE (0 .. 6, an offset), or nothing.

    private static void portsOfEach() {
        for (int p = 0; p < 4; p++) {
            for (int q = 0; q < 4; q++) {
                ClockTree x = elements(16);
                x.source(0, (p + 1) % 4, 2, 5);
                x.link(0, p, 15, q);
                x.rounds(3);
                state("port " + p, x, 0, LOCKED, (p + 1) % 4);
                state("port " + q, x, 15, LOCKED, q);
                due.is("traced to port", x.traced(15), (p + 1) % 4);
            }
        }
    }

    private static void sourceQualities() {
        for (int quality = 0; quality <= 6; quality++) {
            ClockTree x = elements(2);
            x.link(0, 0, 1, 0);
            x.source(0, 3, quality, 0);
            due.is("best", x.best(1), quality);
            x.rounds(2);
            due.is("quality of its choice", x.state(0, 3), quality);
            state("a source of quality " + quality, x, 0, LOCKED, 3);
            state("a word of quality " + quality, x, 1, LOCKED, 0);
            due.is("quality of the word", x.state(1, 3), quality);
            due.is("sent", x.sends(0, 0), quality);
        }
    }

    private static void sourceOffsets() {
        for (int offset : new int[] {-1000, -999, 0, 999, 1000}) {
            ClockTree x = elements(1);
            x.source(0, 3, 6, offset);
            x.rounds(2);
            due.is("offset of a source", x.state(0, 4), offset);
            due.is("phase by a source", x.phase(0), 2L * offset);
        }
    }

    // Qualities: 0 .. 6; 7 DON'T USE; 8 .. 14 HELD. Usable is a word of a quality below 7.

    private static void heldWordsAreNoUse() {
        for (int quality = 0; quality <= 6; quality++) {
            ClockTree x = new ClockTree();
            x.element(0, quality, 0, 0);
            x.element(1, 6, 0, 0);
            x.link(0, 0, 1, 0);
            x.command(1, 1, 0);
            x.rounds(5);
            state("a held word", x, 1, FREE, NONE);
            x.command(1, 0, 0);
            x.rounds(1);
            state("a held word, forced", x, 1, FREE, 0);
            due.is("a held word has no quality", x.state(1, 3), NONE);
            due.is("a held word has no hops", x.state(1, 2), NONE);
        }
    }

    private static void dontUseIsNoUse() {
        ClockTree x = settledPair();
        due.is("don't use", x.sends(1, 0), 7);
        x.command(0, 0, 0);
        x.rounds(1);
        state("don't use, forced", x, 0, HOLDOVER, 0);
        due.is("don't use, both ways", x.sends(0, 0), 7);
        x.rounds(1);
        state("nor is it for the other one", x, 1, HOLDOVER, NONE);
    }

    // Each port with a whole link whose other element is whole, too, gets the word that this one
    // sent there in the round before (if any), but if that word is LOST.

    private static void wordsGoOneLinkARound(boolean falling) {
        ClockTree x = elements(16);
        for (int i = 0; i < 15; i++) {
            int near = falling ? 15 - i : i;
            int far = falling ? 14 - i : i + 1;
            x.link(near, 1, far, 0);
        }
        x.source(falling ? 15 : 0, 3, 0, 0);
        for (int i = 0; i < 16; i++) {
            x.rounds(1);
            for (int j = 0; j < 16; j++) {
                int e = falling ? 15 - j : j;
                due.is("round " + (i + 1) + ", " + j + " links away", x.state(e, 0), j <= i ? 1 : 0);
            }
        }
    }

    private static void newLinkBringsNothingYet() {
        ClockTree x = elements(2);
        x.source(0, 3, 1, 0);
        x.rounds(10);
        x.link(0, 0, 1, 0);
        due.is("nothing was sent there", x.sends(0, 0), NONE);
        x.rounds(1);
        state("a new link", x, 1, FREE, NONE);
        due.is("now it was", x.sends(0, 0), 1);
        x.rounds(1);
        state("a link of the round before", x, 1, LOCKED, 0);
    }

    private static void failedLinkBringsNothing() {
        ClockTree x = pair();
        x.fail(0, true);
        x.rounds(20);
        state("a failed link", x, 1, FREE, NONE);
        due.is("sent over a failed link", x.sends(0, 0), 1);
        x.fail(0, false);
        x.rounds(1);
        state("a link that is whole again", x, 1, LOCKED, 0);
    }

    private static void failedSenderBringsNothing() {
        ClockTree x = pair();
        x.rounds(1);
        x.failElement(0, true);
        x.rounds(1);
        state("a word of one that has failed since", x, 1, FREE, NONE);
        x.failElement(0, false);
        x.rounds(1);
        state("one that is whole again has sent nothing", x, 1, FREE, NONE);
        x.rounds(1);
        state("but then it has", x, 1, LOCKED, 0);
    }

    private static void failedElementHearsNothing() {
        ClockTree x = pair();
        x.failElement(1, true);
        x.rounds(3);
        x.failElement(0, true);
        x.failElement(1, false);
        x.rounds(1);
        state("it got no word while it was failed", x, 1, FREE, NONE);
        due.is("a word to a failed one is sent", pairWithFailedEnd().sends(0, 0), 1);
    }

    private static ClockTree pairWithFailedEnd() {
        ClockTree x = pair();
        x.failElement(1, true);
        x.rounds(1);
        return x;
    }

    // A port HAS the latest word that it got, if that was in this round or one of the two before.

    private static void wordsLastTwoRoundsMore() {
        ClockTree x = settledPair();
        for (int i = 1; i <= 4; i++) {
            x.lose(0, false);
            x.rounds(1);
            state(i + " words lost", x, 1, i <= 2 ? LOCKED : HOLDOVER, i <= 2 ? 0 : NONE);
        }
        x.rounds(1);
        state("a word comes again", x, 1, LOCKED, 0);
    }

    private static void wordsLastBehindFailures() {
        ClockTree x = settledPair();
        x.fail(0, true);
        x.rounds(2);
        state("two rounds of a failed link", x, 1, LOCKED, 0);
        x.rounds(1);
        state("three rounds of a failed link", x, 1, HOLDOVER, NONE);

        ClockTree y = settledPair();
        y.failElement(0, true);
        y.rounds(2);
        state("two rounds of a failed element", y, 1, LOCKED, 0);
        y.rounds(1);
        state("three rounds of a failed element", y, 1, HOLDOVER, NONE);

        ClockTree z = settledPair();
        z.lose(0, false);
        z.rounds(1);
        z.fail(0, true);
        z.rounds(1);
        state("a lost word, then a failed link", z, 1, LOCKED, 0);
        z.fail(0, false);
        z.failElement(0, true);
        z.rounds(1);
        state("and then a failed element", z, 1, HOLDOVER, NONE);
    }

    private static void newWordEndsTheCount() {
        ClockTree x = settledPair();
        for (int i = 0; i < 12; i++) {
            if (i % 3 != 2) {
                x.lose(0, false);
            }
            x.rounds(1);
            state("every third word comes", x, 1, LOCKED, 0);
        }
    }

    private static void latestWordCounts() {
        ClockTree x = settledPair();
        x.source(0, 3, NONE, 0);
        x.rounds(1);
        state("its word of the round before was good", x, 1, LOCKED, 0);
        x.rounds(1);
        state("a held word takes the place of a good one", x, 1, HOLDOVER, NONE);

        ClockTree y = settledPair();
        y.source(0, 3, 5, 0);
        y.rounds(1);
        due.is("the word before", y.state(1, 3), 1);
        y.rounds(1);
        due.is("a worse word takes the place of a better one", y.state(1, 3), 5);
    }

    // A port is USABLE if it is not locked out, and it has a source, or has a word of a quality
    // below 7, in the trace of which (if TRACING is on) the element is not.

    private static void lockedOutPorts() {
        ClockTree x = settledPair();
        x.lockout(0, 3, true);
        x.rounds(1);
        state("a locked out source", x, 0, HOLDOVER, NONE);
        x.lockout(0, 3, false);
        x.rounds(4);
        x.lockout(1, 0, true);
        x.rounds(1);
        state("a locked out link", x, 1, HOLDOVER, NONE);
        x.command(1, 1, 0);
        x.rounds(1);
        state("a locked out manual port", x, 1, HOLDOVER, NONE);
        x.command(1, 0, 0);
        x.rounds(1);
        state("a locked out forced port", x, 1, HOLDOVER, 0);
    }

    private static void traceOfTwo() {
        for (int on = 0; on < 2; on++) {
            ClockTree x = ring(2);
            x.tracing(on == 1);
            x.source(0, 3, 1, 0);
            x.rounds(4);
            x.source(0, 3, NONE, 0);
            x.rounds(1);
            state("its own word over one other", x, 0, on == 1 ? HOLDOVER : LOCKED,
                    on == 1 ? NONE : 1);
        }
    }

    /** The word that comes back has gone through all 16, whichever had the source. */
    private static void traceOfAll() {
        for (int e = 0; e < 16; e++) {
            for (int on = 0; on < 2; on++) {
                ClockTree x = ring(16);
                x.tracing(on == 1);
                x.source(e, 3, 1, 0);
                x.rounds(20);
                due.is("hops of the last one", x.state((e + 15) % 16, 2), 15);
                x.source(e, 3, NONE, 0);
                x.rounds(1);
                state("its own word over all others", x, e, on == 1 ? HOLDOVER : LOCKED,
                        on == 1 ? NONE : 1);
            }
        }
    }

    private static void tracingLooksAtWordsThatAreHad() {
        ClockTree x = ring(3);
        x.source(0, 3, 1, 0);
        x.rounds(6);
        x.command(0, 0, 1);
        x.rounds(1);
        state("tracing on", x, 0, HOLDOVER, 1);
        x.command(0, 0, NONE);
        x.rounds(3);
        x.command(0, 0, 1);
        x.tracing(false);
        x.rounds(1);
        state("tracing off: the trace is there, but is not looked at", x, 0, LOCKED, 1);
        x.tracing(true);
        x.rounds(1);
        state("tracing on again: words that went round without it have traces", x, 0, HOLDOVER, 1);
    }

    // It is READY if it was usable in this round and as many before, one after the other, as the
    // element's RESTORE time says.

    private static void readyAfterRestoreTime() {
        for (int restore = 0; restore <= 10; restore++) {
            ClockTree x = elements(1);
            x.source(0, 3, 6, 0);
            x.rounds(11);
            x.restore(0, restore);
            x.source(0, 0, 0, 0);
            for (int i = 0; i < 12; i++) {
                x.rounds(1);
                due.is("restore time " + restore + ", usable in " + i + " rounds before",
                        x.state(0, 1), i < restore ? 3 : 0);
            }
        }
    }

    private static void readyOneAfterTheOther() {
        ClockTree x = elements(1);
        x.source(0, 3, 6, 0);
        x.restore(0, 4);
        x.rounds(5);
        x.source(0, 0, 0, 0);
        x.rounds(4);
        due.is("four rounds, one too few", x.state(0, 1), 3);
        x.source(0, 0, NONE, 0);
        x.rounds(1);
        x.source(0, 0, 0, 0);
        x.rounds(4);
        due.is("four rounds anew", x.state(0, 1), 3);
        x.source(0, 0, NONE, 0);
        x.source(0, 0, 1, 0);
        x.rounds(1);
        due.is("gone and there again within no round", x.state(0, 1), 0);
    }

    private static void readyGoesBeforeBetter() {
        ClockTree x = elements(1);
        x.restore(0, 2);
        x.source(0, 1, 5, 0);
        x.rounds(1);
        due.is("none is ready: the best usable one", x.state(0, 1), 1);
        x.source(0, 2, 4, 0);
        x.rounds(1);
        due.is("still none: another one is the best", x.state(0, 1), 2);
        x.rounds(1);
        due.is("one is ready, though worse", x.state(0, 1), 1);
        x.rounds(1);
        due.is("both are", x.state(0, 1), 2);
    }

    /** A word that a port still has makes it usable, so lost words do not end its row. */
    private static void readyOfWordsThatLast() {
        ClockTree x = pair();
        x.source(1, 3, 6, 0);
        x.restore(1, 3);
        x.rounds(2);
        due.is("both usable, none ready", x.state(1, 1), 0);
        x.lose(0, false);
        x.rounds(1);
        x.lose(0, false);
        x.rounds(1);
        due.is("the source is ready first", x.state(1, 1), 3);
        x.rounds(1);
        due.is("the link, with two words lost", x.state(1, 1), 0);
        x.fail(0, true);
        x.rounds(3);
        due.is("three words missing", x.state(1, 1), 3);
        x.fail(0, false);
        x.rounds(3);
        due.is("three rounds anew", x.state(1, 1), 3);
        x.rounds(1);
        due.is("a fourth one", x.state(1, 1), 0);
    }

    private static void longUsableIsReady() {
        ClockTree x = elements(1);
        x.source(0, 0, 0, 0);
        x.source(0, 3, 6, 0);
        x.rounds(200);
        x.restore(0, 10);
        x.rounds(1);
        due.is("usable for 201 rounds", x.state(0, 1), 0);
        x.lockout(0, 0, true);
        x.rounds(1);
        x.lockout(0, 0, false);
        x.rounds(10);
        due.is("ten rounds since", x.state(0, 1), 3);
        x.rounds(1);
        due.is("eleven rounds since", x.state(0, 1), 0);
    }

    // CHOICE: the FORCED port, if there is one; else the MANUAL one, if it is usable; else the best.

    private static void forcedPorts() {
        for (int p = 0; p < 4; p++) {
            ClockTree x = elements(2);
            x.source(0, 1, 0, 0);
            x.source(0, 2, 6, 0);
            x.link(0, 3, 1, 0);
            x.command(0, 1, 1);
            x.command(0, 0, p);
            x.rounds(2);
            boolean usable = p == 1 || p == 2;
            state("forced to port " + p, x, 0, usable ? LOCKED : FREE, p);
            due.is("its quality", x.state(0, 3), p == 1 ? 0 : p == 2 ? 6 : NONE);
        }
    }

    private static void manualPorts() {
        for (int p = 0; p < 4; p++) {
            ClockTree x = elements(2);
            x.source(0, 1, 0, 0);
            x.source(0, 2, 6, 0);
            x.link(0, 3, 1, 0);
            x.restore(0, 10);
            x.command(0, 1, p);
            x.rounds(2);
            state("manual port " + p, x, 0, LOCKED, p == 2 ? 2 : 1);
        }
    }

    // That of the best quality, of these of the fewest hops, then of the least priority, then the
    // lowest: each time all that is named later speaks for the other port.

    /** Element 1 with a word of one hop at port 0 and one of two hops (by element 2) at port 3. */
    private static ClockTree nearAndFar(int near, int far) {
        ClockTree x = elements(4);
        x.source(0, 3, near, 0);
        x.link(0, 0, 1, 0);
        x.source(3, 3, far, 0);
        x.link(3, 0, 2, 0);
        x.link(2, 1, 1, 3);
        return x;
    }

    private static void choiceByQuality() {
        ClockTree x = nearAndFar(2, 1);
        x.priority(1, 3, 9);
        x.rounds(5);
        state("the better quality, though of more hops", x, 1, LOCKED, 3);
        due.is("its hops", x.state(1, 2), 2);
        due.is("its quality", x.state(1, 3), 1);
    }

    private static void choiceByHops() {
        ClockTree x = nearAndFar(1, 1);
        x.priority(1, 0, 9);
        x.rounds(5);
        state("the fewer hops, though of a higher priority", x, 1, LOCKED, 0);
        due.is("its hops", x.state(1, 2), 1);
        x.source(1, 2, 1, 0);
        x.priority(1, 2, 9);
        x.priority(1, 0, 0);
        x.rounds(1);
        state("a source has no hops", x, 1, LOCKED, 2);
        due.is("no hops", x.state(1, 2), 0);
    }

    private static void choiceByPriority() {
        ClockTree x = elements(1);
        for (int p = 0; p < 4; p++) {
            x.source(0, p, 3, 0);
            x.priority(0, p, 9 - p);
        }
        x.rounds(1);
        due.is("the least priority, though the highest", x.state(0, 1), 3);
        x.priority(0, 2, 0);
        x.rounds(1);
        due.is("priority 0 is less than 6", x.state(0, 1), 2);
    }

    private static void choiceOfTheLowest() {
        ClockTree x = elements(1);
        for (int p = 3; p >= 0; p--) {
            x.source(0, p, 3, 0);
            x.priority(0, p, 9);
            x.rounds(1);
            due.is("the lowest of those with a source", x.state(0, 1), p);
        }
    }

    // LOCKED if what it chose is usable; otherwise in HOLDOVER, if it ever was locked (since it is
    // there, or whole again), or FREE.

    private static void freeHoldoverFree() {
        ClockTree x = elements(1);
        x.rounds(200);
        state("never locked", x, 0, FREE, NONE);
        x.source(0, 0, 6, 0);
        state("no round yet", x, 0, FREE, NONE);
        x.rounds(1);
        state("locked", x, 0, LOCKED, 0);
        x.source(0, 0, NONE, 0);
        state("no round yet", x, 0, LOCKED, 0);
        x.rounds(200);
        state("locked once, long ago", x, 0, HOLDOVER, NONE);
        x.failElement(0, true);
        state("failed", x, 0, FAILED, NONE);
        x.failElement(0, false);
        state("whole again", x, 0, FREE, NONE);
        x.rounds(1);
        state("never locked since", x, 0, FREE, NONE);
    }

    // It SENDS a word to each port that has a link.

    private static void sentToEachPort() {
        ClockTree x = elements(5);
        for (int p = 0; p < 3; p++) {
            x.link(0, p, p + 1, 0);
        }
        x.source(1, 3, 4, 0);
        for (int p = 0; p < 4; p++) {
            due.is("before the first round", x.sends(0, p), NONE);
        }
        x.rounds(2);
        due.is("to the one that it chose", x.sends(0, 0), 7);
        due.is("to another one", x.sends(0, 1), 4);
        due.is("to the next one", x.sends(0, 2), 4);
        due.is("to a port with nothing", x.sends(0, 3), NONE);
        due.is("to a port with a source", x.sends(1, 3), NONE);
        x.link(0, 3, 4, 0);
        x.rounds(1);
        due.is("to the fourth one", x.sends(0, 3), 4);
        due.is("by one with no link but its choice", x.sends(4, 0), 8);
        x.rounds(1);
        due.is("that it chose now", x.sends(4, 0), 7);
    }

    private static void sentByOneThatIsNotLocked() {
        ClockTree x = new ClockTree();
        x.element(0, 6, 0, 0);
        x.element(1, 0, 0, 0);
        x.link(0, 0, 1, 0);
        x.rounds(1);
        due.is("free, quality 6", x.sends(0, 0), 14);
        due.is("free, quality 0", x.sends(1, 0), 8);
        x.source(0, 3, 0, 0);
        x.rounds(1);
        due.is("locked", x.sends(0, 0), 0);
        x.source(0, 3, NONE, 0);
        x.rounds(1);
        due.is("holdover, quality 6", x.sends(0, 0), 14);
    }

    private static void sentByOneThatIsForced() {
        ClockTree x = new ClockTree();
        x.element(0, 6, 0, 0);
        x.element(1, 0, 0, 0);
        x.element(2, 0, 0, 0);
        x.link(0, 0, 1, 0);
        x.link(0, 1, 2, 0);
        x.command(0, 0, 1);
        x.rounds(1);
        due.is("to the forced one, though it is of no use", x.sends(0, 1), 7);
        due.is("to the other one", x.sends(0, 0), 14);
        x.command(0, 0, 3);
        x.rounds(1);
        due.is("forced to a port with nothing", x.sends(0, 1), 14);
        due.is("to which nothing is sent", x.sends(0, 3), NONE);
    }

    // OFFSETS: locked by a source: that of the source; by a link: that which the other element had
    // at the end of the round before the last one (before the first round, that of its oscillator).

    private static void offsetsOfSources() {
        ClockTree x = elements(1);
        x.source(0, 0, 0, 1000);
        due.is("not before a round", x.state(0, 4), 0);
        x.rounds(1);
        due.is("of the source", x.state(0, 4), 1000);
        x.source(0, 0, 0, -1000);
        x.rounds(1);
        due.is("of another one at once", x.state(0, 4), -1000);
    }

    private static void offsetsOverALink() {
        ClockTree x = pair();
        int[] want = {-50, 100, 40, 40};
        for (int i = 0; i < 4; i++) {
            x.rounds(1);
            due.is("round " + (i + 1), x.state(1, 4), want[i]);
        }
        x.source(0, 3, 1, 900);
        x.rounds(1);
        due.is("the source has another offset", x.state(0, 4), 900);
        due.is("not in this round", x.state(1, 4), 40);
        x.rounds(1);
        due.is("nor in the next", x.state(1, 4), 40);
        x.rounds(1);
        due.is("but in the one after it", x.state(1, 4), 900);
    }

    /** An element that comes late had no offset but its oscillator's when others had theirs. */
    private static void offsetsOfALaterElement() {
        ClockTree x = elements(1);
        x.rounds(30);
        x.element(1, 0, 77, 5);
        x.source(1, 3, 0, -9);
        x.link(1, 0, 0, 0);
        x.rounds(1);
        due.is("free", x.state(0, 4), 0);
        x.rounds(1);
        due.is("before its first round", x.state(0, 4), 77);
        x.rounds(1);
        due.is("after it", x.state(0, 4), -9);
    }

    // In holdover: the slope more than before; free: the oscillator's. A failed one's stays.

    private static void offsetsInHoldover() {
        for (int sign = -1; sign <= 1; sign += 2) {
            ClockTree x = new ClockTree();
            x.element(0, 0, 0, 9 * sign);
            x.source(0, 0, 0, 1000 * sign);
            x.rounds(1);
            x.source(0, 0, NONE, 0);
            x.rounds(1);
            due.is("beyond what an oscillator has", x.state(0, 4), 1009 * sign);
            x.rounds(200);
            due.is("far beyond it", x.state(0, 4), 2809 * sign);
            x.source(0, 0, 6, 3);
            x.rounds(1);
            due.is("locked again", x.state(0, 4), 3);
            x.command(0, 0, 2);
            x.rounds(2);
            due.is("from where it was", x.state(0, 4), 3 + 18 * sign);
        }
    }

    private static void offsetsOfFailedOnes() {
        ClockTree x = pair();
        x.rounds(1);
        x.source(0, 3, NONE, 0);
        x.rounds(1);
        due.is("holdover", x.state(0, 4), 42);
        x.failElement(0, true);
        due.is("failed", x.state(0, 4), 42);
        x.rounds(200);
        due.is("failed for long", x.state(0, 4), 42);
        due.is("it has a phase of two rounds", x.phase(0), 82);
        x.failElement(0, false);
        due.is("no round since it is whole again", x.state(0, 4), 42);
        x.rounds(1);
        due.is("free", x.state(0, 4), 100);
    }

    // The PHASE of an element is the sum of its offsets of all rounds in which it was whole.

    private static void phasesOfWholeRounds() {
        ClockTree x = new ClockTree();
        x.rounds(10);
        x.element(0, 0, -7, 0);
        due.is("no round yet", x.phase(0), 0);
        x.rounds(3);
        due.is("three rounds", x.phase(0), -21);
        x.failElement(0, true);
        x.rounds(1);
        due.is("failed", x.phase(0), -21);
        x.failElement(0, false);
        due.is("whole again", x.phase(0), -21);
        x.rounds(1);
        due.is("a fourth round", x.phase(0), -28);
    }

    /** As many rounds as there can be in 512 calls. */
    private static void phaseBeyondAnInt() {
        for (int sign = -1; sign <= 1; sign += 2) {
            ClockTree x = new ClockTree();
            x.element(0, 0, 0, 9 * sign);
            x.source(0, 0, 0, 1000 * sign);
            x.rounds(1);
            x.source(0, 0, NONE, 0);
            long want = 1000;
            for (int i = 0; i < 506; i++) {
                x.rounds(200);
            }
            long rounds = 506 * 200;
            want += 1000 * rounds + 9 * (rounds * (rounds + 1) / 2);
            due.is("offset", x.state(0, 4), sign * (1000 + 9 * rounds));
            due.is("phase", x.phase(0), sign * want);
        }
    }

    // FOLLOWING from an element that is whole and locked: on from the other element (also if the
    // link has failed since); otherwise traced to that port's source (also if that is gone since).

    private static void followingEndsAtWhatIsNotLocked() {
        ClockTree x = settledPair();
        due.is("both are traced", x.traced(1), 3);
        x.source(0, 3, NONE, 0);
        due.is("the source is gone since", x.traced(1), 3);
        x.rounds(1);
        state("in holdover", x, 0, HOLDOVER, NONE);
        state("still locked", x, 1, LOCKED, 0);
        due.is("to one in holdover", x.traced(1), NONE);
        due.is("from one in holdover", x.traced(0), NONE);
        ClockTree y = settledPair();
        y.failElement(0, true);
        due.is("to a failed one", y.traced(1), NONE);
        due.is("from a failed one", y.traced(0), NONE);
        y.failElement(0, false);
        due.is("to a free one", y.traced(1), NONE);
        due.is("from a free one", y.traced(0), NONE);
    }

    private static void followingAfterChanges() {
        ClockTree x = settledPair();
        x.fail(0, true);
        due.is("the link has failed since", x.traced(1), 3);
        x.rounds(2);
        due.is("and its word lasts", x.traced(1), 3);
        x.rounds(1);
        due.is("but no longer", x.traced(1), NONE);
        ClockTree y = settledPair();
        y.source(0, 3, 6, -1);
        y.source(0, 1, 0, 0);
        due.is("another source at the port, a better one elsewhere", y.traced(1), 3);
        y.rounds(1);
        due.is("that counts behind a round", y.traced(1), 1);
    }

    private static void followingAllElements() {
        ClockTree x = elements(16);
        for (int e = 15; e > 0; e--) {
            x.link(e, 1, e - 1, 0);
        }
        x.source(15, 3, 6, 0);
        x.rounds(16);
        for (int e = 0; e < 16; e++) {
            due.is("the last port of the last element", x.traced(e), 63);
        }
        due.is("over all of them, but no loop", x.loop(), false);
        ClockTree y = elements(1);
        y.source(0, 0, 0, 0);
        y.rounds(1);
        due.is("the first port of the first element", y.traced(0), 0);
    }

    // A LOOP: following, from any element, comes to one for the second time.

    private static void loopOfTwo() {
        ClockTree x = ring(2);
        x.tracing(false);
        x.source(0, 3, 1, 0);
        x.rounds(3);
        due.is("not yet", x.loop(), false);
        x.command(0, 0, 1);
        due.is("not without a round", x.loop(), false);
        x.rounds(1);
        due.is("a loop of two", x.loop(), true);
        due.is("traced to none", x.traced(0), NONE);
        x.fail(0, true);
        x.fail(1, true);
        due.is("also if the links have failed since", x.loop(), true);
        x.failElement(1, true);
        due.is("not if an element has", x.loop(), false);
    }

    private static void loopWithATail() {
        ClockTree x = ring(3);
        x.element(3, 0, 0, 0);
        x.element(15, 0, 0, 0);
        x.link(2, 2, 15, 0);
        x.link(15, 1, 3, 3);
        x.tracing(false);
        x.source(0, 3, 1, 0);
        x.rounds(6);
        due.is("traced", x.traced(3), 3);
        due.is("no loop", x.loop(), false);
        x.source(0, 3, NONE, 0);
        x.rounds(1);
        due.is("a loop", x.loop(), true);
        for (int e : new int[] {0, 1, 2, 3, 15}) {
            due.is("locked", x.state(e, 0), LOCKED);
            due.is("traced to none", x.traced(e), NONE);
        }
    }

    private static void loopOfAll() {
        for (int first = 0; first < 16; first += 5) {
            ClockTree x = ring(16);
            x.tracing(false);
            x.source(first, 3, 1, 0);
            x.rounds(17);
            due.is("a row of all", x.loop(), false);
            due.is("traced over all", x.traced((first + 15) % 16), 4 * first + 3);
            x.source(first, 3, NONE, 0);
            due.is("gone since, but no loop", x.loop(), false);
            x.rounds(1);
            due.is("a ring of all", x.loop(), true);
            due.is("traced to none", x.traced(first), NONE);
        }
    }

    /** Hops are not bounded: without tracing a word goes round for ever. */
    private static void hopsHaveNoEnd() {
        ClockTree x = ring(2);
        x.tracing(false);
        x.source(0, 3, 1, 0);
        x.rounds(4);
        x.source(0, 3, NONE, 0);
        // Two words go round, one of them at element 0 in every second round: two hops more each.
        for (int i = 0; i < 20; i++) {
            x.rounds(100);
            due.is("hops behind " + 100 * (i + 1) + " rounds", x.state(0, 2), 100 * (i + 1));
        }
    }
}
