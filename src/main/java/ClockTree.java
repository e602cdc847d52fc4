import java.util.Arrays;

/**
 * A net of elements that take their time from one another.
 *
 * <p>Ports are numbered through the net as SLOTS, 4 * element + port, and sets of elements, links
 * or slots are bits of one number, so that nothing needs to be made once the object stands.
 */
public final class ClockTree {
    public static final int NONE = -1;

    private static final int ELEMENTS = 16;
    private static final int PORTS = 4;
    private static final int SLOTS = ELEMENTS * PORTS;
    private static final int LINKS = 24;

    private static final int WORST_QUALITY = 6;
    private static final int DONT_USE = 7;
    private static final int HELD = 8;
    private static final int WIDEST_OFFSET = 1000;
    private static final int STEEPEST_SLOPE = 9;
    private static final int HIGHEST_PRIORITY = 9;
    private static final int LONGEST_RESTORE = 10;
    private static final int MOST_ROUNDS = 200;
    private static final int MOST_FINDINGS = 100;
    private static final int FAILED_ELEMENT = 100;

    private static final int FREE = 0;
    private static final int LOCKED = 1;
    private static final int HOLDOVER = 2;
    private static final int FAILED = 3;

    private static final int ENDLESS = -2;

    private final Plan plan;
    private final Flow flow;
    private final Flow trial;
    private final Clocks clocks;
    private final Calm calm;
    private final int[] findingFailed;
    private final int[] findingStarved;
    private int findings;

    public ClockTree() {
        plan = new Plan();
        flow = new Flow(plan);
        trial = new Flow(plan);
        clocks = new Clocks();
        calm = new Calm();
        findingFailed = new int[MOST_FINDINGS];
        findingStarved = new int[MOST_FINDINGS];
        findings = 0;
    }

    public void element(int e, int quality, int offset, int slope)
            throws IllegalArgumentException, IllegalStateException {
        refuseUnless(isWithin(e, 0, ELEMENTS - 1) && isWithin(quality, 0, WORST_QUALITY));
        refuseUnless(isWithin(offset, -WIDEST_OFFSET, WIDEST_OFFSET));
        refuseUnless(isWithin(slope, -STEEPEST_SLOPE, STEEPEST_SLOPE));
        if (plan.there[e]) {
            throw new IllegalStateException("the element is there already");
        }
        plan.there[e] = true;
        plan.quality[e] = quality;
        plan.offset[e] = offset;
        plan.slope[e] = slope;
        clocks.start(e, offset);
    }

    public int link(int a, int p, int b, int q)
            throws IllegalArgumentException, IllegalStateException {
        refuseUnless(plan.isPort(a, p) && plan.isPort(b, q) && a != b);
        int first = slotOf(a, p);
        int second = slotOf(b, q);
        if (plan.isTaken(first) || plan.isTaken(second) || plan.links >= LINKS) {
            throw new IllegalStateException("a port has something, or there are 24 links");
        }
        return plan.join(first, second);
    }

    public void source(int e, int p, int quality, int offset)
            throws IllegalArgumentException, IllegalStateException {
        refuseUnless(plan.isPort(e, p));
        refuseUnless(quality == NONE || isWithin(quality, 0, WORST_QUALITY)
                && isWithin(offset, -WIDEST_OFFSET, WIDEST_OFFSET));
        int slot = slotOf(e, p);
        if (plan.linkOf[slot] != NONE) {
            throw new IllegalStateException("the port has a link");
        }
        plan.sourceQuality[slot] = quality;
        plan.sourceOffset[slot] = offset;
    }

    public int priority(int e, int p, int v) throws IllegalArgumentException {
        refuseUnless(plan.isPort(e, p) && isWithin(v, 0, HIGHEST_PRIORITY));
        int slot = slotOf(e, p);
        int was = plan.priority[slot];
        plan.priority[slot] = v;
        return was;
    }

    public int restore(int e, int n) throws IllegalArgumentException {
        refuseUnless(plan.isThere(e) && isWithin(n, 0, LONGEST_RESTORE));
        int was = plan.restore[e];
        plan.restore[e] = n;
        return was;
    }

    public boolean tracing(boolean on) {
        boolean was = plan.tracing;
        plan.tracing = on;
        return was;
    }

    public int command(int e, int which, int p) throws IllegalArgumentException {
        refuseUnless(plan.isThere(e) && isWithin(which, 0, 1));
        refuseUnless(p == NONE || isWithin(p, 0, PORTS - 1));
        int[] commands = which == 0 ? plan.forced : plan.manual;
        int was = commands[e];
        commands[e] = p;
        return was;
    }

    public boolean lockout(int e, int p, boolean on) throws IllegalArgumentException {
        refuseUnless(plan.isPort(e, p));
        int slot = slotOf(e, p);
        boolean was = plan.lockedOut[slot];
        plan.lockedOut[slot] = on;
        return was;
    }

    public boolean fail(int link, boolean on) throws IllegalArgumentException {
        refuseUnless(plan.isLink(link));
        boolean was = !flow.isLinkWhole(link);
        flow.setLinkFailed(link, on);
        return was;
    }

    public boolean failElement(int e, boolean on) throws IllegalArgumentException {
        refuseUnless(plan.isThere(e));
        boolean was = !flow.isWhole(e);
        flow.setElementFailed(e, on);
        return was;
    }

    public void lose(int link, boolean back) throws IllegalArgumentException {
        refuseUnless(plan.isLink(link));
        int first = plan.firstEnd[link];
        flow.loseFrom(back ? plan.peer[first] : first);
    }

    public int rounds(int n) throws IllegalArgumentException {
        refuseUnless(isWithin(n, 1, MOST_ROUNDS));
        for (int i = 0; i < n; i++) {
            flow.passRound();
            clocks.passRound(plan, flow);
            calm.passRound(flow);
        }
        return calm.rounds;
    }

    public int settled() {
        return calm.rounds;
    }

    public int state(int e, int what) throws IllegalArgumentException {
        refuseUnless(plan.isThere(e));
        switch (what) {
            case 0:
                return flow.shownCondition(e);
            case 1:
                return flow.chosen[e];
            case 2:
                return flow.hops[e];
            case 3:
                return flow.quality[e];
            case 4:
                return clocks.now[e];
            default:
                throw new IllegalArgumentException("what is 0 to 4");
        }
    }

    public long phase(int e) throws IllegalArgumentException {
        refuseUnless(plan.isThere(e));
        return clocks.sum[e];
    }

    public int sends(int e, int p) throws IllegalArgumentException {
        refuseUnless(plan.isPort(e, p));
        return flow.sent.quality[slotOf(e, p)];
    }

    public int traced(int e) throws IllegalArgumentException {
        refuseUnless(plan.isThere(e));
        int end = flow.follow(e);
        return end == ENDLESS ? NONE : end;
    }

    public boolean loop() {
        for (int e = 0; e < ELEMENTS; e++) {
            if (flow.follow(e) == ENDLESS) {
                return true;
            }
        }
        return false;
    }

    public int best(int e) throws IllegalArgumentException {
        refuseUnless(plan.isThere(e));
        return flow.bestReached(e);
    }

    public int check() {
        findings = 0;
        int rounds = 4 * (LINKS + plan.longestRestore());
        for (int link = 0; link < plan.links && findings < MOST_FINDINGS; link++) {
            if (flow.isLinkWhole(link)) {
                trial.copy(flow);
                trial.setLinkFailed(link, true);
                trial.passRounds(rounds);
                findStarved(link);
            }
        }
        for (int e = 0; e < ELEMENTS && findings < MOST_FINDINGS; e++) {
            if (flow.isWhole(e)) {
                trial.copy(flow);
                trial.setElementFailed(e, true);
                trial.passRounds(rounds);
                findStarved(FAILED_ELEMENT + e);
            }
        }
        return findings;
    }

    public int finding(int k, int what) throws IllegalArgumentException {
        refuseUnless(isWithin(k, 0, findings - 1) && isWithin(what, 0, 1));
        return what == 0 ? findingFailed[k] : findingStarved[k];
    }

    private void findStarved(int failed) {
        for (int e = 0; e < ELEMENTS && findings < MOST_FINDINGS; e++) {
            if (trial.isStarved(e)) {
                findingFailed[findings] = failed;
                findingStarved[findings] = e;
                findings++;
            }
        }
    }

    private static void refuseUnless(boolean asSaid) {
        if (!asSaid) {
            throw new IllegalArgumentException("not as the document says");
        }
    }

    private static boolean isWithin(int value, int least, int most) {
        return least <= value && value <= most;
    }

    private static int slotOf(int e, int p) {
        return e * PORTS + p;
    }

    private static int elementOf(int slot) {
        return slot / PORTS;
    }

    /** What calls have laid down and no round changes: the net and its trials share it. */
    private static final class Plan {
        final boolean[] there = new boolean[ELEMENTS];
        final int[] quality = new int[ELEMENTS];
        final int[] offset = new int[ELEMENTS];
        final int[] slope = new int[ELEMENTS];
        final int[] restore = new int[ELEMENTS];
        final int[] forced = new int[ELEMENTS];
        final int[] manual = new int[ELEMENTS];

        final int[] linkOf = new int[SLOTS];
        final int[] peer = new int[SLOTS];
        final int[] sourceQuality = new int[SLOTS];
        final int[] sourceOffset = new int[SLOTS];
        final int[] priority = new int[SLOTS];
        final boolean[] lockedOut = new boolean[SLOTS];

        final int[] firstEnd = new int[LINKS];
        int links = 0;
        boolean tracing = true;

        Plan() {
            Arrays.fill(forced, NONE);
            Arrays.fill(manual, NONE);
            Arrays.fill(linkOf, NONE);
            Arrays.fill(peer, NONE);
            Arrays.fill(sourceQuality, NONE);
        }

        boolean isThere(int e) {
            return isWithin(e, 0, ELEMENTS - 1) && there[e];
        }

        boolean isPort(int e, int p) {
            return isThere(e) && isWithin(p, 0, PORTS - 1);
        }

        boolean isLink(int link) {
            return isWithin(link, 0, links - 1);
        }

        boolean isTaken(int slot) {
            return linkOf[slot] != NONE || hasSource(slot);
        }

        boolean hasSource(int slot) {
            return sourceQuality[slot] != NONE;
        }

        int join(int first, int second) {
            int link = links;
            links++;
            firstEnd[link] = first;
            linkOf[first] = link;
            linkOf[second] = link;
            peer[first] = second;
            peer[second] = first;
            return link;
        }

        int longestRestore() {
            int longest = 0;
            for (int e = 0; e < ELEMENTS; e++) {
                longest = Math.max(longest, restore[e]);
            }
            return longest;
        }
    }

    /** A word for each slot; the quality NONE says that there is no word. */
    private static final class Words {
        final int[] quality = new int[SLOTS];
        final int[] hops = new int[SLOTS];
        final int[] trace = new int[SLOTS];

        Words() {
            Arrays.fill(quality, NONE);
        }

        void write(int slot, int itsQuality, int itsHops, int itsTrace) {
            quality[slot] = itsQuality;
            hops[slot] = itsHops;
            trace[slot] = itsTrace;
        }

        boolean isSame(int slot, Words other, int otherSlot) {
            return quality[slot] == other.quality[otherSlot]
                    && hops[slot] == other.hops[otherSlot]
                    && trace[slot] == other.trace[otherSlot];
        }

        void copy(Words from) {
            System.arraycopy(from.quality, 0, quality, 0, SLOTS);
            System.arraycopy(from.hops, 0, hops, 0, SLOTS);
            System.arraycopy(from.trace, 0, trace, 0, SLOTS);
        }
    }

    /** What rounds and failures change, but for the offsets, on which no choice depends. */
    private static final class Flow {
        /** A word that came this many rounds ago is one that the port has no more. */
        private static final int STALE = 3;
        /** Counting on would tell no restore time more. */
        private static final int LONG_USABLE = LONGEST_RESTORE + 1;

        final Plan plan;
        final Words got = new Words();
        final Words sent = new Words();
        /** What each slot offers in the round that goes by; no round looks at an earlier one's. */
        final Words offered = new Words();
        final int[] age = new int[SLOTS];
        final int[] usableFor = new int[SLOTS];
        final int[] condition = new int[ELEMENTS];
        final int[] chosen = new int[ELEMENTS];
        final int[] hops = new int[ELEMENTS];
        final int[] quality = new int[ELEMENTS];
        int everLocked = 0;
        int failedElements = 0;
        int failedLinks = 0;
        long lost = 0L;
        boolean moved = false;

        Flow(Plan itsPlan) {
            plan = itsPlan;
            Arrays.fill(age, STALE);
            Arrays.fill(chosen, NONE);
            Arrays.fill(hops, NONE);
            Arrays.fill(quality, NONE);
        }

        void copy(Flow from) {
            got.copy(from.got);
            sent.copy(from.sent);
            System.arraycopy(from.age, 0, age, 0, SLOTS);
            System.arraycopy(from.usableFor, 0, usableFor, 0, SLOTS);
            System.arraycopy(from.condition, 0, condition, 0, ELEMENTS);
            System.arraycopy(from.chosen, 0, chosen, 0, ELEMENTS);
            System.arraycopy(from.hops, 0, hops, 0, ELEMENTS);
            System.arraycopy(from.quality, 0, quality, 0, ELEMENTS);
            everLocked = from.everLocked;
            failedElements = from.failedElements;
            failedLinks = from.failedLinks;
            lost = from.lost;
        }

        boolean isWhole(int e) {
            return plan.there[e] && (failedElements >> e & 1) == 0;
        }

        boolean isLinkWhole(int link) {
            return (failedLinks >> link & 1) == 0;
        }

        boolean isLocked(int e) {
            return condition[e] == LOCKED;
        }

        int shownCondition(int e) {
            return (failedElements >> e & 1) == 1 ? FAILED : condition[e];
        }

        void setLinkFailed(int link, boolean on) {
            failedLinks = on ? failedLinks | 1 << link : failedLinks & ~(1 << link);
        }

        void setElementFailed(int e, boolean on) {
            if (on) {
                failedElements |= 1 << e;
                // A failed one takes no part in rounds: it is still as new when it is whole again.
                forget(e);
            } else {
                failedElements &= ~(1 << e);
            }
        }

        void loseFrom(int slot) {
            lost |= 1L << slot;
        }

        private void forget(int e) {
            condition[e] = FREE;
            chosen[e] = NONE;
            hops[e] = NONE;
            quality[e] = NONE;
            everLocked &= ~(1 << e);
            for (int p = 0; p < PORTS; p++) {
                int slot = slotOf(e, p);
                sent.write(slot, NONE, 0, 0);
                age[slot] = STALE;
                usableFor[slot] = 0;
            }
        }

        /**
         * As many rounds as said, or fewer where the rest would tell nothing new: when what came
         * and what was usable stays as it was after a round of this very plan, it stays for good.
         */
        void passRounds(int n) {
            for (int i = 0; i < n && (i < 2 || moved); i++) {
                passRound();
            }
        }

        void passRound() {
            moved = false;
            for (int e = 0; e < ELEMENTS; e++) {
                if (isWhole(e)) {
                    listen(e);
                }
            }
            lost = 0L;
            for (int e = 0; e < ELEMENTS; e++) {
                if (isWhole(e)) {
                    decide(e);
                    speak(e);
                }
            }
        }

        private void listen(int e) {
            for (int p = 0; p < PORTS; p++) {
                int slot = slotOf(e, p);
                if (plan.linkOf[slot] != NONE) {
                    hear(slot);
                }
                weigh(slot);
                countUsable(e, slot);
            }
        }

        private void hear(int slot) {
            int from = plan.peer[slot];
            int newAge = Math.min(age[slot] + 1, STALE);
            if (comes(slot, from)) {
                moved = moved || !got.isSame(slot, sent, from);
                got.write(slot, sent.quality[from], sent.hops[from], sent.trace[from]);
                newAge = 0;
            }
            moved = moved || newAge != age[slot];
            age[slot] = newAge;
        }

        private boolean comes(int slot, int from) {
            return isLinkWhole(plan.linkOf[slot]) && isWhole(elementOf(from))
                    && sent.quality[from] != NONE && (lost >> from & 1L) == 0L;
        }

        private void weigh(int slot) {
            if (plan.hasSource(slot)) {
                offered.write(slot, plan.sourceQuality[slot], 0, 0);
            } else if (age[slot] < STALE) {
                offered.write(slot, got.quality[slot], got.hops[slot], got.trace[slot]);
            } else {
                offered.write(slot, NONE, 0, 0);
            }
        }

        private void countUsable(int e, int slot) {
            int count = isUsable(e, slot) ? Math.min(usableFor[slot] + 1, LONG_USABLE) : 0;
            moved = moved || count != usableFor[slot];
            usableFor[slot] = count;
        }

        private boolean isUsable(int e, int slot) {
            boolean isGood = isWithin(offered.quality[slot], 0, DONT_USE - 1);
            boolean isOwn = (offered.trace[slot] >> e & 1) == 1;
            return isGood && !plan.lockedOut[slot] && !(plan.tracing && isOwn);
        }

        private void decide(int e) {
            int port = choose(e);
            chosen[e] = port;
            if (port != NONE && usableFor[slotOf(e, port)] > 0) {
                int slot = slotOf(e, port);
                condition[e] = LOCKED;
                everLocked |= 1 << e;
                quality[e] = offered.quality[slot];
                hops[e] = offered.hops[slot];
            } else {
                condition[e] = (everLocked >> e & 1) == 1 ? HOLDOVER : FREE;
                quality[e] = NONE;
                hops[e] = NONE;
            }
        }

        private int choose(int e) {
            if (plan.forced[e] != NONE) {
                return plan.forced[e];
            }
            int manual = plan.manual[e];
            if (manual != NONE && usableFor[slotOf(e, manual)] > 0) {
                return manual;
            }
            int ready = bestPort(e, plan.restore[e] + 1);
            return ready != NONE ? ready : bestPort(e, 1);
        }

        private int bestPort(int e, int leastUsable) {
            int bestSoFar = NONE;
            for (int p = 0; p < PORTS; p++) {
                int slot = slotOf(e, p);
                if (usableFor[slot] >= leastUsable
                        && (bestSoFar == NONE || isBetter(slot, slotOf(e, bestSoFar)))) {
                    bestSoFar = p;
                }
            }
            return bestSoFar;
        }

        private boolean isBetter(int slot, int other) {
            if (offered.quality[slot] != offered.quality[other]) {
                return offered.quality[slot] < offered.quality[other];
            }
            if (offered.hops[slot] != offered.hops[other]) {
                return offered.hops[slot] < offered.hops[other];
            }
            return plan.priority[slot] < plan.priority[other];
        }

        private void speak(int e) {
            for (int p = 0; p < PORTS; p++) {
                int slot = slotOf(e, p);
                if (plan.linkOf[slot] == NONE) {
                    continue;
                }
                if (p == chosen[e]) {
                    sent.write(slot, DONT_USE, 0, 0);
                } else if (isLocked(e)) {
                    int trace = offered.trace[slotOf(e, chosen[e])] | 1 << e;
                    sent.write(slot, quality[e], hops[e] + 1, trace);
                } else {
                    sent.write(slot, HELD + plan.quality[e], 0, 0);
                }
            }
        }

        /** The slot of the source to which following comes, NONE for none, or ENDLESS. */
        int follow(int start) {
            int e = start;
            for (int step = 0; step < ELEMENTS; step++) {
                if (!isWhole(e) || !isLocked(e)) {
                    return NONE;
                }
                int slot = slotOf(e, chosen[e]);
                if (plan.linkOf[slot] == NONE) {
                    return slot;
                }
                e = elementOf(plan.peer[slot]);
            }
            // More steps than elements: one of them was come to twice.
            return ENDLESS;
        }

        int bestReached(int start) {
            if (!isWhole(start)) {
                return DONT_USE;
            }
            int reached = reachedFrom(start);
            int best = DONT_USE;
            for (int slot = 0; slot < SLOTS; slot++) {
                if ((reached >> elementOf(slot) & 1) == 1 && plan.hasSource(slot)) {
                    best = Math.min(best, plan.sourceQuality[slot]);
                }
            }
            return best;
        }

        private int reachedFrom(int start) {
            int reached = 1 << start;
            // No way without a detour is longer than there are elements.
            for (int step = 0; step < ELEMENTS; step++) {
                int wider = reached;
                for (int link = 0; link < plan.links; link++) {
                    wider |= across(link, reached);
                }
                if (wider == reached) {
                    break;
                }
                reached = wider;
            }
            return reached;
        }

        private int across(int link, int reached) {
            int a = elementOf(plan.firstEnd[link]);
            int b = elementOf(plan.peer[plan.firstEnd[link]]);
            boolean leads = isLinkWhole(link) && isWhole(a) && isWhole(b);
            int ends = 1 << a | 1 << b;
            return leads && (reached & ends) != 0 ? ends : 0;
        }

        boolean isStarved(int e) {
            return isWhole(e) && !isLocked(e) && bestReached(e) < DONT_USE;
        }
    }

    /** The offsets of the latest two rounds and the phases. */
    private static final class Clocks {
        final int[] now = new int[ELEMENTS];
        final int[] before = new int[ELEMENTS];
        final int[] next = new int[ELEMENTS];
        final long[] sum = new long[ELEMENTS];

        void start(int e, int offset) {
            now[e] = offset;
            before[e] = offset;
        }

        void passRound(Plan plan, Flow flow) {
            for (int e = 0; e < ELEMENTS; e++) {
                next[e] = flow.isWhole(e) ? offsetAfter(e, plan, flow) : now[e];
            }
            for (int e = 0; e < ELEMENTS; e++) {
                before[e] = now[e];
                now[e] = next[e];
                if (flow.isWhole(e)) {
                    sum[e] += now[e];
                }
            }
        }

        private int offsetAfter(int e, Plan plan, Flow flow) {
            if (flow.isLocked(e)) {
                int slot = slotOf(e, flow.chosen[e]);
                boolean linked = plan.linkOf[slot] != NONE;
                return linked ? before[elementOf(plan.peer[slot])] : plan.sourceOffset[slot];
            }
            return flow.condition[e] == HOLDOVER ? now[e] + plan.slope[e] : plan.offset[e];
        }
    }

    /** For how many rounds nothing was another one, seen from the end of each round. */
    private static final class Calm {
        final int[] condition = new int[ELEMENTS];
        final int[] chosen = new int[ELEMENTS];
        int rounds = 0;

        Calm() {
            Arrays.fill(condition, FREE);
            Arrays.fill(chosen, NONE);
        }

        void passRound(Flow flow) {
            boolean same = true;
            for (int e = 0; e < ELEMENTS; e++) {
                if (condition[e] != flow.shownCondition(e) || chosen[e] != flow.chosen[e]) {
                    same = false;
                }
                condition[e] = flow.shownCondition(e);
                chosen[e] = flow.chosen[e];
            }
            rounds = same ? rounds + 1 : 0;
        }
    }
}
