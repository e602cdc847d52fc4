import java.util.ArrayList;
import java.util.HashSet;
import java.util.List;
import java.util.Set;
import java.util.TreeSet;

/**
 * The document's words, worked out in the slowest way: every round is written down whole, and every
 * answer is looked up in these writings. It is made to be compared with, so it shares no idea with
 * ClockTree that could be left out.
 */
final class Model {
    static final int NONE = -1;

    record Word(int quality, int hops, Set<Integer> trace) { }

    record Port(int e, int p) { }

    record Source(int quality, int offset) { }

    record Link(Port first, Port second) {
        Port other(Port end) {
            return end.equals(first) ? second : first;
        }
    }

    /** What the calls have laid down of one element. */
    static final class Element {
        final int quality;
        final int offset;
        final int slope;
        final Source[] sources = new Source[4];
        final int[] priorities = new int[4];
        final boolean[] lockedOut = new boolean[4];
        final int[] commands = {NONE, NONE};
        int restore = 0;
        boolean failed = false;
        /** The rounds before this one are none of its own: it was failed since, or not there. */
        int since;

        Element(int quality, int offset, int slope, int since) {
            this.quality = quality;
            this.offset = offset;
            this.slope = slope;
            this.since = since;
        }

        Element copy() {
            Element copy = new Element(quality, offset, slope, since);
            System.arraycopy(sources, 0, copy.sources, 0, 4);
            System.arraycopy(priorities, 0, copy.priorities, 0, 4);
            System.arraycopy(lockedOut, 0, copy.lockedOut, 0, 4);
            System.arraycopy(commands, 0, copy.commands, 0, 2);
            copy.restore = restore;
            copy.failed = failed;
            return copy;
        }
    }

    /** What one element did in one round. */
    static final class Deed {
        final Word[] got = new Word[4];
        final Word[] sent = new Word[4];
        final Word[] usable = new Word[4];
        boolean whole = false;
        boolean failed = false;
        int condition = 0;
        int chosen = NONE;
        Word choice = null;
        int offset = 0;
    }

    private final Element[] elements = new Element[16];
    private final List<Link> links = new ArrayList<>();
    private final Set<Integer> failedLinks = new TreeSet<>();
    private final Set<Port> lost = new HashSet<>();
    private final List<Deed[]> history = new ArrayList<>();
    private final List<int[]> findings = new ArrayList<>();
    private boolean tracing = true;

    private Model copy() {
        Model copy = new Model();
        for (int e = 0; e < 16; e++) {
            copy.elements[e] = elements[e] == null ? null : elements[e].copy();
        }
        copy.links.addAll(links);
        copy.failedLinks.addAll(failedLinks);
        copy.lost.addAll(lost);
        // No rule looks back further than the longest restore time.
        copy.history.addAll(history);
        copy.tracing = tracing;
        return copy;
    }

    private static void argument(boolean right) {
        if (!right) {
            throw new IllegalArgumentException();
        }
    }

    private static void state(boolean right) {
        if (!right) {
            throw new IllegalStateException();
        }
    }

    private boolean there(int e) {
        return e >= 0 && e < 16 && elements[e] != null;
    }

    private boolean port(int e, int p) {
        return there(e) && p >= 0 && p < 4;
    }

    private Link linkAt(int e, int p) {
        Port port = new Port(e, p);
        for (Link link : links) {
            if (link.first.equals(port) || link.second.equals(port)) {
                return link;
            }
        }
        return null;
    }

    private boolean free(int e, int p) {
        return linkAt(e, p) == null && elements[e].sources[p] == null;
    }

    void element(int e, int quality, int offset, int slope) {
        argument(e >= 0 && e < 16 && quality >= 0 && quality <= 6 && offset >= -1000
                && offset <= 1000 && slope >= -9 && slope <= 9);
        state(elements[e] == null);
        elements[e] = new Element(quality, offset, slope, history.size());
    }

    int link(int a, int p, int b, int q) {
        argument(port(a, p) && port(b, q) && a != b);
        state(free(a, p) && free(b, q) && links.size() < 24);
        links.add(new Link(new Port(a, p), new Port(b, q)));
        return links.size() - 1;
    }

    void source(int e, int p, int quality, int offset) {
        argument(port(e, p));
        argument(quality >= -1 && quality <= 6);
        argument(quality == NONE || offset >= -1000 && offset <= 1000);
        state(linkAt(e, p) == null);
        elements[e].sources[p] = quality == NONE ? null : new Source(quality, offset);
    }

    int priority(int e, int p, int v) {
        argument(port(e, p) && v >= 0 && v <= 9);
        int was = elements[e].priorities[p];
        elements[e].priorities[p] = v;
        return was;
    }

    int restore(int e, int n) {
        argument(there(e) && n >= 0 && n <= 10);
        int was = elements[e].restore;
        elements[e].restore = n;
        return was;
    }

    boolean tracing(boolean on) {
        boolean was = tracing;
        tracing = on;
        return was;
    }

    int command(int e, int which, int p) {
        argument(there(e) && (which == 0 || which == 1) && p >= -1 && p < 4);
        int was = elements[e].commands[which];
        elements[e].commands[which] = p;
        return was;
    }

    boolean lockout(int e, int p, boolean on) {
        argument(port(e, p));
        boolean was = elements[e].lockedOut[p];
        elements[e].lockedOut[p] = on;
        return was;
    }

    boolean fail(int link, boolean on) {
        argument(link >= 0 && link < links.size());
        return on ? !failedLinks.add(link) : failedLinks.remove(link);
    }

    boolean failElement(int e, boolean on) {
        argument(there(e));
        boolean was = elements[e].failed;
        if (was != on) {
            elements[e].failed = on;
            elements[e].since = history.size();
        }
        return was;
    }

    void lose(int link, boolean back) {
        argument(link >= 0 && link < links.size());
        lost.add(back ? links.get(link).second : links.get(link).first);
    }

    int rounds(int n) {
        argument(n >= 1 && n <= 200);
        for (int i = 0; i < n; i++) {
            round();
        }
        return settled();
    }

    private boolean whole(int e) {
        return there(e) && !elements[e].failed;
    }

    private void round() {
        Deed[] now = new Deed[16];
        history.add(now);
        for (int e = 0; e < 16; e++) {
            now[e] = new Deed();
            now[e].whole = whole(e);
            now[e].failed = there(e) && !whole(e);
        }
        for (int e = 0; e < 16; e++) {
            if (now[e].whole) {
                receive(e, now[e]);
                choose(e, now[e]);
                send(e, now[e]);
            }
        }
        for (int e = 0; e < 16; e++) {
            now[e].offset = there(e) ? newOffset(e, now[e]) : 0;
        }
        lost.clear();
    }

    /** What an element did so many rounds before the latest one; null for what counts no more. */
    private Deed deed(int e, int ago) {
        int index = history.size() - 1 - ago;
        return there(e) && index >= elements[e].since ? history.get(index)[e] : null;
    }

    private void receive(int e, Deed deed) {
        for (int p = 0; p < 4; p++) {
            Link link = linkAt(e, p);
            if (link == null) {
                continue;
            }
            Port from = link.other(new Port(e, p));
            Deed sender = whole(from.e) ? deed(from.e, 1) : null;
            if (sender != null && !failedLinks.contains(links.indexOf(link))
                    && !lost.contains(from)) {
                deed.got[p] = sender.sent[from.p];
            }
        }
    }

    private Word has(int e, int p) {
        for (int ago = 0; ago <= 2; ago++) {
            Deed deed = deed(e, ago);
            if (deed != null && deed.got[p] != null) {
                return deed.got[p];
            }
        }
        return null;
    }

    private Word usableWord(int e, int p) {
        Element element = elements[e];
        if (element.lockedOut[p]) {
            return null;
        }
        if (element.sources[p] != null) {
            return new Word(element.sources[p].quality, 0, Set.of());
        }
        Word word = has(e, p);
        if (word == null || word.quality >= 7 || tracing && word.trace.contains(e)) {
            return null;
        }
        return word;
    }

    private boolean ready(int e, int p) {
        for (int ago = 0; ago <= elements[e].restore; ago++) {
            Deed deed = deed(e, ago);
            if (deed == null || deed.usable[p] == null) {
                return false;
            }
        }
        return true;
    }

    private void choose(int e, Deed deed) {
        Element element = elements[e];
        List<Integer> ready = new ArrayList<>();
        List<Integer> usable = new ArrayList<>();
        for (int p = 0; p < 4; p++) {
            deed.usable[p] = usableWord(e, p);
            if (deed.usable[p] != null) {
                usable.add(p);
            }
            if (ready(e, p)) {
                ready.add(p);
            }
        }
        int manual = element.commands[1];
        if (element.commands[0] != NONE) {
            deed.chosen = element.commands[0];
        } else if (manual != NONE && deed.usable[manual] != null) {
            deed.chosen = manual;
        } else if (!usable.isEmpty()) {
            List<Integer> ports = ready.isEmpty() ? usable : ready;
            ports.sort((a, b) -> rank(element, deed, a) - rank(element, deed, b));
            deed.chosen = ports.get(0);
        }
        deed.choice = deed.chosen == NONE ? null : deed.usable[deed.chosen];
        deed.condition = deed.choice != null ? 1 : everLocked(e) ? 2 : 0;
    }

    private static int rank(Element element, Deed deed, int p) {
        Word word = deed.usable[p];
        return ((word.quality * 100_000 + word.hops) * 10 + element.priorities[p]) * 4 + p;
    }

    private boolean everLocked(int e) {
        for (int ago = 1; deed(e, ago) != null; ago++) {
            if (deed(e, ago).condition == 1) {
                return true;
            }
        }
        return false;
    }

    private void send(int e, Deed deed) {
        for (int p = 0; p < 4; p++) {
            if (linkAt(e, p) == null) {
                continue;
            }
            if (p == deed.chosen) {
                deed.sent[p] = new Word(7, 0, Set.of());
            } else if (deed.condition == 1) {
                Set<Integer> trace = new TreeSet<>(deed.choice.trace);
                trace.add(e);
                deed.sent[p] = new Word(deed.choice.quality, deed.choice.hops + 1, trace);
            } else {
                deed.sent[p] = new Word(8 + elements[e].quality, 0, Set.of());
            }
        }
    }

    /** An element's offset at the end of a round: that of its oscillator before it was there. */
    private int offsetAt(int e, int round) {
        if (round < 0 || !history.get(round)[e].whole && !history.get(round)[e].failed) {
            return elements[e].offset;
        }
        return history.get(round)[e].offset;
    }

    private int newOffset(int e, Deed deed) {
        int now = history.size() - 1;
        if (!deed.whole) {
            return offsetAt(e, now - 1);
        }
        if (deed.condition == 2) {
            return offsetAt(e, now - 1) + elements[e].slope;
        }
        if (deed.condition == 0) {
            return elements[e].offset;
        }
        Link link = linkAt(e, deed.chosen);
        if (link == null) {
            return elements[e].sources[deed.chosen].offset;
        }
        return offsetAt(link.other(new Port(e, deed.chosen)).e, now - 2);
    }

    int settled() {
        int settled = 0;
        for (int round = history.size() - 1; round >= 0 && sameAsBefore(round); round--) {
            settled++;
        }
        return settled;
    }

    private boolean sameAsBefore(int round) {
        for (int e = 0; e < 16; e++) {
            Deed now = history.get(round)[e];
            Deed before = round == 0 ? new Deed() : history.get(round - 1)[e];
            if (now.failed != before.failed || now.condition != before.condition
                    || now.chosen != before.chosen) {
                return false;
            }
        }
        return true;
    }

    int state(int e, int what) {
        argument(there(e) && what >= 0 && what <= 4);
        Deed deed = whole(e) ? deed(e, 0) : null;
        boolean locked = deed != null && deed.condition == 1;
        switch (what) {
            case 0: return elements[e].failed ? 3 : deed == null ? 0 : deed.condition;
            case 1: return deed == null ? NONE : deed.chosen;
            case 2: return locked ? deed.choice.hops : NONE;
            case 3: return locked ? deed.choice.quality : NONE;
            default: return offsetAt(e, history.size() - 1);
        }
    }

    long phase(int e) {
        argument(there(e));
        long sum = 0;
        for (Deed[] round : history) {
            sum += round[e].whole ? round[e].offset : 0;
        }
        return sum;
    }

    int sends(int e, int p) {
        argument(port(e, p));
        Deed deed = whole(e) ? deed(e, 0) : null;
        return deed == null || deed.sent[p] == null ? NONE : deed.sent[p].quality;
    }

    /** The elements that following comes to, in their order, up to one that comes twice. */
    private List<Integer> way(int e) {
        List<Integer> way = new ArrayList<>();
        int at = e;
        while (true) {
            boolean again = way.contains(at);
            way.add(at);
            if (again || !there(at) || state(at, 0) != 1) {
                return way;
            }
            Link link = linkAt(at, state(at, 1));
            if (link == null) {
                return way;
            }
            at = link.other(new Port(at, state(at, 1))).e;
        }
    }

    int traced(int e) {
        argument(there(e));
        List<Integer> way = way(e);
        int last = way.get(way.size() - 1);
        boolean again = way.indexOf(last) != way.size() - 1;
        return again || state(last, 0) != 1 ? NONE : 4 * last + state(last, 1);
    }

    boolean loop() {
        for (int e = 0; e < 16; e++) {
            List<Integer> way = way(e);
            if (new HashSet<>(way).size() != way.size()) {
                return true;
            }
        }
        return false;
    }

    int best(int e) {
        argument(there(e));
        if (!whole(e)) {
            return 7;
        }
        List<Integer> reached = new ArrayList<>(List.of(e));
        int best = 7;
        for (int i = 0; i < reached.size(); i++) {
            for (int p = 0; p < 4; p++) {
                Source source = elements[reached.get(i)].sources[p];
                best = source == null ? best : Math.min(best, source.quality);
                Link link = linkAt(reached.get(i), p);
                if (link != null && !failedLinks.contains(links.indexOf(link))) {
                    int other = link.other(new Port(reached.get(i), p)).e;
                    if (whole(other) && !reached.contains(other)) {
                        reached.add(other);
                    }
                }
            }
        }
        return best;
    }

    int check() {
        findings.clear();
        for (int link = 0; link < links.size(); link++) {
            if (!failedLinks.contains(link)) {
                Model trial = copy();
                trial.fail(link, true);
                starve(trial, link);
            }
        }
        for (int e = 0; e < 16; e++) {
            if (whole(e)) {
                Model trial = copy();
                trial.failElement(e, true);
                starve(trial, 100 + e);
            }
        }
        return findings.size();
    }

    private void starve(Model trial, int failed) {
        int longest = 0;
        for (int e = 0; e < 16; e++) {
            longest = there(e) ? Math.max(longest, elements[e].restore) : longest;
        }
        for (int i = 0; i < 4 * (24 + longest); i++) {
            trial.round();
        }
        for (int e = 0; e < 16; e++) {
            if (trial.whole(e) && trial.state(e, 0) != 1 && trial.best(e) < 7
                    && findings.size() < 100) {
                findings.add(new int[] {failed, e});
            }
        }
    }

    int finding(int k, int what) {
        argument(k >= 0 && k < findings.size() && (what == 0 || what == 1));
        return findings.get(k)[what];
    }
}
