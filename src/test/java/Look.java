import java.util.ArrayList;
import java.util.List;
import java.util.function.LongSupplier;

/**
 * All that an object can be asked, as a row of numbers: two objects with the same rows are in the
 * same state. The document lets an object be used for 512 calls, so the look has parts of some 400
 * calls, each of which wants an object of its own.
 */
final class Look {
    static final int PARTS = 5;

    private static final long ARGUMENT = Long.MIN_VALUE;
    private static final long STATE = Long.MIN_VALUE + 1;
    private static final long OTHER = Long.MIN_VALUE + 2;

    private final ClockTree x;
    private final List<Long> seen = new ArrayList<>();

    private Look(ClockTree x) {
        this.x = x;
    }

    /** What part k of the look sees. The object is of no other use behind it. */
    static List<Long> at(ClockTree x, int k) {
        Look look = new Look(x);
        switch (k) {
            case 0:
                look.answers();
                look.ask(() -> x.rounds(1));
                look.answers();
                break;
            case 1:
                look.nextRounds();
                break;
            case 2:
                look.settings();
                break;
            case 3:
                look.sources();
                break;
            default:
                look.findings();
                look.ask(x::check);
                look.findings();
                break;
        }
        return look.seen;
    }

    private void ask(LongSupplier call) {
        long answer;
        try {
            answer = call.getAsLong();
        } catch (IllegalArgumentException thrown) {
            answer = ARGUMENT;
        } catch (IllegalStateException thrown) {
            answer = STATE;
        } catch (RuntimeException thrown) {
            answer = OTHER;
        }
        seen.add(answer);
    }

    private static long bit(boolean value) {
        return value ? 1 : 0;
    }

    private void answers() {
        ask(x::settled);
        ask(() -> bit(x.loop()));
        for (int i = 0; i < 16; i++) {
            int e = i;
            for (int j = 0; j < 5; j++) {
                int what = j;
                ask(() -> x.state(e, what));
            }
            for (int j = 0; j < 4; j++) {
                int p = j;
                ask(() -> x.sends(e, p));
            }
            ask(() -> x.phase(e));
            ask(() -> x.traced(e));
            ask(() -> x.best(e));
        }
    }

    /** More rounds than the longest restore time, which show for how long ports were usable. */
    private void nextRounds() {
        for (int i = 0; i < 12; i++) {
            ask(() -> x.rounds(1));
            for (int j = 0; j < 16; j++) {
                int e = j;
                ask(() -> x.state(e, 0));
                ask(() -> x.state(e, 1));
            }
        }
    }

    /** What was set before is read by setting it anew. */
    private void settings() {
        ask(() -> bit(x.tracing(true)));
        for (int i = 0; i < 16; i++) {
            int e = i;
            ask(() -> x.restore(e, 0));
            ask(() -> x.command(e, 0, ClockTree.NONE));
            ask(() -> x.command(e, 1, ClockTree.NONE));
            ask(() -> bit(x.failElement(e, false)));
            for (int j = 0; j < 4; j++) {
                int p = j;
                ask(() -> x.priority(e, p, 0));
                ask(() -> bit(x.lockout(e, p, false)));
            }
        }
        for (int i = 0; i <= 24; i++) {
            int link = i;
            ask(() -> bit(x.fail(link, false)));
        }
    }

    /** Each port is forced once, so that it shows its source. */
    private void sources() {
        for (int i = 0; i < 4; i++) {
            int p = i;
            for (int j = 0; j < 16; j++) {
                int e = j;
                ask(() -> x.command(e, 0, p));
            }
            ask(() -> x.rounds(1));
            for (int j = 0; j < 16; j++) {
                int e = j;
                ask(() -> x.state(e, 0));
                ask(() -> x.state(e, 3));
                ask(() -> x.state(e, 4));
            }
        }
    }

    private void findings() {
        for (int i = 0; i <= 100; i++) {
            int k = i;
            ask(() -> x.finding(k, 0));
            ask(() -> x.finding(k, 1));
        }
    }
}
