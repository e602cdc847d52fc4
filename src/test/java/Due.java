/** Counts the answers that are not the ones that are due. */
final class Due {
    interface Call {
        void run();
    }

    private int wrong = 0;

    void is(String call, long got, long want) {
        if (got != want) {
            say(call + " answered " + got + ", due is " + want);
        }
    }

    void is(String call, boolean got, boolean want) {
        if (got != want) {
            say(call + " answered " + got + ", due is " + want);
        }
    }

    /** The call must throw an IllegalArgumentException. */
    void badArgument(String call, Call body) {
        mustThrow(call, body, IllegalArgumentException.class);
    }

    /** The call must throw an IllegalStateException. */
    void badState(String call, Call body) {
        mustThrow(call, body, IllegalStateException.class);
    }

    private void mustThrow(String call, Call body, Class<? extends Exception> want) {
        try {
            body.run();
        } catch (RuntimeException thrown) {
            if (thrown.getClass() != want) {
                say(call + " threw " + thrown + ", due is " + want.getSimpleName());
            }
            return;
        }
        say(call + " threw nothing, due is " + want.getSimpleName());
    }

    void say(String what) {
        wrong++;
        if (wrong <= 40) {
            System.out.println(what);
        }
    }

    boolean isClean() {
        return wrong == 0;
    }

    void end() {
        System.out.println(wrong == 0 ? "all answers are as due" : wrong + " answers are not as due");
        if (wrong != 0) {
            System.exit(1);
        }
    }
}
