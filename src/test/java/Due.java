/** Counts the answers of a test that are not the ones that are due, and ends the test with what it counted. */
final class Due {
    private final String test;
    private int looked = 0;
    private int wrong = 0;

    Due(String test) {
        this.test = test;
    }

    void is(String call, long got, long want) {
        looked++;
        if (got != want) {
            wrong++;
            System.out.println(test + ": " + call + " answered " + got + ", due is " + want);
        }
    }

    /** An answer by asked() behind one that is 1. */
    void asks(DoorCalls x, String call, long got, long want) {
        is(call, got, 1);
        is(call + ", asked()", x.asked(), want);
    }

    /** A refusal by a finding, counted once more, that changes nothing else. */
    void finds(DoorCalls x, int finding, String call, Refused refused) {
        int[] before = countsOf(x);
        State state = new State(x);
        is(call, refused.answer(), DoorCalls.FINDING);
        is(call + ", finding()", x.finding(), finding);
        for (int f = 1; f <= 5; f++) {
            is(call + ", findings(" + f + ")", x.findings(f), before[f] + (f == finding ? 1 : 0));
        }
        state.isSame(this, call, x);
    }

    /** A refusal by BAD, FULL or STATE, that changes nothing, not even the findings. */
    void refuses(DoorCalls x, int answer, String call, Refused refused) {
        int[] before = countsOf(x);
        int finding = x.finding();
        State state = new State(x);
        is(call, refused.answer(), answer);
        is(call + ", finding()", x.finding(), finding);
        for (int f = 1; f <= 5; f++) {
            is(call + ", findings(" + f + ")", x.findings(f), before[f]);
        }
        state.isSame(this, call, x);
    }

    void end() {
        System.out.println(test + ": " + looked + " answers, " + wrong + " not as due");
        if (wrong != 0) {
            System.exit(1);
        }
    }

    private static int[] countsOf(DoorCalls x) {
        int[] counts = new int[6];
        for (int f = 1; f <= 5; f++) {
            counts[f] = x.findings(f);
        }
        return counts;
    }

    interface Refused {
        long answer();
    }

    /** All that can be asked without a change. */
    private static final class State {
        private final long[] told;

        State(DoorCalls x) {
            told = tell(x);
        }

        private static long[] tell(DoorCalls x) {
            return new long[] {x.digest(), x.asked(), x.upper(), x.lower(), x.names(0), x.names(1), x.names(2)};
        }

        void isSame(Due due, String call, DoorCalls x) {
            long[] now = tell(x);
            String[] names = {"digest()", "asked()", "upper()", "lower()", "names(0)", "names(1)", "names(2)"};
            for (int k = 0; k < now.length; k++) {
                due.is(call + " is refused, " + names[k], now[k], told[k]);
            }
        }
    }
}
