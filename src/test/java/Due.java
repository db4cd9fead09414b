/** Counts the answers of a test that are not the ones that are due, and ends the test with what it counted. */
final class Due {
    private final String test;
    private String about = "";
    private int looked = 0;
    private int wrong = 0;

    Due(String test) {
        this.test = test;
    }

    /** From now on a wrong answer is told with these words ahead. */
    void about(String words) {
        about = words;
    }

    void is(String call, long got, long want) {
        looked++;
        if (got != want) {
            wrong++;
            System.out.println(test + ": " + about + call + " answered " + got + ", due is " + want);
        }
    }

    void same(String what, String got, String want) {
        is(what + " is '" + got + "', due '" + want + "'; same", got.equals(want) ? 1 : 0, 1);
    }

    /** A call, told by its name, and its answer. */
    void gives(DoorCalls x, long want, String name, int... a) {
        is(label(name, a), Answers.of(x, name, a), want);
    }

    /** Calls one behind the other that are all answered alike. */
    void giveAll(DoorCalls x, long want, String name, int[][] all) {
        for (int[] a : all) {
            gives(x, want, name, a);
        }
    }

    /** An answer by asked() behind one that is 1. */
    void asks(DoorCalls x, String call, long got, long want) {
        is(call, got, 1);
        is(call + ", asked()", x.asked(), want);
    }

    void asks(DoorCalls x, long want, String name, int... a) {
        asks(x, label(name, a), Answers.of(x, name, a), want);
    }

    /** An answer, and what asked() tells besides. */
    void tells(DoorCalls x, long answer, long asked, String name, int... a) {
        gives(x, answer, name, a);
        is(label(name, a) + ", asked()", x.asked(), asked);
    }

    /** A refusal by a finding, counted once more, that changes nothing else. */
    void finds(DoorCalls x, int finding, String call, Refused refused) {
        int[] before = countsOf(x);
        State state = new State(x);
        is(call, refused.answer(), DoorCalls.FINDING);
        is(call + ", finding()", x.finding(), finding);
        for (int f = 1; f <= 5; f++) {
            is(call + ", findings(" + f + ")", x.findings(f), before[f] + (f == finding ? 1 : 0));
        }
        state.isSame(this, call, x);
    }

    void finds(DoorCalls x, int finding, String name, int... a) {
        finds(x, finding, label(name, a), () -> Answers.of(x, name, a));
    }

    void findAll(DoorCalls x, int finding, String name, int[][] all) {
        for (int[] a : all) {
            finds(x, finding, name, a);
        }
    }

    /** A refusal by BAD, FULL or STATE, that changes nothing, not even the findings. */
    void refuses(DoorCalls x, int answer, String call, Refused refused) {
        int[] before = countsOf(x);
        int finding = x.finding();
        State state = new State(x);
        is(call, refused.answer(), answer);
        is(call + ", finding()", x.finding(), finding);
        for (int f = 1; f <= 5; f++) {
            is(call + ", findings(" + f + ")", x.findings(f), before[f]);
        }
        state.isSame(this, call, x);
    }

    void refuses(DoorCalls x, int answer, String name, int... a) {
        refuses(x, answer, label(name, a), () -> Answers.of(x, name, a));
    }

    void refuseAll(DoorCalls x, int answer, String name, int[][] all) {
        for (int[] a : all) {
            refuses(x, answer, name, a);
        }
    }

    void end() {
        System.out.println(test + ": " + looked + " answers, " + wrong + " not as due");
        if (wrong != 0) {
            System.exit(1);
        }
    }

    static String label(String name, int... a) {
        StringBuilder label = new StringBuilder(name).append('(');
        for (int k = 0; k < a.length; k++) {
            label.append(k == 0 ? "" : ", ").append(a[k]);
        }
        return label.append(')').toString();
    }

    private static int[] countsOf(DoorCalls x) {
        int[] counts = new int[6];
        for (int f = 1; f <= 5; f++) {
            counts[f] = x.findings(f);
        }
        return counts;
    }

    interface Refused {
        long answer();
    }

    /** All that can be asked without a change. */
    private static final class State {
        private final long[] told;

        State(DoorCalls x) {
            told = tell(x);
        }

        private static long[] tell(DoorCalls x) {
            return new long[] {x.digest(), x.asked(), x.upper(), x.lower(), x.names(0), x.names(1), x.names(2)};
        }

        void isSame(Due due, String call, DoorCalls x) {
            long[] now = tell(x);
            String[] names = {"digest()", "asked()", "upper()", "lower()", "names(0)", "names(1)", "names(2)"};
            for (int k = 0; k < now.length; k++) {
                due.is(call + " is refused, " + names[k], now[k], told[k]);
            }
        }
    }
}
