/** Promises 29 and 37 to 42: pings, frames, what they tell, streams, and the mean. */
public final class FramesTest {
    private static final Due due = new Due("FramesTest");
    private static final int BAD = DoorCalls.BAD, FULL = DoorCalls.FULL, STATE = DoorCalls.STATE;
    private static final int UNLIKE = 3, NOUGHT = 4;

    public static void main(String[] args) {
        pings();
        frameFacts();
        marksOfAllKinds();
        streams();
        streamStates();
        streamLimits();
        lostStreams();
        means();
        manyFrames();
        due.end();
    }

    private static void frame(DoorCalls x, int f, int... facts) {
        for (int what = 0; what < 5; what++) {
            due.asks(x, "frame(" + f + ", " + what + ")", x.frame(f, what), facts[what]);
        }
    }

    /** What a frame tells as each of the kinds 1 to 6; -3: it is not of that kind. */
    private static void marks(DoorCalls x, int f, int... tells) {
        for (int kind = 1; kind <= 6; kind++) {
            int k = kind;
            String call = "mark(" + f + ", " + kind + ")";
            if (tells[kind - 1] == DoorCalls.FINDING) {
                due.finds(x, UNLIKE, call, () -> x.mark(f, k));
            } else {
                due.is(call, x.mark(f, kind), tells[kind - 1]);
            }
        }
        due.refuses(x, BAD, "mark of kind 0", () -> x.mark(f, 0));
        due.refuses(x, BAD, "mark of kind 7", () -> x.mark(f, 7));
        due.refuses(x, BAD, "mark of kind -1", () -> x.mark(f, -1));
    }

    private static void pings() {
        DoorCalls x = new DoorCalls();
        x.call(0, 1, 0, 9, 99, 0);
        due.is("ping(2, 5)", x.ping(2, 5), 1);
        frame(x, 1, 0, 2, 5, 0, 0);
        due.is("tick()", x.tick(), 2);
        frame(x, 1, 0, 2, 5, 0, 1);
        marks(x, 1, -3, -3, -3, -3, -3, -3);
        int[][] bad = {{0, 0}, {6, 0}, {-1, 0}, {0, 6}, {0, -1}};
        for (int[] b : bad) {
            due.refuses(x, BAD, "ping", () -> x.ping(b[0], b[1]));
        }
        for (int k = 1; k < 100; k++) {
            due.is("ping(0, 1)", x.ping(0, 1), k + 1);
        }
        due.refuses(x, FULL, "the ping 101", () -> x.ping(0, 1));
        due.refuses(x, BAD, "the ping 101, and bad", () -> x.ping(0, 0));
        due.is("tick()", x.tick(), 99);
        due.refuses(x, FULL, "the ping 101 later", () -> x.ping(0, 1));
    }

    private static void frameFacts() {
        DoorCalls x = new DoorCalls();
        x.run(3);
        x.breaks(4, 2, 4, 4);
        x.ping(2, 4);
        x.call(4, 2, 0, 1, 50, 1);
        x.call(4, 3, 0, 1, 50, 1);
        frame(x, 0, 0, 2, 4, 3, 0);
        frame(x, 1, 1, 4, 2, 3, 0);
        due.is("tick()", x.tick(), 1);
        frame(x, 0, 0, 2, 4, 3, 2);
        frame(x, 1, 1, 4, 2, 3, 2);
        frame(x, 2, 1, 4, 3, 3, 1);
        x.tick();
        frame(x, 3, 2, 3, 4, 5, 0);
        due.is("count(4)", x.count(4), 2);
        due.refuses(x, BAD, "frame(4, 0)", () -> x.frame(4, 0));
        due.refuses(x, BAD, "frame(-1, 0)", () -> x.frame(-1, 0));
        due.refuses(x, BAD, "frame(0, 5)", () -> x.frame(0, 5));
        due.refuses(x, BAD, "frame(0, -1)", () -> x.frame(0, -1));
        due.refuses(x, BAD, "mark(4, 1)", () -> x.mark(4, 1));
        due.refuses(x, BAD, "mark(-1, 1)", () -> x.mark(-1, 1));
    }

    private static void marksOfAllKinds() {
        DoorCalls x = new DoorCalls();
        x.service(1, 1, 0, 20);
        x.call(0, 1, 0, 1, 50, 1);
        x.call(2, 1, 0, 1, 50, 1);
        x.tick();
        x.run(2);
        due.is("credit(0, 7)", x.credit(0, 7), 4);
        x.tick();
        due.is("piece(0)", x.piece(0), 5);
        due.is("piece(0)", x.piece(0), 6);
        x.call(2, 1, 0, 1, 50, 1);
        x.cancel(2);
        marks(x, 1, 1, -3, -3, -3, -3, -3);
        marks(x, 2, -3, 1, 4, -3, -3, -3);
        marks(x, 3, -3, 0, -3, -3, -3, -3);
        marks(x, 4, -3, -3, -3, -3, 7, -3);
        marks(x, 6, -3, -3, -3, 2, -3, -3);
        marks(x, 8, 2, -3, -3, -3, -3, 5);
        frame(x, 2, 3, 1, 2, 1, 1);
        frame(x, 3, 2, 1, 0, 2, 1);
        frame(x, 4, 5, 0, 1, 3, 1);
        frame(x, 5, 4, 1, 0, 4, 0);
        frame(x, 8, 6, 2, 1, 4, 0);
    }

    private static DoorCalls answered() {
        DoorCalls x = new DoorCalls();
        x.call(0, 1, 0, 1, 50, 0);
        x.run(3);
        return x;
    }

    private static void stream(DoorCalls x, int c, int credit, int sent, int came) {
        due.is("stream(" + c + ", 0)", x.stream(c, 0), credit);
        due.is("stream(" + c + ", 1)", x.stream(c, 1), sent);
        due.is("stream(" + c + ", 2)", x.stream(c, 2), came);
    }

    private static void streams() {
        DoorCalls x = answered();
        stream(x, 0, 0, 0, 0);
        due.refuses(x, STATE, "piece(0) without credit", () -> x.piece(0));
        due.is("credit(0, 1)", x.credit(0, 1), 2);
        due.is("credit(0, 1)", x.credit(0, 1), 3);
        due.refuses(x, STATE, "piece(0) as credit is under way", () -> x.piece(0));
        due.is("tick()", x.tick(), 2);
        stream(x, 0, 2, 0, 0);
        due.is("piece(0)", x.piece(0), 4);
        due.is("piece(0)", x.piece(0), 5);
        due.refuses(x, STATE, "piece(0) without credit left", () -> x.piece(0));
        stream(x, 0, 2, 2, 0);
        due.is("tick()", x.tick(), 2);
        stream(x, 0, 2, 2, 2);
        due.refuses(x, STATE, "piece(0) without credit left", () -> x.piece(0));
        due.is("credit(0, 9)", x.credit(0, 9), 6);
        x.tick();
        due.is("piece(0)", x.piece(0), 7);
        due.is("the third one", x.mark(7, 4), 3);
        stream(x, 0, 11, 3, 2);
        due.asks(x, "shares stay", x.told(0, 5), 3);
        due.is("where(0, 0) stays", x.where(0, 0), 2);
        due.refuses(x, BAD, "stream(0, 3)", () -> x.stream(0, 3));
        due.refuses(x, BAD, "stream(0, -1)", () -> x.stream(0, -1));
        due.refuses(x, BAD, "stream(1, 0)", () -> x.stream(1, 0));
        due.refuses(x, BAD, "stream(-1, 0)", () -> x.stream(-1, 0));
        due.refuses(x, BAD, "credit(0, 0)", () -> x.credit(0, 0));
        due.refuses(x, BAD, "credit(0, 10)", () -> x.credit(0, 10));
        due.refuses(x, BAD, "credit(1, 1)", () -> x.credit(1, 1));
        due.refuses(x, BAD, "credit(-1, 1)", () -> x.credit(-1, 1));
        due.refuses(x, BAD, "piece(1)", () -> x.piece(1));
        due.refuses(x, BAD, "piece(-1)", () -> x.piece(-1));
    }

    private static void streamStates() {
        DoorCalls x = new DoorCalls();
        x.call(0, 1, 0, 1, 50, 0);
        x.call(0, 1, 0, 1, 50, 0);
        x.cancel(1);
        for (int c = 0; c < 2; c++) {
            int n = c;
            due.refuses(x, STATE, "credit(" + c + ", 1)", () -> x.credit(n, 1));
            due.refuses(x, STATE, "piece(" + c + ")", () -> x.piece(n));
            stream(x, c, 0, 0, 0);
        }
    }

    private static void streamLimits() {
        DoorCalls x = answered();
        x.call(0, 1, 0, 9, 50, 0);
        for (int k = 0; k < 100; k++) {
            due.is("credit(0, 9)", x.credit(0, 9), k + 3);
        }
        due.is("tick()", x.tick(), 101);
        stream(x, 0, 900, 0, 0);
        for (int k = 0; k < 100; k++) {
            due.is("piece(0)", x.piece(0), k + 103);
        }
        due.refuses(x, FULL, "credit 201", () -> x.credit(0, 1));
        due.refuses(x, FULL, "piece 201", () -> x.piece(0));
        due.refuses(x, FULL, "FULL is ahead of STATE", () -> x.credit(1, 1));
        due.refuses(x, FULL, "FULL is ahead of STATE", () -> x.piece(1));
        due.refuses(x, BAD, "BAD is ahead of FULL", () -> x.credit(0, 0));
        due.refuses(x, BAD, "BAD is ahead of FULL", () -> x.piece(2));
        due.is("tick()", x.tick(), 100);
        stream(x, 0, 900, 100, 100);
    }

    private static void lostStreams() {
        DoorCalls x = answered();
        x.breaks(1, 0, 4, 4);
        x.breaks(1, 0, 6, 6);
        x.credit(0, 3);
        due.is("lost credit", x.tick(), 0);
        stream(x, 0, 0, 0, 0);
        x.credit(0, 2);
        x.tick();
        x.piece(0);
        due.is("a lost piece", x.tick(), 0);
        stream(x, 0, 2, 1, 0);
        x.piece(0);
        due.is("a piece", x.tick(), 1);
        stream(x, 0, 2, 2, 1);
    }

    private static void means() {
        DoorCalls x = new DoorCalls();
        x.run(9);
        due.finds(x, NOUGHT, "mean()", () -> x.mean());
        x.call(0, 1, 0, 1, 50, 0);
        x.call(2, 3, 0, 2, 50, 0);
        x.call(4, 5, 0, 9, 50, 0);
        x.call(4, 3, 0, 9, 50, 0);
        x.cancel(3);
        due.finds(x, NOUGHT, "mean() of open ones", () -> x.mean());
        x.run(3);
        due.is("mean() of one", x.mean(), 1);
        due.is("upper()", x.upper(), 3);
        due.is("lower()", x.lower(), 1);
        x.tick();
        due.is("upper() stays", x.upper(), 3);
        due.is("mean() of two", x.mean(), 2);
        due.is("upper()", x.upper(), 7);
        due.is("lower()", x.lower(), 2);
        x.run(10);
        due.is("mean() of three", x.mean(), 3);
        due.is("upper()", x.upper(), 6);
        due.is("lower()", x.lower(), 1);
    }

    /**
     * Nearly as many frames as there can be: 30 calls over three lines, each asked six times and answered as often,
     * the answers lost but for the last of ten calls, a cancel of the others, and all pings and credits.
     */
    private static void manyFrames() {
        DoorCalls x = new DoorCalls();
        int[][] lost = {{3, 4}, {8, 8}, {15, 15}, {24, 24}, {37, 37}, {58, 58}};
        for (int a = 0; a < 6; a++) {
            x.service(a, 3, 9, 99);
            for (int[] b : lost) {
                if (a % 2 == 0 && !(a == 4 && b[0] == 58)) {
                    x.breaks(a, a + 1, b[0], b[1]);
                }
            }
        }
        for (int c = 0; c < 30; c++) {
            int a = c % 6;
            due.is("call", x.call(a, a ^ 1, 0, 1, 60, 5), c);
        }
        x.run(70);
        due.is("all ended", x.count(2), 0);
        due.is("frames of calls", x.count(3), 30 * 12 + 20);
        due.is("ten are answered", x.mean(), 10);
        for (int k = 0; k < 200; k++) {
            due.is("credit(4, 9)", x.credit(4, 9), 380 + k);
        }
        for (int k = 0; k < 100; k++) {
            due.is("ping(0, 1)", x.ping(0, 1), 580 + k);
        }
        due.is("all come", x.tick(), 300);
        due.is("stream(4, 0)", x.stream(4, 0), 1800);
        due.is("count(3)", x.count(3), 680);
        frame(x, 679, 0, 0, 1, 70, 1);
    }
}
