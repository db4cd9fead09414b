/** Promises 27, 28, 30 to 36: calls, breaks, ticks, cancelling, and what calls and services tell. */
public final class CallsTest {
    private static final Due due = new Due("CallsTest");
    private static final int NONE = DoorCalls.NONE, BAD = DoorCalls.BAD, FULL = DoorCalls.FULL, STATE = DoorCalls.STATE;
    private static final int TWICE = 0, ONCE = 1, READ = 2;
    private static final int OPEN = 0, ANSWERED = 3, REFUSED = 4, CANCELLED = 5, LATE = 6, BROKEN = 7, UNKNOWN = 8;

    public static void main(String[] args) {
        plainCall();
        callRefusals();
        breakRefusals();
        lines();
        queueAndMark();
        queueByNumbers();
        freeHands();
        tooLateAsk();
        tooLateInQueue();
        lateCaller();
        tries();
        brokenAndLate();
        laterTryOfOnce();
        doneTwice();
        keepEdges();
        keepAsItWas();
        askAgainWhileDoing();
        answeredAndAskedAgain();
        cancelling();
        ticks();
        handsTogether();
        doneAndBegun();
        fewerHands();
        due.end();
    }

    private static void told(DoorCalls x, int c, int how, int ended, int tries, int purse, int effects) {
        due.asks(x, "told(" + c + ", 0)", x.told(c, 0), how);
        due.asks(x, "told(" + c + ", 1)", x.told(c, 1), tries);
        due.asks(x, "told(" + c + ", 2)", x.told(c, 2), purse);
        due.asks(x, "told(" + c + ", 3)", x.told(c, 3), effects);
        due.asks(x, "told(" + c + ", 5)", x.told(c, 5), ended);
    }

    private static void shares(DoorCalls x, int c, int... shares) {
        for (int what = 0; what < 4; what++) {
            due.is("where(" + c + ", " + what + ")", x.where(c, what), shares[what]);
        }
    }

    private static void queue(DoorCalls x, int a, int waiting, int doing) {
        due.is("queue(" + a + ")", x.queue(a), waiting);
        due.is("queue(" + a + "), asked()", x.asked(), doing);
    }

    private static void place(DoorCalls x, int c, int place) {
        due.asks(x, "told(" + c + ", 6)", x.told(c, 6), place);
    }

    private static void plainCall() {
        DoorCalls x = new DoorCalls();
        x.run(7);
        due.is("call", x.call(0, 1, TWICE, 2, 20, 3), 0);
        told(x, 0, OPEN, NONE, 0, 3, 0);
        due.asks(x, "told(0, 4)", x.told(0, 4), 7);
        place(x, 0, 0);
        due.is("tick()", x.tick(), 1);
        place(x, 0, 2);
        queue(x, 1, 0, 1);
        due.is("tick()", x.tick(), 0);
        due.is("kept(1)", x.kept(1), 0);
        due.is("tick()", x.tick(), 0);
        told(x, 0, OPEN, NONE, 0, 3, 1);
        place(x, 0, 0);
        due.is("kept(1)", x.kept(1), 1);
        due.is("kept(0)", x.kept(0), 0);
        due.is("count(2)", x.count(2), 1);
        due.is("tick()", x.tick(), 1);
        told(x, 0, ANSWERED, 11, 0, 3, 1);
        due.is("count(2)", x.count(2), 0);
        due.is("run(5)", x.run(5), 0);
        shares(x, 0, 2, 0, 2, 0);
        due.refuses(x, BAD, "told(0, 7)", () -> x.told(0, 7));
        due.refuses(x, BAD, "told(0, -1)", () -> x.told(0, -1));
        due.refuses(x, BAD, "told(1, 0)", () -> x.told(1, 0));
        due.refuses(x, BAD, "told(-1, 0)", () -> x.told(-1, 0));
        due.refuses(x, BAD, "where(0, 4)", () -> x.where(0, 4));
        due.refuses(x, BAD, "where(0, -1)", () -> x.where(0, -1));
        due.refuses(x, BAD, "where(1, 0)", () -> x.where(1, 0));
        due.refuses(x, BAD, "where(-1, 0)", () -> x.where(-1, 0));
        due.refuses(x, BAD, "queue(6)", () -> x.queue(6));
        due.refuses(x, BAD, "queue(-1)", () -> x.queue(-1));
        due.refuses(x, BAD, "kept(6)", () -> x.kept(6));
        due.refuses(x, BAD, "kept(-1)", () -> x.kept(-1));
    }

    private static void callRefusals() {
        DoorCalls x = new DoorCalls();
        int[][] bad = {
            {0, 0, 0, 1, 1, 0}, {6, 0, 0, 1, 1, 0}, {-1, 0, 0, 1, 1, 0}, {0, 6, 0, 1, 1, 0}, {0, -1, 0, 1, 1, 0},
            {0, 1, 3, 1, 1, 0}, {0, 1, -1, 1, 1, 0}, {0, 1, 0, 0, 1, 0}, {0, 1, 0, 10, 1, 0}, {0, 1, 0, 1, 0, 0},
            {0, 1, 0, 1, 100, 0}, {0, 1, 0, 1, 1, -1}, {0, 1, 0, 1, 1, 6}};
        for (int[] b : bad) {
            due.refuses(x, BAD, "call", () -> x.call(b[0], b[1], b[2], b[3], b[4], b[5]));
        }
        for (int c = 0; c < 30; c++) {
            due.is("call", x.call(c % 5, 5, c % 3, 1 + c % 9, 99, c % 6), c);
        }
        due.refuses(x, FULL, "the call 30", () -> x.call(0, 1, 0, 1, 1, 0));
        due.refuses(x, BAD, "the call 30, and bad", () -> x.call(0, 0, 0, 1, 1, 0));
        x.run(100);
        due.refuses(x, FULL, "the call 30 later", () -> x.call(0, 1, 0, 1, 1, 0));
        for (int k = 0; k < 98; k++) {
            x.run(100);
        }
        due.refuses(x, FULL, "FULL is ahead of STATE", () -> x.call(0, 1, 0, 1, 99, 0));
    }

    private static void breakRefusals() {
        DoorCalls x = new DoorCalls();
        int[][] bad = {
            {0, 0, 1, 2}, {6, 0, 1, 2}, {-1, 0, 1, 2}, {0, 6, 1, 2}, {0, -1, 1, 2}, {0, 1, 3, 2}, {0, 1, -1, 2},
            {0, 1, 0, 10000}, {0, 1, 10000, 10000}};
        for (int[] b : bad) {
            due.refuses(x, BAD, "breaks", () -> x.breaks(b[0], b[1], b[2], b[3]));
        }
        for (int k = 0; k < 20; k++) {
            due.is("breaks", x.breaks(k % 5, 5, 9999 - k, 9999), k + 1);
        }
        due.is("count(5)", x.count(5), 20);
        due.refuses(x, FULL, "the break 21", () -> x.breaks(0, 1, 2, 2));
        due.refuses(x, BAD, "the break 21, and bad", () -> x.breaks(0, 1, 2, 1));
    }

    /** A line is that of two services whichever is told first, and is broken by the tick at which a frame is there. */
    private static void lines() {
        DoorCalls x = new DoorCalls();
        due.is("breaks(3, 2, 2, 3)", x.breaks(3, 2, 2, 3), 1);
        int[] came = {3, 1, 1, 3};
        for (int t = 0; t < 4; t++) {
            x.ping(2, 3);
            x.ping(3, 2);
            x.ping(2, 4);
            due.is("tick " + (t + 1), x.tick(), came[t]);
        }
        due.is("count(4)", x.count(4), 4);
        x.ping(0, 1);
        x.breaks(0, 1, 5, 5);
        due.is("a break told while a frame is under way", x.tick(), 0);
        x.ping(0, 1);
        x.breaks(0, 1, 0, 5);
        due.is("a break that is over", x.tick(), 1);
        x.breaks(0, 3, 7, 7);
        for (int a = 0; a < 6; a++) {
            for (int b = 0; b < 6; b++) {
                x.ping(a, b);
            }
        }
        due.is("all lines but one", x.tick(), 28);
    }

    private static void queueAndMark() {
        DoorCalls x = new DoorCalls();
        x.service(1, 1, 0, 20);
        x.call(0, 1, TWICE, 1, 9, 0);
        x.call(2, 1, TWICE, 1, 9, 0);
        x.tick();
        queue(x, 1, 0, 1);
        x.tick();
        told(x, 1, REFUSED, 2, 0, 0, 0);
        shares(x, 1, 2, 0, 0, 0);
        DoorCalls y = new DoorCalls();
        for (int c = 0; c < 5; c++) {
            y.call(0, 1, TWICE, 2, 90, 0);
        }
        y.tick();
        queue(y, 1, 2, 1);
        place(y, 2, 1);
        place(y, 3, 0);
        y.tick();
        told(y, 2, OPEN, NONE, 0, 0, 0);
        told(y, 3, REFUSED, 2, 0, 0, 0);
        told(y, 4, REFUSED, 2, 0, 0, 0);
    }

    /** A later number that came first waits behind a lower one. */
    private static void queueByNumbers() {
        DoorCalls x = new DoorCalls();
        x.service(1, 1, 9, 20);
        x.breaks(0, 1, 1, 1);
        x.call(0, 1, TWICE, 1, 90, 1);
        x.call(2, 1, TWICE, 9, 90, 0);
        x.call(3, 1, TWICE, 1, 90, 0);
        x.run(7);
        due.is("queue(1)", x.queue(1), 2);
        place(x, 0, 1);
        place(x, 2, 1);
        x.run(3);
        place(x, 0, 2);
        place(x, 2, 1);
        x.tick();
        place(x, 0, 0);
        place(x, 2, 2);
        told(x, 0, OPEN, NONE, 1, 0, 1);
        x.tick();
        told(x, 0, ANSWERED, 12, 1, 0, 1);
        shares(x, 0, 3, 3, 1, 5);
    }

    private static void freeHands() {
        DoorCalls x = new DoorCalls();
        x.service(1, 3, 0, 20);
        for (int c = 0; c < 4; c++) {
            x.call(0, 1, TWICE, 3 + c, 90, 0);
        }
        x.tick();
        queue(x, 1, 0, 3);
        x.tick();
        told(x, 3, REFUSED, 2, 0, 0, 0);
        x.tick();
        x.call(0, 1, TWICE, 1, 90, 0);
        x.tick();
        queue(x, 1, 0, 2);
        x.tick();
        told(x, 4, REFUSED, 5, 0, 0, 0);
        due.asks(x, "call 0 done as call 4 came", x.told(0, 0), ANSWERED);
    }

    private static void tooLateAsk() {
        DoorCalls x = new DoorCalls();
        x.call(0, 1, TWICE, 1, 1, 5);
        x.call(0, 2, TWICE, 1, 2, 5);
        due.is("tick()", x.tick(), 2);
        place(x, 0, 0);
        place(x, 1, 2);
        due.is("tick()", x.tick(), 1);
        told(x, 0, LATE, 2, 0, 5, 0);
        told(x, 1, OPEN, NONE, 0, 5, 1);
        due.is("no cancel is sent", x.count(3), 4);
        due.is("tick()", x.tick(), 1);
        told(x, 1, ANSWERED, 3, 0, 5, 1);
        due.is("a refusal is no piece", x.stream(0, 2), 0);
        DoorCalls y = new DoorCalls();
        y.service(0, 1, 0, 20);
        y.call(5, 0, TWICE, 9, 50, 0);
        y.call(4, 0, TWICE, 2, 2, 0);
        y.run(2);
        told(y, 1, LATE, 2, 0, 0, 0);
        due.is("too late is told ahead of too many", y.mark(2, 3), 6);
        y.run(10);
        told(y, 0, ANSWERED, 11, 0, 0, 1);
    }

    private static void tooLateInQueue() {
        DoorCalls x = new DoorCalls();
        x.call(0, 1, TWICE, 5, 20, 0);
        x.call(0, 1, TWICE, 3, 6, 0);
        x.call(0, 1, TWICE, 3, 9, 0);
        x.run(5);
        queue(x, 1, 2, 1);
        x.tick();
        queue(x, 1, 0, 1);
        place(x, 1, 0);
        place(x, 2, 2);
        due.is("ANSWER is ahead of REFUSAL", x.mark(3, 2), 0);
        due.is("REFUSAL", x.mark(4, 3), 6);
        due.is("REFUSAL's call", x.mark(4, 2), 1);
        due.is("tick()", x.tick(), 2);
        told(x, 1, LATE, 7, 0, 0, 0);
        shares(x, 1, 2, 5, 0, 0);
        due.is("no cancel is sent", x.count(3), 5);
    }

    private static void lateCaller() {
        DoorCalls x = new DoorCalls();
        x.breaks(0, 1, 0, 9999);
        x.call(0, 1, TWICE, 1, 3, 5);
        x.run(3);
        told(x, 0, OPEN, NONE, 0, 5, 0);
        x.tick();
        told(x, 0, LATE, 4, 0, 5, 0);
        due.is("count(3)", x.count(3), 2);
        due.is("the cancel's call", x.mark(1, 1), 0);
        due.is("the cancel tells LATE", x.mark(1, 6), 6);
        x.run(9);
        shares(x, 0, 1, 0, 0, 3);
        due.is("count(3) later", x.count(3), 2);
    }

    private static void tries() {
        DoorCalls x = new DoorCalls();
        x.breaks(0, 1, 0, 9999);
        x.call(0, 1, ONCE, 1, 99, 2);
        x.call(0, 1, READ, 9, 99, 5);
        int[] at = {6, 13};
        for (int k = 0; k < at.length; k++) {
            x.run(at[k] - 1 - x.count(0));
            due.asks(x, "ahead of try " + k, x.told(0, 1), k);
            x.tick();
            due.asks(x, "at try " + k, x.told(0, 1), k + 1);
            due.asks(x, "its purse", x.told(0, 2), 1 - k);
        }
        x.run(21 - x.count(0));
        told(x, 0, OPEN, NONE, 2, 0, 0);
        x.tick();
        told(x, 0, BROKEN, 22, 2, 0, 0);
        due.is("no cancel of a broken one", x.count(3), 5);
        shares(x, 0, 3, 0, 0, 19);
        // call 1 was asked at 0 and 14
        int[] later = {29, 46, 67, 96};
        for (int k = 0; k < later.length; k++) {
            x.run(later[k] - 1 - x.count(0));
            due.asks(x, "ahead of try " + (k + 1), x.told(1, 1), k + 1);
            x.tick();
            due.asks(x, "at try " + (k + 1), x.told(1, 1), k + 2);
        }
        told(x, 1, OPEN, NONE, 5, 0, 0);
        x.run(4);
        told(x, 1, LATE, 100, 5, 0, 0);
    }

    /** LATE is looked at ahead of the tries, and at the due tick itself a call may still be broken. */
    private static void brokenAndLate() {
        DoorCalls x = new DoorCalls();
        x.breaks(0, 1, 0, 9999);
        x.call(0, 1, TWICE, 1, 6, 0);
        x.call(0, 1, TWICE, 1, 5, 0);
        x.call(0, 1, TWICE, 1, 5, 1);
        x.run(6);
        told(x, 0, BROKEN, 6, 0, 0, 0);
        told(x, 1, LATE, 6, 0, 0, 0);
        told(x, 2, LATE, 6, 0, 1, 0);
    }

    private static void laterTryOfOnce() {
        DoorCalls x = new DoorCalls();
        x.breaks(0, 1, 1, 1);
        x.call(0, 1, ONCE, 1, 50, 3);
        x.call(0, 1, TWICE, 1, 50, 3);
        x.call(0, 1, READ, 1, 50, 3);
        x.run(8);
        told(x, 0, UNKNOWN, 8, 1, 2, 0);
        due.is("REFUSAL tells why", x.mark(6, 3), 8);
        x.run(20);
        due.asks(x, "told(1, 0)", x.told(1, 0), ANSWERED);
        due.asks(x, "told(2, 0)", x.told(2, 0), ANSWERED);
        due.asks(x, "told(2, 3)", x.told(2, 3), 0);
    }

    private static void doneTwice() {
        DoorCalls x = new DoorCalls();
        x.service(1, 1, 3, 0);
        x.breaks(0, 1, 3, 3);
        x.call(0, 1, TWICE, 1, 50, 1);
        x.run(2);
        due.is("kept(1) of KEEP 0", x.kept(1), 1);
        x.tick();
        due.is("kept(1) a tick later", x.kept(1), 0);
        x.run(5);
        due.is("kept(1) again", x.kept(1), 1);
        x.run(10);
        told(x, 0, ANSWERED, 9, 1, 0, 2);
        shares(x, 0, 4, 0, 2, 3);
        DoorCalls y = new DoorCalls();
        y.breaks(0, 1, 3, 3);
        y.call(0, 1, READ, 1, 50, 1);
        y.run(2);
        due.is("a READ one's name is kept", y.kept(1), 1);
        y.run(10);
        told(y, 0, ANSWERED, 8, 1, 0, 0);
    }

    /** Done at 2, asked again at 6, there at 7: KEEP 5 holds the name, KEEP 4 does not. */
    private static void keepEdges() {
        for (int sort = TWICE; sort <= READ; sort++) {
            for (int keep = 4; keep <= 5; keep++) {
                DoorCalls x = new DoorCalls();
                x.service(1, 1, 3, keep);
                x.breaks(0, 1, 3, 3);
                x.call(0, 1, sort, 1, 50, 1);
                x.run(7);
                due.is("kept(1)", x.kept(1), keep - 4);
                x.run(10);
                boolean again = keep == 4 && sort != ONCE;
                int effects = sort == READ ? 0 : again ? 2 : 1;
                told(x, 0, keep == 4 && sort == ONCE ? UNKNOWN : ANSWERED, again ? 9 : 8, 1, 0, effects);
            }
        }
    }

    private static void keepAsItWas() {
        DoorCalls x = new DoorCalls();
        x.service(1, 1, 3, 5);
        x.call(0, 1, TWICE, 1, 50, 1);
        x.run(2);
        x.service(1, 1, 3, 99);
        x.run(5);
        due.is("kept(1) up to the tick that was told", x.kept(1), 1);
        x.tick();
        due.is("kept(1) behind it", x.kept(1), 0);
    }

    private static void askAgainWhileDoing() {
        DoorCalls x = new DoorCalls();
        x.call(0, 1, ONCE, 9, 50, 0);
        x.call(0, 1, ONCE, 1, 50, 1);
        x.run(7);
        told(x, 1, OPEN, NONE, 1, 0, 0);
        place(x, 1, 1);
        queue(x, 1, 1, 1);
        due.is("no answer to an ask of one that waits", x.count(3), 3);
        x.run(10);
        told(x, 1, ANSWERED, 12, 1, 0, 1);
        DoorCalls y = new DoorCalls();
        y.breaks(0, 1, 1, 1);
        y.call(0, 1, TWICE, 9, 60, 1);
        y.run(16);
        place(y, 0, 2);
        y.run(20);
        told(y, 0, ANSWERED, 25, 1, 0, 1);
    }

    /** An ask that was sent as the work was done comes behind the answer, its name no longer kept. */
    private static void answeredAndAskedAgain() {
        DoorCalls x = new DoorCalls();
        x.service(1, 1, 9, 0);
        x.call(2, 1, TWICE, 4, 50, 0);
        x.call(0, 1, TWICE, 2, 50, 1);
        x.call(3, 1, TWICE, 9, 50, 0);
        x.run(7);
        told(x, 1, OPEN, NONE, 1, 0, 1);
        due.is("an answer and an ask", x.tick(), 2);
        told(x, 1, ANSWERED, 8, 1, 0, 1);
        place(x, 1, 1);
        x.credit(1, 4);
        x.tick();
        place(x, 1, 1);
        queue(x, 1, 1, 1);
        due.is("stream(1, 0)", x.stream(1, 0), 4);
        x.run(10);
        told(x, 1, ANSWERED, 8, 1, 0, 2);
        shares(x, 1, 2, 4, 2, 0);
    }

    private static void cancelling() {
        DoorCalls x = new DoorCalls();
        x.call(0, 1, TWICE, 9, 50, 0);
        x.call(0, 1, TWICE, 1, 50, 0);
        x.call(0, 1, TWICE, 1, 50, 0);
        x.run(2);
        due.is("cancel(1)", x.cancel(1), 1);
        due.is("cancel(0)", x.cancel(0), 1);
        told(x, 1, CANCELLED, 2, 0, 0, 0);
        place(x, 1, 1);
        due.is("the cancel's call", x.mark(3, 1), 1);
        due.is("the cancel tells CANCELLED", x.mark(3, 6), 5);
        due.is("count(2)", x.count(2), 1);
        due.is("tick()", x.tick(), 2);
        queue(x, 1, 1, 1);
        place(x, 1, 0);
        place(x, 0, 2);
        x.run(10);
        told(x, 0, CANCELLED, 2, 0, 0, 1);
        told(x, 1, CANCELLED, 2, 0, 0, 0);
        told(x, 2, BROKEN, 6, 0, 0, 1);
        shares(x, 0, 1, 0, 1, 0);
        due.refuses(x, STATE, "cancel(0)", () -> x.cancel(0));
        due.refuses(x, STATE, "cancel(2)", () -> x.cancel(2));
        due.refuses(x, BAD, "cancel(3)", () -> x.cancel(3));
        due.refuses(x, BAD, "cancel(-1)", () -> x.cancel(-1));
        DoorCalls y = new DoorCalls();
        y.breaks(0, 1, 3, 3);
        y.call(2, 1, TWICE, 3, 50, 0);
        y.call(0, 1, TWICE, 1, 50, 0);
        y.run(2);
        y.cancel(1);
        y.run(10);
        told(y, 1, CANCELLED, 2, 0, 0, 1);
    }

    private static void ticks() {
        DoorCalls x = new DoorCalls();
        due.is("run(0)", x.run(0), 0);
        due.is("count(0)", x.count(0), 0);
        due.refuses(x, BAD, "run(101)", () -> x.run(101));
        due.refuses(x, BAD, "run(-1)", () -> x.run(-1));
        for (int k = 0; k < 99; k++) {
            x.run(100);
        }
        due.refuses(x, STATE, "run(100)", () -> x.run(100));
        due.is("a call up to 9999", x.call(0, 1, TWICE, 1, 99, 0), 0);
        due.is("run(95)", x.run(95), 2);
        due.refuses(x, STATE, "a call up to 10000", () -> x.call(0, 1, TWICE, 1, 5, 0));
        due.is("a call up to 9999", x.call(0, 1, TWICE, 1, 4, 0), 1);
        due.is("run(4)", x.run(4), 2);
        due.is("count(0)", x.count(0), 9999);
        due.is("run(0)", x.run(0), 0);
        due.refuses(x, STATE, "tick()", () -> x.tick());
        due.refuses(x, STATE, "run(1)", () -> x.run(1));
        due.refuses(x, BAD, "run(101)", () -> x.run(101));
    }

    /** What is done at one tick answers by the services' numbers, then by the calls'. */
    private static void handsTogether() {
        DoorCalls x = new DoorCalls();
        x.service(1, 3, 3, 20);
        x.call(0, 2, TWICE, 3, 50, 0);
        x.call(0, 1, TWICE, 2, 50, 0);
        x.tick();
        x.call(0, 1, TWICE, 1, 50, 0);
        x.run(2);
        due.is("two answers", x.count(3), 5);
        due.is("call 1 first", x.mark(3, 2), 1);
        due.is("call 2 then", x.mark(4, 2), 2);
        x.tick();
        due.is("call 0 a tick later", x.mark(5, 2), 0);
        DoorCalls y = new DoorCalls();
        y.call(0, 5, TWICE, 1, 50, 0);
        y.call(0, 3, TWICE, 1, 50, 0);
        y.run(2);
        due.is("service 3 first", y.mark(2, 2), 1);
        due.is("service 5 then", y.mark(3, 2), 0);
    }

    private static void doneAndBegun() {
        DoorCalls x = new DoorCalls();
        x.call(0, 1, TWICE, 1, 50, 0);
        x.call(0, 1, TWICE, 2, 50, 0);
        x.run(2);
        place(x, 0, 0);
        place(x, 1, 2);
        queue(x, 1, 0, 1);
        x.run(3);
        told(x, 1, ANSWERED, 5, 0, 0, 1);
        shares(x, 1, 2, 1, 2, 0);
    }

    private static void fewerHands() {
        DoorCalls x = new DoorCalls();
        x.service(1, 3, 9, 20);
        for (int c = 0; c < 6; c++) {
            x.call(0, 1, TWICE, c < 3 ? 2 + c : 1, 90, 0);
        }
        x.tick();
        queue(x, 1, 3, 3);
        x.service(1, 1, 1, 20);
        x.call(0, 1, TWICE, 1, 90, 0);
        x.tick();
        queue(x, 1, 3, 3);
        x.tick();
        due.asks(x, "more wait than the mark tells", x.told(6, 0), REFUSED);
        queue(x, 1, 3, 2);
        x.tick();
        queue(x, 1, 3, 1);
        x.tick();
        queue(x, 1, 2, 1);
        place(x, 3, 2);
    }
}
