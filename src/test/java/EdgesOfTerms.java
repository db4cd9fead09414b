/** The document's 'Terms': the order of refusals, the findings, fractions and sets. */
final class EdgesOfTerms {
    private static final int BAD = DoorCalls.BAD, FULL = DoorCalls.FULL, STATE = DoorCalls.STATE;
    private static final int NOTHING = 1, BEYOND = 2, UNLIKE = 3, NOUGHT = 4, SIZE = 5;
    private static final int LAST_TICK = 9999;

    private final Sentences s;
    private final Due due;

    EdgesOfTerms(Sentences s) {
        this.s = s;
        this.due = s.due;
    }

    void all() {
        refusals();
        findings();
        fractionsAndSets();
    }

    private void refusals() {
        s.says(0, "Refused is, the first of these that fits, in this order: BAD -1 (a number that is none, or not as told),"
            + " FULL -2, STATE -4 (not now), FINDING -3 (finding() tells which), unless a call says so otherwise.", x -> {
                due.is("BAD", DoorCalls.BAD, -1);
                due.is("FULL", DoorCalls.FULL, -2);
                due.is("STATE", DoorCalls.STATE, -4);
                due.is("FINDING", DoorCalls.FINDING, -3);
                orderOfCall(x);
                orderOfStreams(new DoorCalls());
                orderOfOthers(new DoorCalls());
            });
        s.says(0, "NONE -9.", x -> due.is("NONE", DoorCalls.NONE, -9));
        s.says(0, "What is refused changes nothing but finding(), findings().", x -> refusedOnes(x, new DoorCalls()));
    }

    private void orderOfCall(DoorCalls x) {
        Make.runTo(x, LAST_TICK - 1);
        for (int c = 0; c < 30; c++) {
            due.gives(x, c, "call", 0, 1, 0, 1, 1, 0);
        }
        due.refuses(x, BAD, "call", 0, 0, 0, 1, 99, 0);
        due.refuses(x, FULL, "call", 0, 1, 0, 1, 99, 0);
        due.refuses(x, FULL, "call", 0, 1, 0, 1, 1, 0);
        DoorCalls y = new DoorCalls();
        Make.runTo(y, LAST_TICK);
        due.refuses(y, BAD, "call", 0, 1, 0, 10, 99, 0);
        due.refuses(y, STATE, "call", 0, 1, 0, 9, 99, 0);
        due.refuses(y, BAD, "run", 101);
        due.refuses(y, STATE, "run", 100);
    }

    private void orderOfStreams(DoorCalls x) {
        Make.answered(x);
        x.call(0, 1, 0, 9, 50, 0);
        due.refuses(x, BAD, "credit", 1, 10);
        due.refuses(x, STATE, "credit", 1, 9);
        due.refuses(x, BAD, "piece", 2);
        due.refuses(x, STATE, "piece", 1);
        for (int k = 0; k < 200; k++) {
            x.credit(0, 1);
        }
        due.refuses(x, BAD, "credit", 1, 10);
        due.refuses(x, FULL, "credit", 1, 9);
        due.refuses(x, FULL, "credit", 0, 9);
        due.refuses(x, BAD, "piece", 2);
        due.refuses(x, FULL, "piece", 1);
        due.refuses(x, FULL, "piece", 0);
    }

    private void orderOfOthers(DoorCalls x) {
        due.refuses(x, BAD, "row", 6, -1);
        due.finds(x, SIZE, "row", 5, -1);
        Make.text(x, 1, "a");
        due.refuses(x, BAD, "shape", 4, 1);
        due.finds(x, NOTHING, "shape", 0, 0);
        due.refuses(x, STATE, "shape", 0, 1);
        due.refuses(x, BAD, "door", 0, 0, 0);
        due.finds(x, NOTHING, "door", 0, 1, 0);
        for (int k = 0; k < 20; k++) {
            x.breaks(0, 1, 1, 1);
        }
        due.refuses(x, BAD, "breaks", 0, 1, 2, 1);
        due.refuses(x, FULL, "breaks", 0, 1, 2, 2);
        for (int k = 0; k < 100; k++) {
            x.ping(0, 1);
        }
        due.refuses(x, BAD, "ping", 3, 3);
        due.refuses(x, FULL, "ping", 3, 4);
    }

    /** Two objects alike, one of which is asked what it refuses: all that follows is alike but for the findings. */
    private void refusedOnes(DoorCalls x, DoorCalls twin) {
        for (DoorCalls each : new DoorCalls[] {x, twin}) {
            stock(each);
        }
        for (String refused : REFUSED) {
            long answer = made(x, refused);
            due.is(refused + " is refused", answer <= BAD && answer >= STATE ? 1 : 0, 1);
            due.is("digest() behind " + refused, x.digest(), twin.digest());
        }
        for (String follows : FOLLOWS) {
            due.is(follows, made(x, follows), made(twin, follows));
            due.is("digest() behind " + follows, x.digest(), twin.digest());
        }
        due.is("finding()", x.finding(), UNLIKE);
        due.is("finding() of the twin", twin.finding(), 0);
    }

    /** A call told by its name and its numbers. */
    private static long made(DoorCalls x, String call) {
        String[] words = call.split(" ");
        int[] a = new int[words.length - 1];
        for (int k = 0; k < a.length; k++) {
            a[k] = Integer.parseInt(words[k + 1]);
        }
        return Answers.of(x, words[0], a);
    }

    private static final String[] REFUSED = {
        "row 0 61", "row 0 -1", "row 6 0", "lay 0 60 1", "lay 1 0 1", "lay -1 0 1", "at 0 60", "at 1 0", "at 6 0",
        "tear 1", "tear 6", "copy 0 0 0 1 60", "copy 0 0 1 0 1", "copy 0 0 0 0 -1", "copy 6 0 0 0 1",
        "text 0 61", "text 0 -1", "text 6 0", "put 0 7 1", "put 3 0 1", "put 6 0 1", "size 3", "size 6", "fault 3",
        "fault 6", "shape 0 2", "shape 0 3", "shape 4 0", "item 0 2 0", "item 1 0 0", "item 0 0 6", "fields 1 0",
        "fields 0 10", "write 0 0 0 0", "write 0 0 2 0", "write 1 0 0 0", "write 0 10 0 0", "read 1 0 0 0",
        "read 0 0 3 0", "read 0 10 0 0", "names 3", "handOn 3", "handOn 6", "handOn 4", "fits 1 0 0", "fits 0 10 0",
        "unlike 1 0 0", "unlike 0 0 10", "version 0 10 0", "door 0 1 1", "door 0 0 0", "door 0 1 4", "orderAt -1",
        "putIn 6", "putIn 2", "service 0 4 0 0", "call 0 0 0 1 1 0", "call 0 1 0 1 1 6", "breaks 0 1 2 1",
        "ping 0 0", "run 101", "run -1", "cancel 0", "cancel 9", "told 0 7", "where 0 4", "queue 6", "kept 6",
        "frame 99 0", "frame 0 5", "mark 0 0", "credit 1 1", "credit 0 10", "piece 1", "piece 9", "stream 0 3",
        "count 9", "findings 6", "mark 0 2"};

    private static final String[] FOLLOWS = {
        "names 0", "names 1", "names 2", "asked", "upper", "lower", "handOn 0", "orderAt 0", "orderAt 1", "order",
        "asked", "clash", "piece 0", "credit 0 3", "ping 3 4", "tick", "call 2 1 0 3 30 2", "run 9", "piece 0",
        "stream 0 0", "run 40", "mean", "upper", "lower", "read 0 0 2 3", "read 0 0 1 3", "write 0 0 3 4", "kept 1"};

    private static void stock(DoorCalls x) {
        x.row(0, 60);
        x.lay(0, 0, 7);
        Make.shape(x, 0, "aB bS=3+1");
        Make.bytes(x, 1, 0, 9, 5, 200);
        x.read(0, 0, 1, 4);
        Make.text(x, 0, "aB bS=3");
        Make.text(x, 2, "aB bS=+");
        x.text(4, 60);
        Make.row(x, 2, 256);
        x.version(2, 0, 1);
        x.version(3, 0, 1);
        x.version(4, 9, 9);
        Make.shape(x, 2, "aB+1-8 bB+9=1");
        x.door(2, 4, 2);
        Make.answered(x);
        x.call(0, 1, 1, 9, 40, 2);
        x.breaks(0, 1, 30, 40);
        x.credit(0, 2);
        x.tick();
        x.mean();
        x.at(0, 0);
    }

    private void findings() {
        s.says(0, "FINDINGS: 1 NOTHING (a ROW, a TEXT, a SHAPE that is missing),", x -> {
            due.finds(x, NOTHING, "at", 0, 0);
            due.finds(x, NOTHING, "size", 0);
            due.finds(x, NOTHING, "fields", 0, 0);
        });
        s.says(0, "2 BEYOND (a place that there is not; not all has room),", x -> {
            x.row(0, 60);
            x.text(0, 60);
            due.finds(x, BEYOND, "at", 0, 60);
            due.finds(x, BEYOND, "put", 0, 60, 1);
            Make.shape(x, 0, "");
            Make.bytes(x, 1, 0, 1);
            x.read(0, 0, 1, 1);
            due.finds(x, BEYOND, "handOn", 0);
        });
        s.says(0, "3 UNLIKE (a FRAME of another KIND; a number that is none),", x -> {
            x.ping(0, 1);
            due.finds(x, UNLIKE, "mark", 0, 1);
            Make.shape(x, 0, "aB");
            Make.row(x, 0, 256);
            due.finds(x, UNLIKE, "write", 0, 0, 0, 0);
        });
        s.says(0, "4 NOUGHT (shared among none),", x -> due.finds(x, NOUGHT, "mean"));
        s.says(0, "5 SIZE (fewer than none; not as many as due).", x -> {
            due.finds(x, SIZE, "row", 0, -1);
            due.finds(x, SIZE, "text", 0, -1);
            Make.shape(x, 0, "aB");
            x.row(0, 0);
            due.finds(x, SIZE, "write", 0, 0, 0, 0);
            x.row(0, 2);
            due.finds(x, SIZE, "write", 0, 0, 0, 0);
        });
    }

    private void fractionsAndSets() {
        s.says(0, "Fractions are told by upper() and lower(), in lowest terms, the lower number above 0 (0 by 1).", x -> {
            due.gives(x, 0, "upper");
            due.gives(x, 1, "lower");
            // 3, 3 and 6 ticks are 12 by 3, which is 4 by 1
            x.call(0, 1, 0, 1, 50, 0);
            x.call(0, 2, 0, 1, 50, 0);
            x.call(0, 3, 0, 4, 50, 0);
            x.run(6);
            due.gives(x, 3, "mean");
            due.gives(x, 4, "upper");
            due.gives(x, 1, "lower");
            // with 6 more it is 18 by 4
            x.call(0, 1, 0, 4, 50, 0);
            x.run(6);
            due.gives(x, 4, "mean");
            due.gives(x, 9, "upper");
            due.gives(x, 2, "lower");
        });
        s.says(0, "Sets are told by bits.", x -> {
            Make.shape(x, 0, "aB pB bB=1 oB=1");
            Make.bytes(x, 0, 15, 1, 2, 1, 0, 1, 13, 1);
            due.gives(x, DoorCalls.NONE, "read", 0, 0, 0, 0);
            due.gives(x, 1 + (1 << 15), "names", 0);
            due.gives(x, (1 << 2) + (1 << 13), "names", 1);
            due.gives(x, (1 << 1) + (1 << 14), "names", 2);
            x.version(0, 0, 1);
            x.version(5, 0, 1);
            due.tells(x, 2, 33, "order");
        });
    }
}
