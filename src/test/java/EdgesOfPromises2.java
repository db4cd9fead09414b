/** Promises 20 to 36: services, orders, calls, breaks, ticks, and what calls and services tell. */
final class EdgesOfPromises2 {
    private static final int BAD = DoorCalls.BAD, FULL = DoorCalls.FULL, STATE = DoorCalls.STATE, NONE = DoorCalls.NONE;
    private static final int NOTHING = 1;
    private static final int MAX = Integer.MAX_VALUE, MIN = Integer.MIN_VALUE;
    private static final int TWICE = 0, ONCE = 1, READ = 2;
    private static final int ANSWERED = 3, CANCELLED = 5, CANCEL = 6;
    /** 0 and 1 fit one another; 1 and 2 do; 0 and 2 do not; 3 and above are as 0. */
    private static final String CHAIN = "aB+1-1=0 aB+2-2";

    private final Sentences s;
    private final Due due;

    EdgesOfPromises2(Sentences s) {
        this.s = s;
        this.due = s.due;
    }

    void all() {
        versionsAndDoors();
        clashes();
        orders();
        mostPutIn();
        places();
        puttingIn();
        servicesThatWork();
        calls();
        breaks();
        pings();
        ticks();
        cancelling();
        told();
        queues();
    }

    private void versionsAndDoors() {
        s.says(20, "VERSIONS of a SERVICE, now and new: 1.", x -> {
            Make.shape(x, 0, "aB+9");
            x.door(0, 5, 0);
            due.gives(x, 1, "version", 5, 9, 0);
            due.gives(x, 1, "clash");
            due.gives(x, 1, "version", 5, 0, 9);
            due.gives(x, 0, "clash");
            due.tells(x, NONE, 0, "order");
            due.gives(x, 1, "version", 5, 0, 8);
            due.tells(x, 1, 32, "order");
            due.gives(x, 1, "version", 0, 0, 0);
            due.gives(x, 1, "version", 0, 9, 9);
            due.gives(x, 1, "clash");
        });
        s.says(20, "BAD.", x -> due.refuseAll(x, BAD, "version", new int[][] {
            {-1, 0, 0}, {6, 0, 0}, {0, -1, 0}, {0, 10, 0}, {0, 0, -1}, {0, 0, 10}, {MIN, 0, 0}, {0, MAX, 0}, {0, 0, NONE}}));
        s.says(21, "A CALLS b by a SHAPE (NONE: not): by which it did, or NONE.", x -> {
            Make.shape(x, 0, "");
            Make.shape(x, 3, "");
            due.gives(x, NONE, "door", 0, 5, 0);
            due.gives(x, NONE, "door", 5, 0, 3);
            due.gives(x, 0, "door", 0, 5, 3);
            due.gives(x, 3, "door", 0, 5, 3);
            due.gives(x, 3, "door", 0, 5, NONE);
            due.gives(x, NONE, "door", 0, 5, NONE);
            due.gives(x, 3, "door", 5, 0, NONE);
        });
        s.says(21, "BAD: a is b, too;", x -> {
            Make.shape(x, 0, "");
            due.refuseAll(x, BAD, "door", new int[][] {
                {0, 0, 0}, {5, 5, 0}, {2, 2, NONE}, {2, 2, 1}, {-1, 0, 0}, {6, 0, 0}, {0, -1, 0}, {0, 6, 0}, {0, 1, -1},
                {0, 1, 4}, {0, 1, -8}, {0, 1, -10}, {0, 1, MAX}, {MIN, 1, 0}});
        });
        s.says(21, "NOTHING: the SHAPE.", x -> {
            Make.shape(x, 0, "");
            x.door(0, 1, 0);
            due.findAll(x, NOTHING, "door", new int[][] {{0, 1, 1}, {5, 0, 3}});
            due.gives(x, 0, "door", 0, 1, 0);
        });
    }

    private void clashes() {
        s.says(22, "Pairs that do not FIT now: how many;", x -> {
            Make.shape(x, 0, CHAIN);
            due.gives(x, 0, "clash");
            int doors = 0;
            for (int a = 0; a <= 5; a++) {
                for (int b = 0; b <= 5; b++) {
                    if (a != b) {
                        x.door(a, b, 0);
                        doors++;
                    }
                }
            }
            due.is("doors", doors, 30);
            due.gives(x, 0, "clash");
            // of the pairs of three at 0 and three at 2, nine do not fit, by both their doors
            for (int a = 0; a <= 2; a++) {
                x.version(a, 2, 0);
            }
            due.gives(x, 18, "clash");
            x.version(0, 1, 2);
            due.gives(x, 12, "clash");
            // what is new does not count
            for (int a = 0; a <= 5; a++) {
                x.version(a, 1, a % 3);
            }
            due.gives(x, 0, "clash");
        });
        s.says(22, "the first (6 times a, and b) by asked() (NONE).", x -> {
            Make.shape(x, 0, CHAIN);
            due.tells(x, 0, NONE, "clash");
            x.version(5, 2, 2);
            x.door(4, 5, 0);
            due.tells(x, 1, 29, "clash");
            x.door(5, 4, 0);
            due.tells(x, 2, 29, "clash");
            x.door(4, 5, NONE);
            due.tells(x, 1, 34, "clash");
            x.version(1, 2, 2);
            x.door(1, 0, 0);
            due.tells(x, 2, 6, "clash");
            x.door(0, 1, 0);
            due.tells(x, 3, 1, "clash");
            x.version(0, 1, 1);
            due.tells(x, 1, 34, "clash");
            x.version(4, 2, 0);
            due.tells(x, 0, NONE, "clash");
        });
    }

    private void order(DoorCalls x, int most, int... services) {
        due.tells(x, services.length, most, "order");
        for (int i = 0; i < services.length; i++) {
            due.gives(x, services[i], "orderAt", i);
        }
        due.gives(x, NONE, "orderAt", services.length);
    }

    private void orders() {
        s.says(23, "AN ORDER: how many SERVICES are put in;", x -> {
            Make.shape(x, 0, CHAIN);
            order(x, 0);
            // a chain of doors, each of which wants the next one put in ahead
            for (int a = 0; a <= 5; a++) {
                x.version(a, 1, 2);
            }
            x.version(5, 0, 1);
            for (int a = 0; a < 5; a++) {
                x.door(a, 5, 0);
            }
            order(x, 63, 5, 0, 1, 2, 3, 4);
            x.version(2, 1, 1);
            order(x, 59, 5, 0, 1, 3, 4);
            // nothing is put in by it
            order(x, 59, 5, 0, 1, 3, 4);
            x.putIn(5);
            order(x, 27, 0, 1, 3, 4);
        });
        s.says(23, "NONE, if they are BARRED;", x -> {
            Make.shape(x, 0, CHAIN);
            x.version(0, 0, 2);
            x.door(1, 0, 0);
            due.tells(x, NONE, 0, "order");
            x.version(1, 0, 1);
            order(x, 3, 1, 0);
            x.version(1, 0, 2);
            due.tells(x, NONE, 0, "order");
            // what was found ahead does not stay
            x.door(1, 0, NONE);
            order(x, 3, 0, 1);
            x.door(1, 0, 0);
            due.tells(x, NONE, 0, "order");
            x.version(1, 0, 1);
            x.version(0, 1, 2);
            order(x, 3, 1, 0);
        });
        s.says(23, "STATE: some pair does not FIT now.", x -> {
            Make.shape(x, 0, CHAIN);
            x.version(0, 0, 1);
            x.version(4, 2, 1);
            due.tells(x, 2, 17, "order");
            x.door(4, 5, 0);
            due.refuses(x, STATE, "order");
            x.version(5, 1, 1);
            due.tells(x, 2, 17, "order");
        });
    }

    private void mostPutIn() {
        s.says(23, "the most that can be put in one by one (bits; of as many the least bits) by asked().", x -> {
            // of 0 and 1 either can be put in, not both; so can 4 and 5
            Make.shape(x, 0, "aS-0=0 aB+1-1 aB+2-2=0 aS+3-3");
            x.version(0, 0, 1);
            x.version(1, 2, 3);
            x.door(0, 1, 0);
            due.tells(x, NONE, 1, "order");
            x.version(4, 2, 3);
            x.version(5, 0, 1);
            x.door(4, 5, 0);
            due.tells(x, NONE, 1 + 16, "order");
            x.version(2, 0, 1);
            due.tells(x, NONE, 1 + 4 + 16, "order");
            // 0 bars two that are free of one another: the two are more
            x.door(4, 5, NONE);
            x.version(4, 2, 3);
            x.version(5, 0, 0);
            x.version(2, 0, 0);
            x.door(0, 4, 0);
            due.tells(x, NONE, 2 + 16, "order");
            // all that fit at the end, but by no way: 3 steps that must be one
            DoorCalls y = new DoorCalls();
            Make.shape(y, 0, "aB-0 bB+1");
            for (int a = 0; a <= 2; a++) {
                y.version(a, 0, 1);
            }
            y.door(0, 1, 0);
            y.door(1, 2, 0);
            due.tells(y, NONE, 0, "order");
            y.door(0, 1, NONE);
            due.tells(y, NONE, 1, "order");
            y.door(1, 2, NONE);
            due.tells(y, 3, 7, "order");
            y.door(1, 2, 0);
            due.tells(y, NONE, 1, "order");
        });
    }

    private void places() {
        s.says(24, "SERVICE i of AN ORDER; NONE: none such, or no ORDER.", x -> {
            due.gives(x, NONE, "orderAt", 0);
            Make.shape(x, 0, CHAIN);
            for (int a = 0; a <= 5; a++) {
                x.version(a, 0, 9);
            }
            for (int i = 0; i <= 5; i++) {
                due.gives(x, i, "orderAt", i);
            }
            due.giveAll(x, NONE, "orderAt", new int[][] {{6}, {7}, {MAX}});
            // it is that of now, whether order() was asked or not
            x.version(0, 0, 0);
            due.gives(x, 1, "orderAt", 0);
            due.gives(x, NONE, "orderAt", 5);
            x.version(3, 0, 2);
            x.door(3, 0, 0);
            due.giveAll(x, NONE, "orderAt", new int[][] {{0}, {1}, {5}, {MAX}});
        });
        s.says(24, "BAD: i below 0; STATE.", x -> {
            due.refuseAll(x, BAD, "orderAt", new int[][] {{-1}, {MIN}, {NONE}});
            Make.shape(x, 0, CHAIN);
            x.version(0, 2, 0);
            x.door(0, 1, 0);
            due.refuseAll(x, BAD, "orderAt", new int[][] {{-1}, {MIN}});
            due.refuseAll(x, STATE, "orderAt", new int[][] {{0}, {5}, {6}, {MAX}});
        });
    }

    private void puttingIn() {
        s.says(25, "A SERVICE is put to its new VERSION: 1.", x -> {
            Make.shape(x, 0, CHAIN);
            x.version(5, 0, 2);
            x.door(4, 0, 0);
            due.gives(x, 1, "putIn", 5);
            due.tells(x, 0, 0, "order");
            x.door(5, 0, 0);
            due.tells(x, 1, 30, "clash");
            // it mends what did not fit
            x.version(0, 0, 1);
            due.gives(x, 1, "putIn", 0);
            due.tells(x, 0, NONE, "clash");
            // its new one is the same: 1, too
            due.gives(x, 1, "putIn", 0);
            due.gives(x, 1, "putIn", 3);
        });
        s.says(25, "BAD; STATE: some pair would not FIT.", x -> {
            due.refuseAll(x, BAD, "putIn", new int[][] {{-1}, {6}, {MIN}, {MAX}});
            Make.shape(x, 0, CHAIN);
            x.version(0, 0, 2);
            x.door(1, 0, 0);
            due.refuses(x, STATE, "putIn", 0);
            due.gives(x, 1, "putIn", 1);
            // a pair of others that does not fit, and would not then
            x.version(3, 2, 2);
            x.door(3, 4, 0);
            due.refuses(x, STATE, "putIn", 1);
            due.refuses(x, STATE, "putIn", 5);
            due.refuses(x, STATE, "putIn", 0);
            due.refuses(x, BAD, "putIn", 6);
        });
    }

    private void servicesThatWork() {
        s.says(26, "HANDS, MARK, KEEP of a SERVICE: 1.", x -> {
            DigestByWords words = new DigestByWords();
            for (int a = 0; a <= 5; a++) {
                due.gives(x, 1, "service", a, 1 + a % 3, 9 - a, 99 - a);
                words.settings[a][2] = 1 + a % 3;
                words.settings[a][3] = 9 - a;
                words.settings[a][4] = 99 - a;
            }
            due.gives(x, words.of(x), "digest");
            due.gives(x, 1, "service", 5, 1, 0, 0);
            due.gives(x, 1, "service", 0, 3, 9, 99);
        });
        s.says(26, "BAD.", x -> due.refuseAll(x, BAD, "service", new int[][] {
            {-1, 1, 0, 0}, {6, 1, 0, 0}, {0, 0, 0, 0}, {0, 4, 0, 0}, {0, 1, -1, 0}, {0, 1, 10, 0}, {0, 1, 0, -1},
            {0, 1, 0, 100}, {MIN, 1, 0, 0}, {0, MAX, 0, 0}, {0, 1, MIN, 0}, {0, 1, 0, MAX}}));
    }

    private void calls() {
        s.says(27, "A CALL: its number.", x -> {
            due.gives(x, 0, "call", 0, 5, 0, 1, 1, 0);
            due.gives(x, 1, "call", 5, 0, 2, 9, 99, 5);
            due.gives(x, 2, "count", 1);
            due.gives(x, 2, "count", 2);
            x.run(100);
            due.gives(x, 2, "call", 0, 1, 1, 5, 50, 3);
            due.asks(x, 100, "told", 2, 4);
        });
        s.says(27, "BAD: from is to, too;", x -> due.refuseAll(x, BAD, "call", new int[][] {
            {0, 0, 0, 1, 1, 0}, {5, 5, 2, 9, 99, 5}, {-1, 0, 0, 1, 1, 0}, {6, 0, 0, 1, 1, 0}, {0, -1, 0, 1, 1, 0},
            {0, 6, 0, 1, 1, 0}, {0, 1, -1, 1, 1, 0}, {0, 1, 3, 1, 1, 0}, {0, 1, 0, 0, 1, 0}, {0, 1, 0, 10, 1, 0},
            {0, 1, 0, 1, 0, 0}, {0, 1, 0, 1, 100, 0}, {0, 1, 0, 1, 1, -1}, {0, 1, 0, 1, 1, 6}, {MIN, 1, 0, 1, 1, 0},
            {0, 1, 0, 1, MAX, 0}, {0, 1, 0, MIN, 1, 0}}));
        s.says(27, "FULL;", x -> {
            for (int c = 0; c < 30; c++) {
                due.gives(x, c, "call", 0, 1, 0, 1, 1, 0);
            }
            due.refuses(x, FULL, "call", 0, 1, 0, 1, 1, 0);
            due.refuses(x, BAD, "call", 0, 1, 0, 1, 100, 0);
            due.gives(x, 30, "count", 3);
        });
        s.says(27, "STATE: THE TICK and HOUR is above 9999.", x -> {
            Make.runTo(x, 9900);
            due.gives(x, 0, "call", 0, 1, 0, 1, 99, 0);
            x.tick();
            due.refuses(x, STATE, "call", 0, 1, 0, 1, 99, 0);
            due.gives(x, 1, "call", 0, 1, 0, 1, 98, 0);
            Make.runTo(x, 9998);
            due.refuses(x, STATE, "call", 0, 1, 0, 1, 2, 0);
            due.gives(x, 2, "call", 0, 1, 0, 1, 1, 0);
            x.tick();
            due.refuses(x, STATE, "call", 0, 1, 0, 1, 1, 0);
            due.refuses(x, BAD, "call", 0, 1, 0, 1, 0, 0);
        });
    }

    private void breaks() {
        s.says(28, "The LINE of two SERVICES is broken from a TICK to one (that one, too): how many breaks there are.", x -> {
            due.gives(x, 1, "breaks", 5, 0, 3, 5);
            due.gives(x, 2, "breaks", 1, 2, 0, 0);
            due.gives(x, 3, "breaks", 1, 2, 4, 4);
            int[] ofFirst = {1, 1, 0, 0, 0, 1};
            int[] ofSecond = {1, 1, 1, 0, 1, 1};
            for (int k = 0; k < 6; k++) {
                x.ping(0, 5);
                x.ping(5, 0);
                x.ping(2, 1);
                x.ping(0, 1);
                due.gives(x, 2 * ofFirst[k] + ofSecond[k] + 1, "tick");
            }
            due.gives(x, 3, "count", 5);
            // the same once more is one more
            due.gives(x, 4, "breaks", 5, 0, 3, 5);
            // a break that is over can be told, and does nothing
            due.gives(x, 5, "breaks", 0, 1, 0, 6);
            x.ping(0, 1);
            due.gives(x, 1, "tick");
            due.gives(x, 6, "breaks", 0, 1, 9999, 9999);
        });
        s.says(28, "BAD: also till below from;", x -> due.refuseAll(x, BAD, "breaks", new int[][] {
            {0, 1, 1, 0}, {0, 1, 9999, 9998}, {0, 0, 0, 0}, {5, 5, 0, 0}, {-1, 0, 0, 0}, {6, 0, 0, 0}, {0, -1, 0, 0},
            {0, 6, 0, 0}, {0, 1, -1, 0}, {0, 1, -1, -1}, {0, 1, 0, 10000}, {0, 1, 10000, 10000}, {0, 1, MIN, 0},
            {0, 1, 0, MAX}}));
        s.says(28, "FULL.", x -> {
            for (int k = 1; k <= 20; k++) {
                due.gives(x, k, "breaks", 0, 1, 1, 1);
            }
            due.refuses(x, FULL, "breaks", 2, 3, 1, 1);
            due.refuses(x, BAD, "breaks", 2, 2, 1, 1);
            x.run(2);
            due.refuses(x, FULL, "breaks", 2, 3, 5, 5);
        });
    }

    private void pings() {
        s.says(29, "A FRAME of KIND 0 is sent from a SERVICE to another one: its number.", x -> {
            due.gives(x, 0, "ping", 0, 5);
            x.call(0, 1, TWICE, 1, 50, 0);
            due.gives(x, 2, "ping", 5, 0);
            int[] facts = {0, 5, 0, 0, 0};
            for (int what = 0; what < 5; what++) {
                due.asks(x, facts[what], "frame", 2, what);
            }
            due.gives(x, 3, "tick");
            due.asks(x, 1, "frame", 2, 4);
            due.gives(x, 3, "count", 3);
        });
        s.says(29, "BAD;", x -> due.refuseAll(x, BAD, "ping", new int[][] {
            {0, 0}, {5, 5}, {-1, 0}, {6, 0}, {0, -1}, {0, 6}, {MIN, 0}, {0, MAX}}));
        s.says(29, "FULL: 100 of these.", x -> {
            // frames of other kinds are none of these
            x.call(0, 1, TWICE, 1, 50, 0);
            x.run(3);
            x.credit(0, 1);
            for (int k = 0; k < 100; k++) {
                due.gives(x, 3 + k, "ping", k % 6, (k + 1) % 6);
            }
            due.refuses(x, FULL, "ping", 0, 1);
            due.refuses(x, BAD, "ping", 1, 1);
            due.gives(x, 101, "tick");
            due.refuses(x, FULL, "ping", 0, 1);
            due.gives(x, 103, "credit", 0, 1);
            due.gives(x, 1, "call", 0, 1, 0, 1, 50, 0);
        });
    }

    private void ticks() {
        s.says(30, "A TICK: how many FRAMES were there.", x -> {
            due.gives(x, 0, "tick");
            x.breaks(0, 1, 2, 2);
            x.ping(0, 1);
            x.ping(2, 3);
            x.call(0, 4, TWICE, 1, 50, 0);
            due.gives(x, 2, "tick");
            due.gives(x, 1, "count", 4);
            due.gives(x, 0, "tick");
            due.gives(x, 1, "tick");
            due.gives(x, 0, "tick");
        });
        s.says(30, "STATE: THE TICK is 9999.", x -> {
            Make.runTo(x, 9998);
            x.ping(0, 1);
            due.gives(x, 1, "tick");
            x.ping(0, 1);
            due.refuses(x, STATE, "tick");
            due.asks(x, 0, "frame", 1, 4);
            due.gives(x, 9999, "count", 0);
        });
        s.says(31, "n TICKS (0 .. 100): how many FRAMES were there.", x -> {
            x.ping(0, 1);
            due.gives(x, 0, "run", 0);
            due.gives(x, 0, "count", 0);
            due.asks(x, 0, "frame", 0, 4);
            x.call(0, 1, TWICE, 9, 50, 0);
            due.gives(x, 2, "run", 1);
            due.gives(x, 1, "count", 0);
            due.gives(x, 1, "run", 100);
            due.gives(x, 101, "count", 0);
            // it is as so many ticks
            DoorCalls y = new DoorCalls();
            DoorCalls z = new DoorCalls();
            for (DoorCalls each : new DoorCalls[] {y, z}) {
                each.breaks(0, 1, 3, 9);
                each.call(0, 1, TWICE, 1, 60, 3);
                each.call(2, 1, ONCE, 2, 60, 3);
            }
            int came = 0;
            for (int k = 0; k < 60; k++) {
                came += y.tick();
            }
            due.gives(z, came, "run", 60);
            due.gives(z, y.digest(), "digest");
        });
        s.says(31, "BAD; STATE: THE TICK would be above 9999.", x -> {
            due.refuseAll(x, BAD, "run", new int[][] {{-1}, {101}, {MIN}, {MAX}});
            Make.runTo(x, 9900);
            due.refuses(x, STATE, "run", 100);
            due.gives(x, 9900, "count", 0);
            due.gives(x, 0, "run", 99);
            due.gives(x, 9999, "count", 0);
            due.refuses(x, STATE, "run", 1);
            due.gives(x, 0, "run", 0);
            due.refuseAll(x, BAD, "run", new int[][] {{-1}, {101}});
        });
    }

    private void cancelling() {
        s.says(32, "An OPEN CALL is CANCELLED, a CANCEL is sent: 1.", x -> {
            x.run(4);
            x.call(3, 2, TWICE, 1, 50, 5);
            due.gives(x, 1, "cancel", 0);
            due.asks(x, CANCELLED, "told", 0, 0);
            due.asks(x, 4, "told", 0, 5);
            due.gives(x, 2, "count", 3);
            int[] facts = {CANCEL, 3, 2, 4, 0};
            for (int what = 0; what < 5; what++) {
                due.asks(x, facts[what], "frame", 1, what);
            }
            due.gives(x, 5, "mark", 1, CANCEL);
            due.gives(x, 0, "count", 2);
            x.run(50);
            due.gives(x, 2, "count", 3);
            due.asks(x, 0, "told", 0, 1);
        });
        s.says(32, "BAD; STATE.", x -> {
            due.refuseAll(x, BAD, "cancel", new int[][] {{0}, {-1}, {MAX}});
            // answered, refused, late, broken, not known, cancelled
            x.service(1, 1, 0, 20);
            x.breaks(2, 3, 0, 9999);
            x.breaks(4, 5, 1, 1);
            x.call(0, 1, TWICE, 1, 50, 0);
            x.call(0, 1, TWICE, 1, 50, 0);
            x.call(2, 3, TWICE, 1, 5, 0);
            x.call(2, 3, TWICE, 1, 50, 0);
            x.call(4, 5, ONCE, 1, 50, 1);
            x.call(0, 5, TWICE, 1, 50, 0);
            x.cancel(5);
            x.run(20);
            int[] how = {3, 4, 6, 7, 8, 5};
            for (int c = 0; c < 6; c++) {
                due.asks(x, how[c], "told", c, 0);
                due.refuses(x, STATE, "cancel", c);
            }
            due.refuseAll(x, BAD, "cancel", new int[][] {{6}, {-1}, {MIN}});
        });
    }

    private void told() {
        s.says(33, "Of a CALL: 0 how it is, 1 tries so far, 2 its PURSE, 3 EFFECTS, 4 the TICK at which it was told, 5 that at which"
            + " it ended (NONE), 6 whether it waits (1), is DOING (2) at the SERVICE (0), told by asked(): 1.", x -> {
                x.run(2);
                x.breaks(0, 1, 3, 3);
                x.call(0, 1, TWICE, 2, 50, 3);
                x.call(2, 1, TWICE, 6, 50, 2);
                facts(x, 0, 0, 0, 3, 0, 2, NONE, 0);
                x.tick();
                facts(x, 1, 0, 0, 2, 0, 2, NONE, 2);
                // lost at 3, asked again at 9 and there at 10, 1 is done at 9
                Make.runTo(x, 9);
                facts(x, 0, 0, 1, 2, 0, 2, NONE, 0);
                facts(x, 1, 0, 0, 2, 1, 2, NONE, 0);
                x.call(2, 1, READ, 1, 50, 0);
                x.tick();
                facts(x, 0, 0, 1, 2, 0, 2, NONE, 2);
                facts(x, 1, ANSWERED, 0, 2, 1, 2, 10, 0);
                facts(x, 2, 0, 0, 0, 0, 9, NONE, 1);
                Make.runTo(x, 14);
                facts(x, 0, ANSWERED, 1, 2, 1, 2, 13, 0);
                facts(x, 2, ANSWERED, 0, 0, 0, 9, 14, 0);
            });
        s.says(33, "BAD.", x -> {
            due.refuses(x, BAD, "told", 0, 0);
            x.call(0, 1, TWICE, 1, 50, 0);
            due.refuseAll(x, BAD, "told", new int[][] {{1, 0}, {-1, 0}, {0, -1}, {0, 7}, {MAX, 0}, {0, MIN}});
        });
        s.says(34, "SHARES of a CALL (0 under way, 1 in the queue, 2 DOING, 3 waiting to try again).", x -> {
            // lost at 1, tries again from 1 to 7, under way, waits from 8 to 10, doing from 10 to 12, under way
            x.breaks(0, 1, 1, 1);
            x.call(0, 1, TWICE, 2, 50, 1);
            x.run(2);
            x.call(2, 1, TWICE, 7, 50, 0);
            int[][] at = {
                {3, 1, 0, 0, 2}, {7, 1, 0, 0, 6}, {8, 2, 0, 0, 6}, {9, 2, 1, 0, 6}, {10, 2, 2, 0, 6}, {11, 2, 2, 1, 6},
                {12, 2, 2, 2, 6}, {13, 3, 2, 2, 6}, {14, 3, 2, 2, 6}};
            for (int[] shares : at) {
                Make.runTo(x, shares[0]);
                for (int what = 0; what < 4; what++) {
                    due.gives(x, shares[what + 1], "where", 0, what);
                }
            }
            due.asks(x, 13, "told", 0, 5);
        });
        s.says(34, "BAD.", x -> {
            due.refuses(x, BAD, "where", 0, 0);
            x.call(0, 1, TWICE, 1, 50, 0);
            due.refuseAll(x, BAD, "where", new int[][] {{1, 0}, {-1, 0}, {0, -1}, {0, 4}, {MAX, 0}, {0, MIN}});
        });
    }

    private void facts(DoorCalls x, int c, int... facts) {
        for (int what = 0; what < 7; what++) {
            due.asks(x, facts[what], "told", c, what);
        }
    }

    private void queues() {
        s.says(35, "How many CALLS wait at a SERVICE; how many are DOING by asked().", x -> {
            for (int a = 0; a <= 5; a++) {
                due.tells(x, 0, 0, "queue", a);
            }
            x.service(5, 3, 9, 20);
            for (int c = 0; c < 12; c++) {
                x.call(0, 5, TWICE, 1 + c % 2, 50, 0);
            }
            due.tells(x, 0, 0, "queue", 5);
            x.tick();
            // nine wait at most as they come, three of which are begun
            due.tells(x, 6, 3, "queue", 5);
            due.tells(x, 0, 0, "queue", 0);
            for (int c = 0; c < 4; c++) {
                x.call(1, 5, TWICE, 9, 50, 0);
            }
            x.tick();
            due.tells(x, 7, 3, "queue", 5);
            // those of one and two ticks are done at 6, of the three of nine ticks two are begun at 5, one at 6
            int[][] later = {{4, 3, 3}, {5, 1, 3}, {6, 0, 3}, {13, 0, 3}, {14, 0, 1}, {15, 0, 0}};
            for (int[] at : later) {
                Make.runTo(x, at[0]);
                due.tells(x, at[1], at[2], "queue", 5);
            }
        });
        s.says(35, "BAD.", x -> due.refuseAll(x, BAD, "queue", new int[][] {{-1}, {6}, {MIN}, {MAX}}));
        s.says(36, "How many names a SERVICE has KEPT.", x -> {
            for (int a = 0; a <= 5; a++) {
                due.gives(x, 0, "kept", a);
            }
            x.service(0, 3, 9, 2);
            for (int c = 0; c < 6; c++) {
                x.call(5, 0, c % 3, 1, 50, 0);
            }
            x.tick();
            due.gives(x, 0, "kept", 0);
            x.tick();
            due.gives(x, 3, "kept", 0);
            x.tick();
            due.gives(x, 6, "kept", 0);
            x.tick();
            due.gives(x, 6, "kept", 0);
            due.gives(x, 0, "kept", 5);
            x.tick();
            due.gives(x, 3, "kept", 0);
            x.tick();
            due.gives(x, 0, "kept", 0);
            // a call that the caller gave up is kept, too; one that was turned away is not
            DoorCalls y = new DoorCalls();
            y.service(1, 1, 0, 20);
            y.call(0, 1, TWICE, 1, 50, 0);
            y.call(0, 1, TWICE, 1, 50, 0);
            y.tick();
            y.cancel(0);
            y.tick();
            due.gives(y, 1, "kept", 1);
        });
        s.says(36, "BAD.", x -> due.refuseAll(x, BAD, "kept", new int[][] {{-1}, {6}, {MIN}, {MAX}}));
    }
}
