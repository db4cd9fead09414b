/** The document's part 3: the tick, services that work, calls, frames, asks, shares and streams. */
final class EdgesOfTicks {
    private static final int BAD = DoorCalls.BAD, FULL = DoorCalls.FULL, STATE = DoorCalls.STATE, NONE = DoorCalls.NONE;
    private static final int TWICE = 0, ONCE = 1, READ = 2;
    private static final int OPEN = 0, ANSWERED = 3, REFUSED = 4, CANCELLED = 5, LATE = 6, BROKEN = 7, UNKNOWN = 8;
    private static final int HOW = 0, TRIES = 1, PURSE = 2, EFFECTS = 3, ENDED = 5, PLACE = 6;
    private static final int AWAY = 0, WAITS = 1, DOING = 2;
    private static final int PING = 0, ASK = 1, ANSWER = 2, REFUSAL = 3, PIECE = 4, CREDIT = 5, CANCEL = 6;
    private static final int UNLIKE = 3;

    private final Sentences s;
    private final Due due;

    EdgesOfTicks(Sentences s) {
        this.s = s;
        this.due = s.due;
    }

    void all() {
        tickAndServices();
        calls();
        frames();
        stepsOfATick();
        callsThatWait();
        asks();
        cancelsAndAnswers();
        shares();
        streams();
    }

    private void ended(DoorCalls x, int c, int how, int tick) {
        due.asks(x, how, "told", c, HOW);
        due.asks(x, tick, "told", c, ENDED);
    }

    private void frame(DoorCalls x, int f, int kind, int from, int to, int sent) {
        due.asks(x, kind, "frame", f, 0);
        due.asks(x, from, "frame", f, 1);
        due.asks(x, to, "frame", f, 2);
        due.asks(x, sent, "frame", f, 3);
    }

    private void shares(DoorCalls x, int c, int... shares) {
        for (int what = 0; what < 4; what++) {
            due.gives(x, shares[what], "where", c, what);
        }
    }

    private void tickAndServices() {
        s.says(0, "THE TICK is 0 at first (9999 at most).", x -> {
            due.gives(x, 0, "count", 0);
            due.gives(x, 0, "tick");
            due.gives(x, 1, "count", 0);
            Make.runTo(x, 9998);
            due.gives(x, 0, "tick");
            due.gives(x, 9999, "count", 0);
            due.refuses(x, STATE, "tick");
            due.refuses(x, STATE, "run", 1);
            due.gives(x, 0, "run", 0);
        });
        s.says(0, "SERVICES have HANDS (1 .. 3; 1 at first),", x -> {
            for (int hands = 0; hands <= 3; hands++) {
                DoorCalls y = new DoorCalls();
                if (hands > 0) {
                    due.gives(y, 1, "service", 1, hands, 9, 20);
                }
                for (int c = 0; c < 4; c++) {
                    y.call(0, 1, TWICE, 9, 50, 0);
                }
                y.tick();
                int doing = Math.max(hands, 1);
                due.tells(y, hands == 0 ? 2 : 4 - doing, doing, "queue", 1);
            }
            due.refuseAll(x, BAD, "service", new int[][] {{1, 0, 0, 0}, {1, 4, 0, 0}, {1, -1, 0, 0}});
        });
        s.says(0, "a MARK (0 .. 9; 3 at first: how many may wait),", x -> {
            for (int mark = -1; mark <= 9; mark++) {
                DoorCalls y = new DoorCalls();
                if (mark >= 0) {
                    due.gives(y, 1, "service", 1, 1, mark, 20);
                }
                y.call(0, 1, TWICE, 9, 50, 0);
                y.tick();
                for (int c = 0; c < 11; c++) {
                    y.call(0, 1, TWICE, 9, 50, 0);
                }
                y.tick();
                int waiting = mark < 0 ? 3 : mark;
                due.tells(y, waiting, 1, "queue", 1);
                y.tick();
                if (waiting > 0) {
                    due.asks(y, OPEN, "told", waiting, HOW);
                }
                due.asks(y, REFUSED, "told", waiting + 1, HOW);
            }
            due.refuseAll(x, BAD, "service", new int[][] {{1, 1, -1, 0}, {1, 1, 10, 0}});
        });
        s.says(0, "and KEEP names so many TICKS (0 .. 99; 20 at first).", x -> {
            for (int keep : new int[] {-1, 0, 1, 98, 99}) {
                DoorCalls y = new DoorCalls();
                if (keep >= 0) {
                    due.gives(y, 1, "service", 1, 1, 3, keep);
                }
                y.call(0, 1, TWICE, 1, 50, 0);
                y.tick();
                due.gives(y, 0, "kept", 1);
                y.tick();
                due.gives(y, 1, "kept", 1);
                Make.runTo(y, 2 + (keep < 0 ? 20 : keep));
                due.gives(y, 1, "kept", 1);
                y.tick();
                due.gives(y, 0, "kept", 1);
            }
            due.refuseAll(x, BAD, "service", new int[][] {{1, 1, 0, -1}, {1, 1, 0, 100}});
        });
    }

    private void calls() {
        s.says(0, "CALLS 0, 1, .. (30 at most ever):", x -> {
            for (int c = 0; c < 29; c++) {
                due.gives(x, c, "call", c % 6, (c + 1) % 6, c % 3, 1, 5, 0);
            }
            Make.runTo(x, 100);
            due.gives(x, 0, "count", 2);
            due.gives(x, 29, "call", 0, 1, 0, 1, 1, 0);
            due.refuses(x, FULL, "call", 0, 1, 0, 1, 1, 0);
            Make.runTo(x, 200);
            due.refuses(x, FULL, "call", 0, 1, 0, 1, 1, 0);
            due.gives(x, 30, "count", 1);
        });
        s.says(0, "from a SERVICE to another one, of a SORT: 0 TWICE (may be done twice), 1 ONCE, 2 READ;", x -> {
            due.refuseAll(x, BAD, "call", new int[][] {
                {0, 0, 0, 1, 9, 0}, {5, 5, 0, 1, 9, 0}, {-1, 0, 0, 1, 9, 0}, {0, -1, 0, 1, 9, 0}, {6, 0, 0, 1, 9, 0},
                {0, 6, 0, 1, 9, 0}, {0, 1, -1, 1, 9, 0}, {0, 1, 3, 1, 9, 0}});
            // the answer is lost and the name is not kept, so that the ask comes anew
            x.breaks(0, 1, 3, 5);
            x.service(1, 3, 9, 0);
            for (int sort = TWICE; sort <= READ; sort++) {
                due.gives(x, sort, "call", 0, 1, sort, 1, 50, 1);
            }
            x.run(20);
            int[] effects = {2, 1, 0};
            int[] how = {ANSWERED, UNKNOWN, ANSWERED};
            for (int sort = TWICE; sort <= READ; sort++) {
                due.asks(x, effects[sort], "told", sort, EFFECTS);
                due.asks(x, how[sort], "told", sort, HOW);
            }
        });
        s.says(0, "WORK (1 .. 9 TICKS),", x -> {
            for (int work = 1; work <= 9; work++) {
                DoorCalls y = new DoorCalls();
                due.gives(y, 0, "call", 0, 1, 0, work, 50, 0);
                y.run(work);
                due.asks(y, DOING, "told", 0, PLACE);
                due.asks(y, 0, "told", 0, EFFECTS);
                y.tick();
                due.asks(y, AWAY, "told", 0, PLACE);
                due.asks(y, 1, "told", 0, EFFECTS);
                y.tick();
                ended(y, 0, ANSWERED, work + 2);
            }
            due.refuseAll(x, BAD, "call", new int[][] {{0, 1, 0, 0, 9, 0}, {0, 1, 0, 10, 9, 0}, {0, 1, 0, -1, 9, 0}});
        });
        s.says(0, "an HOUR (1 .. 99: so many TICKS from now on),", x -> {
            for (int hour : new int[] {1, 2, 98, 99}) {
                DoorCalls y = new DoorCalls();
                y.breaks(0, 1, 0, 9999);
                Make.runTo(y, 5);
                due.gives(y, 0, "call", 0, 1, 0, 9, hour, 5);
                Make.runTo(y, 5 + hour);
                due.asks(y, OPEN, "told", 0, HOW);
                y.tick();
                ended(y, 0, LATE, 5 + hour + 1);
            }
            due.refuseAll(x, BAD, "call", new int[][] {{0, 1, 0, 1, 0, 0}, {0, 1, 0, 1, 100, 0}, {0, 1, 0, 1, -1, 0}});
        });
        s.says(0, "a PURSE (0 .. 5 tries more).", x -> {
            x.breaks(0, 1, 0, 9999);
            int asks = 0;
            for (int purse = 0; purse <= 5; purse++) {
                due.gives(x, purse, "call", 0, 1, 0, 1, 99, purse);
                due.asks(x, purse, "told", purse, PURSE);
                asks += 1 + purse;
            }
            Make.runTo(x, 99);
            due.gives(x, asks, "count", 3);
            for (int purse = 0; purse <= 5; purse++) {
                due.asks(x, purse, "told", purse, TRIES);
                due.asks(x, 0, "told", purse, PURSE);
                due.asks(x, BROKEN, "told", purse, HOW);
            }
            due.refuseAll(x, BAD, "call", new int[][] {{0, 1, 0, 1, 9, -1}, {0, 1, 0, 1, 9, 6}});
        });
        s.says(0, "They are: 0 OPEN, 3 ANSWERED, 4 REFUSED (turned away), 5 CANCELLED, 6 LATE, 7 BROKEN, 8 NOT KNOWN.", x -> {
            x.service(1, 1, 0, 20);
            x.breaks(2, 3, 0, 9999);
            x.breaks(4, 5, 1, 1);
            x.call(0, 1, TWICE, 1, 50, 0);
            x.call(0, 1, TWICE, 1, 50, 0);
            x.call(0, 4, TWICE, 1, 50, 0);
            x.call(2, 3, TWICE, 1, 5, 0);
            x.call(2, 3, TWICE, 1, 50, 0);
            x.call(4, 5, ONCE, 1, 50, 1);
            for (int c = 0; c < 6; c++) {
                due.asks(x, OPEN, "told", c, HOW);
                due.asks(x, NONE, "told", c, ENDED);
            }
            x.cancel(2);
            Make.runTo(x, 20);
            ended(x, 0, 3, 3);
            ended(x, 1, 4, 2);
            ended(x, 2, 5, 0);
            ended(x, 3, 6, 6);
            ended(x, 4, 7, 6);
            ended(x, 5, 8, 8);
        });
    }

    private void frames() {
        s.says(0, "FRAMES 0, 1, .. go over the LINE of two SERVICES, sent at a TICK, there at the next one:", x -> {
            x.run(4);
            due.gives(x, 0, "ping", 3, 1);
            due.gives(x, 1, "ping", 1, 3);
            frame(x, 0, PING, 3, 1, 4);
            frame(x, 1, PING, 1, 3, 4);
            due.asks(x, 0, "frame", 0, 4);
            due.gives(x, 2, "tick");
            due.asks(x, 1, "frame", 0, 4);
            due.gives(x, 0, "tick");
            due.asks(x, 4, "frame", 0, 3);
        });
        s.says(0, "FRAMES 0, 1, .. go over the LINE of two SERVICES,", this::mostFrames);
        s.says(0, "the LINE of two SERVICES,", x -> {
            for (int a = 0; a <= 5; a++) {
                for (int b = a + 1; b <= 5; b++) {
                    oneLineBroken(a, b);
                }
            }
        });
        s.says(0, "it is lost, if the LINE is broken then (breaks, told by pairs, from a TICK to one: 20 at most).", x -> {
            x.breaks(1, 3, 2, 3);
            // sent at 0, 1, 2, 3: there at 1, 2, 3, 4
            int[] how = {1, 2, 2, 1};
            for (int k = 0; k < 4; k++) {
                int there = x.ping(3, 1);
                int back = x.ping(1, 3);
                x.tick();
                due.asks(x, how[k], "frame", there, 4);
                due.asks(x, how[k], "frame", back, 4);
            }
            due.gives(x, 4, "count", 4);
            for (int k = 2; k <= 20; k++) {
                due.gives(x, k, "breaks", 4, 5, 9999, 9999);
            }
            due.refuses(x, FULL, "breaks", 4, 5, 9999, 9999);
            // the last break of the twenty holds like the first, up to the last tick
            Make.runTo(x, 9997);
            x.ping(4, 5);
            due.gives(x, 1, "tick");
            x.ping(4, 5);
            due.gives(x, 0, "tick");
        });
        s.says(0, "KINDS: 0 FRAME (one that is just sent, to see whether the LINE holds), 1 ASK (a FRAME), 2 ANSWER (a FRAME),"
            + " 3 REFUSAL (an ANSWER: why: 4, 6, 8), 4 PIECE (a FRAME), 5 CREDIT (a FRAME), 6 CANCEL (an ASK).", this::kinds);
        s.says(0, "As a CALL is told its ASK is sent.", x -> {
            x.run(3);
            x.call(4, 2, TWICE, 1, 50, 0);
            due.gives(x, 1, "count", 3);
            frame(x, 0, ASK, 4, 2, 3);
            due.gives(x, 0, "mark", 0, ASK);
        });
    }

    private void oneLineBroken(int a, int b) {
        DoorCalls x = new DoorCalls();
        x.breaks(b, a, 1, 1);
        for (int from = 0; from <= 5; from++) {
            for (int to = 0; to <= 5; to++) {
                x.ping(from, to);
            }
        }
        due.is("all lines but that of " + a + " and " + b, x.tick(), 28);
        for (int f = 0; f < 30; f++) {
            x.frame(f, 1);
            int from = x.asked();
            x.frame(f, 2);
            int to = x.asked();
            boolean lost = from == a && to == b || from == b && to == a;
            due.asks(x, lost ? 2 : 1, "frame", f, 4);
        }
    }

    /**
     * As many frames as there can be: 29 calls that are asked six times and answered as often, the answers all lost, and
     * cancelled; one whose sixth answer comes; all pings and credits.
     */
    private void mostFrames(DoorCalls x) {
        int[][] lost = {{2, 6}, {8, 13}, {15, 22}, {24, 35}, {37, 56}, {58, 99}};
        for (int k = 0; k < 17; k++) {
            int line = k / 6 * 2;
            x.breaks(line, line + 1, lost[k % 6][0], lost[k % 6][1]);
        }
        for (int a = 0; a <= 5; a++) {
            x.service(a, 3, 9, 99);
        }
        for (int c = 0; c < 29; c++) {
            due.gives(x, c, "call", c % 4, c % 4 ^ 1, TWICE, 1, 60, 5);
        }
        due.gives(x, 29, "call", 4, 5, TWICE, 1, 60, 5);
        Make.runTo(x, 100);
        due.gives(x, 29 * 13 + 12, "count", 3);
        due.gives(x, 1, "mean");
        for (int k = 0; k < 200; k++) {
            due.gives(x, 389 + k, "credit", 29, 9);
        }
        for (int k = 0; k < 100; k++) {
            due.gives(x, 589 + k, "ping", 0, 1);
        }
        due.gives(x, 300, "tick");
        due.gives(x, 689, "count", 3);
        frame(x, 688, PING, 0, 1, 100);
        due.asks(x, 1, "frame", 688, 4);
        due.gives(x, 1800, "stream", 29, 0);
    }

    private void kinds(DoorCalls x) {
        x.ping(0, 2);
        x.service(1, 1, 0, 0);
        x.breaks(2, 1, 4, 4);
        x.call(0, 1, TWICE, 1, 50, 0);
        x.call(0, 1, TWICE, 1, 50, 0);
        x.tick();
        x.call(2, 1, TWICE, 1, 1, 0);
        x.run(2);
        x.credit(0, 1);
        x.call(2, 1, ONCE, 1, 50, 1);
        x.tick();
        x.piece(0);
        x.cancel(3);
        frame(x, 0, PING, 0, 2, 0);
        frame(x, 1, ASK, 0, 1, 0);
        // 4: turned away, 6: too late, the answer
        frame(x, 3, REFUSAL, 1, 0, 1);
        due.gives(x, 4, "mark", 3, REFUSAL);
        frame(x, 5, REFUSAL, 1, 2, 2);
        due.gives(x, 6, "mark", 5, REFUSAL);
        frame(x, 6, ANSWER, 1, 0, 2);
        frame(x, 7, CREDIT, 0, 1, 3);
        frame(x, 8, ASK, 2, 1, 3);
        frame(x, 9, PIECE, 1, 0, 4);
        frame(x, 10, CANCEL, 2, 1, 4);
        due.gives(x, 3, "mark", 10, ASK);
        due.finds(x, UNLIKE, "mark", 8, CANCEL);
        due.finds(x, UNLIKE, "mark", 6, REFUSAL);
        DoorCalls y = new DoorCalls();
        y.breaks(0, 1, 1, 1);
        y.call(0, 1, ONCE, 1, 50, 1);
        y.run(7);
        frame(y, 2, REFUSAL, 1, 0, 7);
        due.gives(y, 8, "mark", 2, REFUSAL);
    }

    private void stepsOfATick() {
        s.says(0, "A TICK (one more first):", x -> {
            // an ask that comes at 1 with a work of 1 and an hour of 2 is just in time, by the tick that is one more
            x.call(0, 1, TWICE, 1, 2, 0);
            x.call(0, 2, TWICE, 1, 1, 0);
            due.gives(x, 2, "tick");
            due.gives(x, 1, "count", 0);
            due.asks(x, DOING, "told", 0, PLACE);
            due.asks(x, AWAY, "told", 1, PLACE);
        });
        s.says(0, "a) FRAMES that are there, by numbers;", x -> {
            // the ask comes ahead of its cancel, so that nothing is left to be done
            x.call(0, 1, TWICE, 1, 50, 0);
            x.cancel(0);
            due.gives(x, 2, "tick");
            due.asks(x, AWAY, "told", 0, PLACE);
            due.tells(x, 0, 0, "queue", 1);
            // of two asks the first one finds the place
            DoorCalls y = new DoorCalls();
            y.service(1, 1, 0, 20);
            y.call(0, 1, TWICE, 5, 50, 0);
            y.call(2, 1, TWICE, 5, 50, 0);
            y.tick();
            due.asks(y, DOING, "told", 0, PLACE);
            due.asks(y, AWAY, "told", 1, PLACE);
        });
        s.says(0, "b) SERVICES, by numbers: what is DOING has a TICK less to go;", x -> {
            x.service(5, 3, 3, 20);
            x.call(0, 5, TWICE, 3, 50, 0);
            x.call(0, 3, TWICE, 3, 50, 0);
            x.call(0, 5, TWICE, 2, 50, 0);
            x.run(3);
            due.gives(x, 4, "count", 3);
            due.gives(x, 2, "mark", 3, ANSWER);
            x.tick();
            // service 3 ahead of 5
            due.gives(x, 6, "count", 3);
            due.gives(x, 1, "mark", 4, ANSWER);
            due.gives(x, 0, "mark", 5, ANSWER);
        });
        s.says(0, "what is done has its EFFECT (READ: none),", x -> {
            x.service(1, 3, 3, 20);
            for (int sort = TWICE; sort <= READ; sort++) {
                x.call(0, 1, sort, 2, 50, 0);
            }
            x.run(2);
            for (int sort = TWICE; sort <= READ; sort++) {
                due.asks(x, 0, "told", sort, EFFECTS);
            }
            x.tick();
            for (int sort = TWICE; sort <= READ; sort++) {
                due.asks(x, sort == READ ? 0 : 1, "told", sort, EFFECTS);
            }
        });
        s.says(0, "its name is KEPT up to the TICK that is KEEP later (that one, too), an ANSWER is sent;", x -> {
            x.service(1, 3, 3, 4);
            for (int sort = TWICE; sort <= READ; sort++) {
                x.call(sort + 2, 1, sort, 2, 50, 0);
            }
            x.run(3);
            due.gives(x, 3, "kept", 1);
            for (int sort = TWICE; sort <= READ; sort++) {
                frame(x, 3 + sort, ANSWER, 1, sort + 2, 3);
            }
            Make.runTo(x, 7);
            due.gives(x, 3, "kept", 1);
            x.tick();
            due.gives(x, 0, "kept", 1);
        });
        beginnings();
    }

    private void beginnings() {
        s.says(0, "c) SERVICES, by numbers: while a HAND is free, the first of the queue is taken out:", x -> {
            x.service(1, 2, 9, 20);
            for (int c = 0; c < 5; c++) {
                x.call(0, 1, TWICE, 2 + c % 2, 50, 0);
            }
            x.tick();
            // 0 and 1 begin; 0 is done at 3 and 2 begins at once; 1 at 4, and 3
            int[][] doing = {{0, 1}, {0, 1}, {1, 2}, {2, 3}, {3, 4}};
            int[] waiting = {3, 3, 2, 1, 0};
            for (int k = 0; k < doing.length; k++) {
                due.tells(x, waiting[k], 2, "queue", 1);
                due.asks(x, DOING, "told", doing[k][0], PLACE);
                due.asks(x, DOING, "told", doing[k][1], PLACE);
                x.tick();
            }
            // the refusals of two services at one tick come by the services' numbers
            DoorCalls y = new DoorCalls();
            y.call(0, 5, TWICE, 5, 50, 0);
            y.call(0, 4, TWICE, 5, 50, 0);
            y.call(0, 5, TWICE, 5, 7, 0);
            y.call(0, 4, TWICE, 5, 7, 0);
            y.run(6);
            due.gives(y, 8, "count", 3);
            due.gives(y, 3, "mark", 6, ANSWER);
            due.gives(y, 2, "mark", 7, ANSWER);
            due.gives(y, 6, "mark", 7, REFUSAL);
        });
        s.says(0, "if THE TICK and WORK is above the TICK at which it must be answered (as it was told, and HOUR), a REFUSAL 6"
            + " is sent, else it is DOING, with WORK TICKS to go;", x -> {
                // at tick 4 the hand is free: 4 and 3 is 7
                x.call(0, 1, TWICE, 3, 50, 0);
                x.call(0, 1, TWICE, 3, 6, 0);
                x.call(0, 1, TWICE, 3, 7, 0);
                x.run(3);
                due.asks(x, WAITS, "told", 1, PLACE);
                x.tick();
                due.asks(x, AWAY, "told", 1, PLACE);
                due.asks(x, DOING, "told", 2, PLACE);
                due.gives(x, 5, "count", 3);
                due.gives(x, 6, "mark", 4, REFUSAL);
                due.gives(x, 1, "mark", 4, ANSWER);
                x.run(2);
                ended(x, 1, LATE, 5);
                due.asks(x, DOING, "told", 2, PLACE);
                x.tick();
                due.asks(x, 1, "told", 2, EFFECTS);
                x.tick();
                ended(x, 2, ANSWERED, 8);
            });
    }

    private void callsThatWait() {
        s.says(0, "d) CALLS that are OPEN, by numbers: if THE TICK is above that TICK: LATE, and a CANCEL is sent;", x -> {
            x.breaks(0, 1, 0, 9999);
            x.breaks(2, 3, 0, 9999);
            x.call(2, 3, TWICE, 1, 4, 0);
            x.call(0, 1, TWICE, 1, 4, 5);
            x.call(0, 1, TWICE, 1, 3, 5);
            x.run(4);
            due.gives(x, 4, "count", 3);
            ended(x, 2, LATE, 4);
            ended(x, 0, OPEN, NONE);
            due.tells(x, 1, CANCEL, "frame", 3, 0);
            x.tick();
            due.gives(x, 6, "count", 3);
            frame(x, 4, CANCEL, 2, 3, 5);
            frame(x, 5, CANCEL, 0, 1, 5);
            due.gives(x, 0, "mark", 4, ASK);
            due.gives(x, 1, "mark", 5, ASK);
            due.gives(x, 6, "mark", 5, CANCEL);
            ended(x, 0, LATE, 5);
            x.run(30);
            due.gives(x, 6, "count", 3);
        });
        s.says(0, "else if as many TICKS as WORK and 4 and 2 to the power of its tries so far are over since its ASK was sent last:",
            x -> {
                for (int work = 1; work <= 9; work++) {
                    DoorCalls y = new DoorCalls();
                    y.breaks(0, 1, 0, 9999);
                    y.run(2);
                    y.call(0, 1, TWICE, work, 99, 5);
                    int at = 2;
                    for (int tries = 0; tries < 5 && at + work + 4 + (1 << tries) <= 101; tries++) {
                        at += work + 4 + (1 << tries);
                        Make.runTo(y, at - 1);
                        due.asks(y, tries, "told", 0, TRIES);
                        y.tick();
                        due.asks(y, tries + 1, "told", 0, TRIES);
                        frame(y, tries + 1, ASK, 0, 1, at);
                    }
                }
            });
        s.says(0, "with a PURSE its ASK is sent again (the PURSE is one less, its tries one more), without it is BROKEN.", x -> {
            x.breaks(0, 1, 0, 9999);
            x.call(0, 1, TWICE, 1, 99, 1);
            x.call(0, 1, TWICE, 1, 99, 0);
            x.run(5);
            ended(x, 1, OPEN, NONE);
            x.tick();
            ended(x, 1, BROKEN, 6);
            due.asks(x, 0, "told", 1, TRIES);
            ended(x, 0, OPEN, NONE);
            due.asks(x, 0, "told", 0, PURSE);
            due.asks(x, 1, "told", 0, TRIES);
            due.gives(x, 3, "count", 3);
            x.run(6);
            ended(x, 0, OPEN, NONE);
            x.tick();
            ended(x, 0, BROKEN, 13);
            due.asks(x, 1, "told", 0, TRIES);
            due.gives(x, 3, "count", 3);
        });
    }

    private void asks() {
        s.says(0, "An ASK: if the SERVICE has the CALL in its queue or DOING, nothing;", x -> {
            // call 0 is done from 1 to 10, call 1 waits and is asked again at 6, there at 7
            x.call(0, 1, ONCE, 9, 90, 0);
            x.call(0, 1, ONCE, 1, 90, 1);
            x.run(6);
            due.gives(x, 3, "count", 3);
            due.gives(x, 1, "tick");
            due.gives(x, 3, "count", 3);
            due.asks(x, WAITS, "told", 1, PLACE);
            due.tells(x, 1, 1, "queue", 1);
            // a call whose first ask was lost is asked again while it is done
            DoorCalls y = new DoorCalls();
            y.service(1, 1, 3, 0);
            y.call(2, 1, TWICE, 6, 90, 0);
            y.call(0, 1, ONCE, 8, 90, 1);
            y.run(14);
            due.asks(y, DOING, "told", 1, PLACE);
            due.asks(y, 1, "told", 1, TRIES);
            y.tick();
            due.asks(y, 1, "told", 1, EFFECTS);
            y.run(9);
            ended(y, 1, ANSWERED, 16);
            due.asks(y, 1, "told", 1, EFFECTS);
        });
        s.says(0, "if its name is KEPT: an ANSWER is sent;", x -> {
            // done at 2, the answer lost at 3, asked again at 6, there at 7: too late, no hand, a later try of ONCE
            for (int keep = 4; keep <= 5; keep++) {
                DoorCalls y = new DoorCalls();
                y.service(1, 1, 0, keep);
                y.breaks(0, 1, 3, 3);
                y.call(0, 1, ONCE, 1, 7, 1);
                y.run(5);
                y.call(2, 1, TWICE, 9, 50, 0);
                y.run(2);
                due.tells(y, 0, 1, "queue", 1);
                due.gives(y, 5, "count", 3);
                due.asks(y, keep == 5 ? ANSWER : REFUSAL, "frame", 4, 0);
                y.tick();
                ended(y, 0, keep == 5 ? ANSWERED : UNKNOWN, 8);
                due.asks(y, 1, "told", 0, EFFECTS);
            }
        });
        s.says(0, "if it is a later try of a ONCE one: REFUSAL 8;", x -> {
            // the first ask is lost, the second one is there at 7: too late, and no hand is free
            x.service(1, 1, 0, 20);
            x.breaks(0, 1, 1, 1);
            x.call(2, 1, TWICE, 9, 50, 0);
            x.call(0, 1, ONCE, 1, 7, 1);
            x.run(7);
            due.gives(x, 4, "count", 3);
            due.gives(x, 8, "mark", 3, REFUSAL);
            due.gives(x, 1, "mark", 3, ANSWER);
            x.tick();
            ended(x, 1, UNKNOWN, 8);
            // a first try of a ONCE one is done, and a later try of the others
            DoorCalls y = new DoorCalls();
            y.service(1, 3, 0, 20);
            y.breaks(0, 1, 1, 1);
            y.call(0, 1, TWICE, 1, 50, 1);
            y.call(0, 1, READ, 1, 50, 1);
            y.call(2, 1, ONCE, 1, 50, 1);
            y.run(20);
            for (int c = 0; c < 3; c++) {
                due.asks(y, ANSWERED, "told", c, HOW);
            }
        });
        asksTurnedAway();
    }

    private void asksTurnedAway() {
        s.says(0, "if THE TICK and WORK is above the TICK at which it must be answered: REFUSAL 6;", x -> {
            // there at 1: 1 and 4 is 5; the hand is busy and none may wait
            x.service(1, 1, 0, 20);
            x.call(0, 2, TWICE, 4, 5, 0);
            x.call(0, 3, TWICE, 4, 4, 0);
            x.call(0, 1, TWICE, 9, 50, 0);
            x.call(0, 1, TWICE, 4, 4, 0);
            x.call(0, 1, TWICE, 4, 5, 0);
            x.tick();
            due.asks(x, DOING, "told", 0, PLACE);
            due.asks(x, AWAY, "told", 1, PLACE);
            due.gives(x, 6, "mark", 5, REFUSAL);
            due.gives(x, 1, "mark", 5, ANSWER);
            due.gives(x, 6, "mark", 6, REFUSAL);
            due.gives(x, 4, "mark", 7, REFUSAL);
            due.gives(x, 4, "mark", 7, ANSWER);
        });
        s.says(0, "if no HAND is free and as many wait as the MARK tells: REFUSAL 4;", x -> {
            for (int mark = 0; mark <= 2; mark++) {
                DoorCalls y = new DoorCalls();
                y.service(1, 2, mark, 20);
                for (int c = 0; c < 2; c++) {
                    y.call(0, 1, TWICE, 9, 50, 0);
                }
                y.tick();
                for (int c = 0; c <= mark; c++) {
                    y.call(0, 1, TWICE, 9, 50, 0);
                }
                y.tick();
                due.tells(y, mark, 2, "queue", 1);
                int last = y.count(3) - 1;
                due.gives(y, 4, "mark", last, REFUSAL);
                due.gives(y, mark + 2, "mark", last, ANSWER);
                y.tick();
                ended(y, mark + 2, REFUSED, 3);
            }
        });
        s.says(0, "else it waits: the queue is in order of CALLS' numbers.", x -> {
            // 1 and 2 wait from 1 on, 0 comes at 7 and goes ahead of them at 10
            x.service(1, 1, 9, 20);
            x.breaks(0, 1, 1, 1);
            x.call(0, 1, TWICE, 1, 90, 1);
            x.call(2, 1, TWICE, 9, 90, 0);
            x.call(3, 1, TWICE, 1, 90, 3);
            x.call(4, 1, TWICE, 1, 90, 3);
            x.run(9);
            due.tells(x, 3, 1, "queue", 1);
            int[] next = {0, 2, 3};
            for (int c : next) {
                due.asks(x, WAITS, "told", c, PLACE);
                x.tick();
                due.asks(x, DOING, "told", c, PLACE);
            }
            due.tells(x, 0, 1, "queue", 1);
        });
        s.says(0, "(A HAND is free, if those DOING and those that wait are fewer together than HANDS.)", x -> {
            for (int hands = 1; hands <= 3; hands++) {
                DoorCalls y = new DoorCalls();
                y.service(1, hands, 0, 20);
                // all come at one tick: those that wait take the hands that are free
                for (int c = 0; c <= hands; c++) {
                    y.call(0, 1, TWICE, 3, 50, 0);
                }
                y.tick();
                due.tells(y, 0, hands, "queue", 1);
                due.gives(y, hands, "mark", hands + 1, ANSWER);
                due.gives(y, 4, "mark", hands + 1, REFUSAL);
                // as those are done that were DOING they still hold their hands
                y.run(2);
                y.call(2, 1, TWICE, 1, 50, 0);
                y.tick();
                due.tells(y, 0, 0, "queue", 1);
                y.tick();
                ended(y, hands + 1, REFUSED, 5);
                y.call(2, 1, TWICE, 1, 50, 0);
                y.tick();
                due.tells(y, 0, 1, "queue", 1);
            }
        });
    }

    private void cancelsAndAnswers() {
        s.says(0, "A CANCEL: if it waits, it goes from the queue.", x -> {
            x.call(0, 1, TWICE, 3, 50, 0);
            x.call(0, 1, TWICE, 1, 50, 0);
            x.call(0, 1, TWICE, 1, 50, 0);
            x.tick();
            x.cancel(0);
            x.cancel(1);
            due.tells(x, 2, 1, "queue", 1);
            x.tick();
            due.tells(x, 1, 1, "queue", 1);
            due.asks(x, DOING, "told", 0, PLACE);
            due.asks(x, AWAY, "told", 1, PLACE);
            due.asks(x, WAITS, "told", 2, PLACE);
            x.run(20);
            due.asks(x, 1, "told", 0, EFFECTS);
            due.asks(x, 0, "told", 1, EFFECTS);
            due.asks(x, 1, "told", 2, EFFECTS);
            // a lost cancel leaves it in the queue
            DoorCalls y = new DoorCalls();
            y.breaks(0, 1, 2, 2);
            y.call(2, 1, TWICE, 3, 50, 0);
            y.call(0, 1, TWICE, 1, 50, 0);
            y.tick();
            y.cancel(1);
            y.run(20);
            due.asks(y, 1, "told", 1, EFFECTS);
            ended(y, 1, CANCELLED, 1);
        });
        s.says(0, "An ANSWER to an OPEN CALL: ANSWERED.", x -> {
            x.call(0, 1, TWICE, 1, 50, 0);
            x.call(0, 2, TWICE, 1, 50, 0);
            x.call(0, 3, TWICE, 1, 1, 0);
            x.run(2);
            x.cancel(1);
            due.gives(x, 3, "tick");
            ended(x, 0, ANSWERED, 3);
            ended(x, 1, CANCELLED, 2);
            // an answer that comes with the tick that would be too late is still one
            DoorCalls y = new DoorCalls();
            y.call(0, 1, TWICE, 1, 2, 0);
            y.run(3);
            ended(y, 0, ANSWERED, 3);
            due.gives(y, 2, "count", 3);
        });
        s.says(0, "A REFUSAL to an OPEN one: 4: REFUSED; 6: LATE; 8: NOT KNOWN.", x -> {
            x.service(1, 1, 0, 20);
            x.breaks(4, 5, 1, 1);
            x.call(0, 1, TWICE, 9, 50, 0);
            x.call(2, 1, TWICE, 1, 50, 3);
            x.call(2, 1, TWICE, 9, 9, 3);
            x.call(4, 5, ONCE, 1, 50, 3);
            x.call(2, 1, TWICE, 1, 50, 3);
            x.tick();
            x.cancel(4);
            x.tick();
            ended(x, 1, REFUSED, 2);
            ended(x, 2, LATE, 2);
            ended(x, 4, CANCELLED, 1);
            x.run(6);
            ended(x, 3, UNKNOWN, 8);
            // neither is tried again
            x.run(40);
            due.asks(x, 0, "told", 1, TRIES);
            due.asks(x, 0, "told", 2, TRIES);
            due.asks(x, 1, "told", 3, TRIES);
        });
    }

    private void shares() {
        s.says(0, "SHARES of a CALL's TICKS while it is OPEN (each TICK, as it begins): 1 it waits in the queue, 2 it is DOING,"
            + " 0 else, if a FRAME of it is under way, 3 else (waiting to try again).", x -> {
                // 0: asked 0, doing 1 to 4, answered 5; 1: waits 1 to 4, doing 4 to 6, answered 7
                x.call(0, 1, TWICE, 3, 50, 0);
                x.call(0, 1, TWICE, 2, 50, 0);
                shares(x, 0, 0, 0, 0, 0);
                x.tick();
                shares(x, 0, 1, 0, 0, 0);
                x.tick();
                shares(x, 0, 1, 0, 1, 0);
                shares(x, 1, 1, 1, 0, 0);
                x.run(9);
                shares(x, 0, 2, 0, 3, 0);
                shares(x, 1, 2, 3, 2, 0);
                // lost at 1, waits to try again from 1 to 6, asked again at 6, doing 7 to 8, answered at 9
                DoorCalls y = new DoorCalls();
                y.breaks(0, 1, 1, 1);
                y.call(0, 1, TWICE, 1, 50, 1);
                y.run(6);
                shares(y, 0, 1, 0, 0, 5);
                y.run(9);
                shares(y, 0, 3, 0, 1, 5);
                // a call that is asked again as it waits is in the queue, and no longer counted as it is cancelled
                DoorCalls z = new DoorCalls();
                z.call(0, 1, TWICE, 9, 50, 0);
                z.call(0, 1, TWICE, 1, 50, 1);
                z.run(8);
                shares(z, 1, 1, 7, 0, 0);
                z.cancel(1);
                z.run(8);
                shares(z, 1, 1, 7, 0, 0);
            });
    }

    private void streams() {
        s.says(0, "STREAMS of an ANSWERED CALL: the caller gives CREDIT (1 .. 9 PIECES more),", x -> {
            Make.answered(x);
            due.refuseAll(x, BAD, "credit", new int[][] {{0, 0}, {0, 10}, {0, -1}});
            due.gives(x, 2, "credit", 0, 1);
            due.gives(x, 3, "credit", 0, 9);
            frame(x, 2, CREDIT, 0, 1, 3);
            x.tick();
            due.gives(x, 10, "stream", 0, 0);
        });
        s.says(0, "the other sends PIECES, no more than CREDIT that came;", x -> {
            Make.answered(x);
            due.refuses(x, STATE, "piece", 0);
            x.credit(0, 2);
            due.refuses(x, STATE, "piece", 0);
            x.tick();
            due.gives(x, 3, "piece", 0);
            due.gives(x, 4, "piece", 0);
            frame(x, 3, PIECE, 1, 0, 4);
            due.refuses(x, STATE, "piece", 0);
        });
        s.says(0, "both are FRAMES (200 of these two at most).", x -> {
            Make.answered(x);
            for (int k = 0; k < 150; k++) {
                due.gives(x, 2 + k, "credit", 0, 1);
            }
            x.tick();
            for (int k = 0; k < 50; k++) {
                due.gives(x, 152 + k, "piece", 0);
            }
            due.refuses(x, FULL, "piece", 0);
            due.refuses(x, FULL, "credit", 0, 1);
            due.gives(x, 202, "count", 3);
            due.gives(x, 50, "tick");
            due.refuses(x, FULL, "piece", 0);
            due.gives(x, 202, "ping", 0, 1);
        });
    }
}
