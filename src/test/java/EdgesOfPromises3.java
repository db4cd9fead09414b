/** Promises 37 to 49: frames, streams, the mean, and what is told. */
final class EdgesOfPromises3 {
    private static final int BAD = DoorCalls.BAD, FULL = DoorCalls.FULL, STATE = DoorCalls.STATE, NONE = DoorCalls.NONE;
    private static final int NOTHING = 1, BEYOND = 2, UNLIKE = 3, NOUGHT = 4, SIZE = 5;
    private static final int MAX = Integer.MAX_VALUE, MIN = Integer.MIN_VALUE;
    private static final int TWICE = 0, ONCE = 1;
    private static final int PING = 0, ASK = 1, ANSWER = 2, REFUSAL = 3, PIECE = 4, CREDIT = 5, CANCEL = 6;

    private final Sentences s;
    private final Due due;

    EdgesOfPromises3(Sentences s) {
        this.s = s;
        this.due = s.due;
    }

    void all() {
        frames();
        marks();
        credits();
        pieces();
        streams();
        means();
        asked();
        fractions();
        counts();
        findings();
        digests();
    }

    private void frame(DoorCalls x, int f, int... facts) {
        for (int what = 0; what < 5; what++) {
            due.asks(x, facts[what], "frame", f, what);
        }
    }

    private void frames() {
        s.says(37, "Of a FRAME: 0 its KIND, 1 from, 2 to, 3 the TICK at which it was sent, 4 how it is (0 under way, 1 was there,"
            + " 2 lost), told by asked(): 1.", x -> {
                x.breaks(0, 5, 4, 4);
                x.run(3);
                x.ping(0, 5);
                x.call(5, 0, TWICE, 1, 50, 1);
                x.call(5, 1, TWICE, 1, 50, 1);
                frame(x, 0, PING, 0, 5, 3, 0);
                frame(x, 1, ASK, 5, 0, 3, 0);
                frame(x, 2, ASK, 5, 1, 3, 0);
                x.tick();
                frame(x, 0, PING, 0, 5, 3, 2);
                frame(x, 1, ASK, 5, 0, 3, 2);
                frame(x, 2, ASK, 5, 1, 3, 1);
                x.tick();
                frame(x, 3, ANSWER, 1, 5, 5, 0);
                x.cancel(0);
                frame(x, 4, CANCEL, 5, 0, 5, 0);
                x.tick();
                frame(x, 3, ANSWER, 1, 5, 5, 1);
                x.run(50);
                frame(x, 0, PING, 0, 5, 3, 2);
            });
        s.says(37, "BAD.", x -> {
            due.refuses(x, BAD, "frame", 0, 0);
            x.ping(0, 1);
            due.refuseAll(x, BAD, "frame", new int[][] {{1, 0}, {-1, 0}, {0, -1}, {0, 5}, {MAX, 0}, {0, MIN}});
        });
    }

    /** Frames: 0 ping, 1 ask, 2 ask, 3 refusal 4, 4 answer, 5 credit, 6 and 7 pieces, 8 ask, 9 cancel by the caller. */
    private static void allKinds(DoorCalls x) {
        x.ping(3, 4);
        x.service(1, 1, 0, 20);
        x.call(0, 1, TWICE, 1, 50, 0);
        x.call(2, 1, TWICE, 1, 50, 0);
        x.run(3);
        x.credit(0, 8);
        x.tick();
        x.piece(0);
        x.piece(0);
        x.call(4, 5, TWICE, 1, 50, 0);
        x.cancel(2);
    }

    /** What frames of allKinds() tell, by kinds 1 to 6; NONE: they are not of that kind. */
    private static final int[][] TELLS = {
        {NONE, NONE, NONE, NONE, NONE, NONE}, {0, NONE, NONE, NONE, NONE, NONE}, {1, NONE, NONE, NONE, NONE, NONE},
        {NONE, 1, 4, NONE, NONE, NONE}, {NONE, 0, NONE, NONE, NONE, NONE}, {NONE, NONE, NONE, NONE, 8, NONE},
        {NONE, NONE, NONE, 1, NONE, NONE}, {NONE, NONE, NONE, 2, NONE, NONE}, {2, NONE, NONE, NONE, NONE, NONE},
        {2, NONE, NONE, NONE, NONE, 5}};

    private void tells(DoorCalls x, int kind) {
        allKinds(x);
        for (int f = 0; f < TELLS.length; f++) {
            if (TELLS[f][kind - 1] != NONE) {
                due.gives(x, TELLS[f][kind - 1], "mark", f, kind);
            }
        }
    }

    private void marks() {
        s.says(38, "What a FRAME that IS of a KIND tells: an ASK (CANCEL, too) its CALL,", x -> tells(x, ASK));
        s.says(38, "an ANSWER (REFUSAL, too) its CALL,", x -> tells(x, ANSWER));
        s.says(38, "a REFUSAL why,", x -> {
            tells(x, REFUSAL);
            DoorCalls y = new DoorCalls();
            y.breaks(0, 1, 1, 1);
            y.call(0, 1, ONCE, 1, 50, 1);
            y.call(2, 1, TWICE, 9, 9, 0);
            y.run(7);
            due.gives(y, 6, "mark", 2, REFUSAL);
            due.gives(y, 8, "mark", 4, REFUSAL);
        });
        s.says(38, "a PIECE the how many-th of its CALL,", x -> {
            tells(x, PIECE);
            // two calls count each for itself, and a lost piece counts
            DoorCalls y = new DoorCalls();
            y.call(0, 1, TWICE, 1, 50, 0);
            y.call(0, 2, TWICE, 1, 50, 0);
            y.run(3);
            y.credit(0, 9);
            y.credit(1, 9);
            y.breaks(0, 1, 5, 5);
            y.tick();
            int first = y.piece(0);
            y.tick();
            due.asks(y, 2, "frame", first, 4);
            int other = y.piece(1);
            int second = y.piece(0);
            due.gives(y, 1, "mark", first, PIECE);
            due.gives(y, 1, "mark", other, PIECE);
            due.gives(y, 2, "mark", second, PIECE);
        });
        s.says(38, "a CREDIT how many,", x -> {
            tells(x, CREDIT);
            for (int n = 1; n <= 9; n++) {
                due.gives(x, n, "mark", x.credit(0, n), CREDIT);
            }
        });
        s.says(38, "a CANCEL how its CALL was as it was sent (5, 6).", x -> {
            tells(x, CANCEL);
            DoorCalls y = new DoorCalls();
            y.breaks(0, 1, 0, 9999);
            y.call(0, 1, TWICE, 1, 2, 0);
            y.run(3);
            due.asks(y, CANCEL, "frame", 1, 0);
            due.gives(y, 6, "mark", 1, CANCEL);
            due.gives(y, 0, "mark", 1, ASK);
        });
        s.says(38, "BAD: also KIND 0;", x -> {
            due.refuses(x, BAD, "mark", 0, 1);
            allKinds(x);
            for (int f = 0; f < TELLS.length; f++) {
                due.refuseAll(x, BAD, "mark", new int[][] {{f, 0}, {f, -1}, {f, 7}, {f, MIN}, {f, MAX}});
            }
            due.refuseAll(x, BAD, "mark", new int[][] {{-1, 1}, {TELLS.length, 1}, {MIN, 1}, {MAX, 1}, {-1, 0}});
        });
        s.says(38, "UNLIKE.", x -> {
            allKinds(x);
            for (int f = 0; f < TELLS.length; f++) {
                for (int kind = 1; kind <= 6; kind++) {
                    if (TELLS[f][kind - 1] == NONE) {
                        due.finds(x, UNLIKE, "mark", f, kind);
                    }
                }
            }
        });
    }

    private void credits() {
        s.says(39, "CREDIT for an ANSWERED CALL (1 .. 9): the FRAME.", x -> {
            Make.answered(x);
            int came = 0;
            for (int n = 1; n <= 9; n++) {
                due.gives(x, 1 + n, "credit", 0, n);
                frame(x, 1 + n, CREDIT, 0, 1, 3, 0);
                came += n;
            }
            due.gives(x, 0, "stream", 0, 0);
            due.gives(x, 9, "tick");
            due.gives(x, came, "stream", 0, 0);
        });
        s.says(39, "BAD; FULL; STATE.", x -> {
            due.refuses(x, BAD, "credit", 0, 1);
            notAnswered(x);
            for (int c = 0; c < 7; c++) {
                due.refuses(x, BAD, "credit", c, 0);
                due.refuses(x, BAD, "credit", c, 10);
                due.refuses(x, STATE, "credit", c, 1);
            }
            due.refuseAll(x, BAD, "credit", new int[][] {{7, 1}, {-1, 1}, {MAX, 1}, {0, MIN}, {0, MAX}});
            DoorCalls y = full();
            due.refuses(y, FULL, "credit", 0, 1);
            due.refuses(y, FULL, "credit", 1, 1);
            due.refuses(y, BAD, "credit", 0, 0);
            due.refuses(y, BAD, "credit", 2, 1);
        });
    }

    /** Calls that are each not ANSWERED: OPEN, REFUSED, LATE, BROKEN, NOT KNOWN, CANCELLED, and one that was done. */
    private static void notAnswered(DoorCalls x) {
        x.service(1, 1, 0, 20);
        x.breaks(2, 3, 0, 9999);
        x.breaks(4, 5, 1, 1);
        x.call(0, 1, TWICE, 9, 99, 5);
        x.call(0, 1, TWICE, 1, 50, 0);
        x.call(2, 3, TWICE, 1, 5, 0);
        x.call(2, 3, TWICE, 1, 50, 0);
        x.call(4, 5, ONCE, 1, 50, 1);
        x.call(0, 5, TWICE, 1, 50, 0);
        x.call(0, 4, TWICE, 1, 50, 0);
        x.cancel(5);
        x.run(2);
        x.cancel(6);
        x.run(6);
    }

    /** Call 0 is answered and has CREDIT left, call 1 is OPEN; 200 credits and pieces are sent. */
    private static DoorCalls full() {
        DoorCalls x = new DoorCalls();
        Make.answered(x);
        x.call(0, 1, TWICE, 9, 50, 0);
        for (int k = 0; k < 199; k++) {
            x.credit(0, 1);
        }
        x.tick();
        x.piece(0);
        return x;
    }

    private void pieces() {
        s.says(40, "A PIECE of an ANSWERED CALL is sent: the FRAME.", x -> {
            Make.answered(x);
            x.credit(0, 2);
            x.tick();
            due.gives(x, 3, "piece", 0);
            due.gives(x, 4, "piece", 0);
            frame(x, 3, PIECE, 1, 0, 4, 0);
            frame(x, 4, PIECE, 1, 0, 4, 0);
            due.gives(x, 2, "tick");
            frame(x, 4, PIECE, 1, 0, 4, 1);
        });
        s.says(40, "BAD; FULL;", x -> {
            due.refuses(x, BAD, "piece", 0);
            Make.answered(x);
            due.refuseAll(x, BAD, "piece", new int[][] {{1}, {-1}, {MIN}, {MAX}});
            DoorCalls y = full();
            due.refuses(y, FULL, "piece", 0);
            due.refuses(y, FULL, "piece", 1);
            due.refuses(y, BAD, "piece", 2);
        });
        s.says(40, "STATE: not ANSWERED, or no CREDIT that came is left.", x -> {
            notAnswered(x);
            for (int c = 0; c < 7; c++) {
                due.refuses(x, STATE, "piece", c);
            }
            DoorCalls y = new DoorCalls();
            Make.answered(y);
            y.breaks(0, 1, 5, 5);
            due.refuses(y, STATE, "piece", 0);
            y.credit(0, 1);
            due.refuses(y, STATE, "piece", 0);
            y.tick();
            // one more that is lost gives none
            y.credit(0, 9);
            y.tick();
            due.gives(y, 4, "piece", 0);
            due.refuses(y, STATE, "piece", 0);
            y.tick();
            due.refuses(y, STATE, "piece", 0);
            due.gives(y, 1, "stream", 0, 1);
        });
    }

    private void streams() {
        s.says(41, "PIECES of a CALL: 0 CREDIT that came, 1 sent, 2 that came.", x -> {
            Make.answered(x);
            x.breaks(0, 1, 6, 6);
            stream(x, 0, 0, 0);
            x.credit(0, 9);
            stream(x, 0, 0, 0);
            x.tick();
            stream(x, 9, 0, 0);
            x.piece(0);
            x.piece(0);
            stream(x, 9, 2, 0);
            x.tick();
            stream(x, 9, 2, 2);
            // a piece and a credit that are lost
            x.piece(0);
            x.credit(0, 5);
            x.tick();
            stream(x, 9, 3, 2);
            x.piece(0);
            x.credit(0, 1);
            x.tick();
            stream(x, 10, 4, 3);
        });
        s.says(41, "BAD.", x -> {
            due.refuses(x, BAD, "stream", 0, 0);
            x.call(0, 1, TWICE, 1, 50, 0);
            stream(x, 0, 0, 0);
            due.refuseAll(x, BAD, "stream", new int[][] {{1, 0}, {-1, 0}, {0, -1}, {0, 3}, {MAX, 0}, {0, MIN}});
        });
    }

    private void stream(DoorCalls x, int... facts) {
        for (int what = 0; what < 3; what++) {
            due.gives(x, facts[what], "stream", 0, what);
        }
    }

    private void mean(DoorCalls x, int answered, int upper, int lower) {
        due.gives(x, answered, "mean");
        due.gives(x, upper, "upper");
        due.gives(x, lower, "lower");
    }

    private void means() {
        s.says(42, "The mean of TICKS from being told to the end, of CALLS ANSWERED, told by upper(), lower(): how many.", x -> {
            x.run(9);
            x.call(0, 1, TWICE, 1, 50, 0);
            x.call(0, 2, TWICE, 2, 50, 0);
            x.call(0, 3, TWICE, 9, 50, 0);
            x.call(0, 4, TWICE, 1, 50, 0);
            x.cancel(3);
            x.run(3);
            mean(x, 1, 3, 1);
            x.tick();
            mean(x, 2, 7, 2);
            x.run(7);
            mean(x, 3, 6, 1);
            // the greatest: all thirty, each as long as the queue is
            DoorCalls y = new DoorCalls();
            for (int c = 0; c < 30; c++) {
                y.call(5, c % 5, TWICE, 9, 99, 0);
                if (c % 5 == 4) {
                    y.run(12);
                }
            }
            mean(y, 30, 11, 1);
        });
        s.says(42, "NOUGHT: none.", x -> {
            due.finds(x, NOUGHT, "mean");
            notAnswered(x);
            due.finds(x, NOUGHT, "mean");
            due.gives(x, 0, "upper");
            due.gives(x, 1, "lower");
        });
    }

    private void asked() {
        s.says(43, "What the latest lay(), at(), item(), fields(), clash(), order(), told(), queue(), frame() that was not refused told;",
            x -> {
                x.row(0, 1);
                due.asks(x, 0, "lay", 0, 0, 77);
                due.asks(x, 77, "at", 0, 0);
                Make.shape(x, 0, "aB bB=9 cB");
                due.asks(x, 9, "item", 0, 1, 5);
                due.tells(x, 3, 2, "fields", 0, 0);
                due.tells(x, 0, NONE, "clash");
                x.version(3, 0, 1);
                due.tells(x, 1, 8, "order");
                x.call(0, 5, TWICE, 9, 50, 4);
                due.asks(x, 4, "told", 0, 2);
                x.tick();
                due.tells(x, 0, 1, "queue", 5);
                due.asks(x, 5, "frame", 0, 2);
                // those that are refused leave it
                due.finds(x, BEYOND, "lay", 0, 1, 1);
                due.finds(x, NOTHING, "at", 1, 0);
                due.finds(x, BEYOND, "item", 0, 3, 0);
                due.refuses(x, BAD, "fields", 0, 10);
                due.refuses(x, BAD, "told", 0, 7);
                due.refuses(x, BAD, "queue", 6);
                due.refuses(x, BAD, "frame", 0, 5);
                due.gives(x, 5, "asked");
                Make.shape(x, 1, "aB-0 bB+1");
                x.version(1, 1, 1);
                x.door(0, 1, 1);
                due.refuses(x, STATE, "order");
                due.gives(x, 5, "asked");
                // one that is BARRED is not refused
                x.door(0, 1, NONE);
                x.version(1, 0, 1);
                x.door(1, 0, 1);
                due.tells(x, NONE, 8, "order");
            });
        s.says(43, "0 before.", x -> {
            due.gives(x, 0, "asked");
            x.row(0, 2);
            x.at(0, 2);
            x.told(0, 0);
            x.kept(0);
            x.orderAt(0);
            x.run(1);
            due.gives(x, 0, "asked");
        });
    }

    private void fractions() {
        s.says(44, "The upper number of the fraction that was told last; 0 before.", x -> {
            due.gives(x, 0, "upper");
            due.finds(x, NOUGHT, "mean");
            due.gives(x, 0, "upper");
            Make.answered(x);
            due.gives(x, 0, "upper");
            x.mean();
            due.gives(x, 3, "upper");
            x.call(0, 2, TWICE, 4, 50, 0);
            x.run(9);
            due.gives(x, 3, "upper");
            x.mean();
            due.gives(x, 9, "upper");
        });
        s.says(45, "Its lower number; 1 before.", x -> {
            due.gives(x, 1, "lower");
            due.finds(x, NOUGHT, "mean");
            due.gives(x, 1, "lower");
            Make.answered(x);
            x.call(0, 2, TWICE, 4, 50, 0);
            x.run(9);
            due.gives(x, 1, "lower");
            x.mean();
            due.gives(x, 2, "lower");
        });
    }

    private void counts() {
        s.says(46, "0 THE TICK, 1 CALLS, 2 OPEN ones, 3 FRAMES, 4 lost ones, 5 breaks, 6 ROWS, 7 TEXTS, 8 SHAPES that are there.", x -> {
            count(x, 0, 0, 0, 0, 0, 0, 0, 0, 0);
            x.breaks(0, 1, 1, 1);
            x.call(0, 1, TWICE, 1, 50, 0);
            x.call(0, 2, TWICE, 1, 50, 0);
            x.ping(0, 1);
            x.row(0, 0);
            x.row(5, 60);
            x.text(0, 0);
            x.shape(3, 0);
            count(x, 0, 2, 2, 3, 0, 1, 2, 1, 1);
            x.tick();
            count(x, 1, 2, 2, 3, 2, 1, 2, 1, 1);
            x.run(2);
            count(x, 3, 2, 1, 4, 2, 1, 2, 1, 1);
            x.tear(5);
            x.row(0, 1);
            x.text(0, 1);
            x.text(5, 0);
            x.shape(3, 5);
            count(x, 3, 2, 1, 4, 2, 1, 1, 2, 1);
            // all that can be there
            for (int k = 0; k < 6; k++) {
                x.row(k, 0);
                x.text(k, 0);
                x.shape(k, 0);
            }
            count(x, 3, 2, 1, 4, 2, 1, 6, 6, 4);
            x.cancel(0);
            count(x, 3, 2, 0, 5, 2, 1, 6, 6, 4);
        });
        s.says(46, "BAD.", x -> due.refuseAll(x, BAD, "count", new int[][] {{-1}, {9}, {MIN}, {MAX}}));
    }

    private void count(DoorCalls x, int... counts) {
        for (int what = 0; what < 9; what++) {
            due.gives(x, counts[what], "count", what);
        }
    }

    private void findings() {
        s.says(47, "The latest FINDING (0 before any).", x -> {
            due.gives(x, 0, "finding");
            due.refuses(x, BAD, "row", 6, 0);
            due.gives(x, 0, "finding");
            x.row(0, -1);
            due.gives(x, SIZE, "finding");
            x.at(0, 0);
            due.gives(x, NOTHING, "finding");
            x.row(0, 0);
            due.gives(x, NOTHING, "finding");
            x.at(0, 0);
            due.gives(x, BEYOND, "finding");
            x.mean();
            due.gives(x, NOUGHT, "finding");
            x.ping(0, 1);
            x.mark(0, 1);
            due.gives(x, UNLIKE, "finding");
            x.mark(0, 0);
            x.putIn(9);
            due.gives(x, UNLIKE, "finding");
        });
        s.says(48, "How often a FINDING (1 .. 5) was answered.", x -> {
            x.ping(0, 1);
            x.row(0, 0);
            for (int k = 0; k < 5; k++) {
                for (int f = 1; f <= 5; f++) {
                    due.gives(x, k * f, "findings", f);
                }
                for (int n = 0; n < 5; n++) {
                    if (n < 1) {
                        x.size(0);
                    }
                    if (n < 2) {
                        x.at(0, 0);
                    }
                    if (n < 3) {
                        x.mark(0, 2);
                    }
                    if (n < 4) {
                        x.mean();
                    }
                    x.text(0, -1);
                }
            }
        });
        s.says(48, "BAD.", x -> due.refuseAll(x, BAD, "findings", new int[][] {{0}, {6}, {-1}, {MIN}, {MAX}}));
    }

    private void digests() {
        s.says(49, "h = 17; then h = 31 h + v for each v: count() 0 to 8;", x -> {
            DigestByWords words = new DigestByWords();
            due.gives(x, words.of(x), "digest");
            x.breaks(0, 1, 2, 2);
            x.ping(0, 1);
            x.run(100);
            due.gives(x, words.of(x), "digest");
            due.gives(x, x.digest(), "digest");
        });
        s.says(49, "of each SHAPE (-1 once: missing) how many items, of each item() 0 to 5;", x -> {
            DigestByWords words = new DigestByWords();
            String[] shapes = {"", "pC9+1-8=7", "aBbBcBdBeBfBgBhBiBjBkBlB", "aR bS=999"};
            int[] items = {0, 1, 12, 2};
            for (int k = 3; k >= 0; k--) {
                Make.shape(x, k, shapes[k]);
                words.items[k] = items[k];
                x.text(5, 0);
                words.texts[5] = new int[0];
                due.gives(x, words.of(x), "digest");
            }
        });
        s.says(49, "of each SERVICE both VERSIONS, HANDS, MARK, KEEP, its doors to 0 .. 5, queue() and its asked(), kept();", x -> {
            DigestByWords words = new DigestByWords();
            x.text(0, 0);
            words.texts[0] = new int[0];
            for (int k = 0; k < 4; k++) {
                x.shape(k, 0);
                words.items[k] = 0;
            }
            for (int a = 0; a < 6; a++) {
                x.version(a, a, 9 - a);
                x.service(a, 1 + a % 3, a, 90 + a);
                words.settings[a] = new int[] {a, 9 - a, 1 + a % 3, a, 90 + a, NONE, NONE, NONE, NONE, NONE, NONE};
                for (int b = 0; b < 6; b++) {
                    if (x.door(a, b, (a + b) % 4) == NONE) {
                        words.settings[a][5 + b] = (a + b) % 4;
                    }
                }
            }
            due.gives(x, words.of(x), "digest");
            for (int c = 0; c < 30; c++) {
                x.call(c % 6, (c + 3 + c / 6) % 6, c % 3, 1 + c % 4, 50, 0);
            }
            for (int k = 0; k < 9; k++) {
                x.tick();
                due.gives(x, words.of(x), "digest");
            }
        });
        s.says(49, "of each CALL told() 0 to 6, where() 0 to 3, stream() 0 to 2; of each FRAME frame() 0 to 4;", x -> {
            DigestByWords words = new DigestByWords();
            allKinds(x);
            words.settings[1] = new int[] {0, 0, 1, 0, 20, NONE, NONE, NONE, NONE, NONE, NONE};
            due.gives(x, words.of(x), "digest");
            for (int k = 0; k < 20; k++) {
                x.call(2, 3, k % 3, 1 + k % 9, 10 + k, k % 6);
                x.tick();
                due.gives(x, words.of(x), "digest");
            }
        });
        s.says(49, "of each ROW its size (-1: missing) and places, of each TEXT likewise.", x -> {
            DigestByWords words = new DigestByWords();
            Make.row(x, 0, MIN, -1, 0, 1, MAX);
            words.rows[0] = new int[] {MIN, -1, 0, 1, MAX};
            due.gives(x, words.of(x), "digest");
            x.row(5, 60);
            words.rows[5] = new int[60];
            Make.bytes(x, 5, 127, 128, 255, 0);
            words.texts[5] = new int[] {127, -128, -1, 0};
            x.text(0, 0);
            words.texts[0] = new int[0];
            due.gives(x, words.of(x), "digest");
            x.tear(0);
            words.rows[0] = null;
            x.row(1, 0);
            words.rows[1] = new int[0];
            due.gives(x, words.of(x), "digest");
        });
    }
}
