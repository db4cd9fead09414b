/** Promises 1 to 19: rows, texts, shapes, writing, reading, fitting. */
final class EdgesOfPromises1 {
    private static final int BAD = DoorCalls.BAD, STATE = DoorCalls.STATE, NONE = DoorCalls.NONE;
    private static final int NOTHING = 1, BEYOND = 2, UNLIKE = 3, SIZE = 5;
    private static final int MAX = Integer.MAX_VALUE, MIN = Integer.MIN_VALUE;

    private final Sentences s;
    private final Due due;

    EdgesOfPromises1(Sentences s) {
        this.s = s;
        this.due = s.due;
    }

    void all() {
        newObject();
        rows();
        places();
        copying();
        texts();
        shapes();
        items();
        writing();
        reading();
        handingOn();
        fitting();
    }

    private void newObject() {
        s.says(1, "No ROWS, TEXTS, SHAPES, CALLS.", x -> {
            for (int what = 0; what <= 8; what++) {
                due.gives(x, 0, "count", what);
            }
            for (int k = 0; k <= 5; k++) {
                due.finds(x, NOTHING, "tear", k);
                due.finds(x, NOTHING, "fault", k);
            }
            for (int k = 0; k <= 3; k++) {
                due.finds(x, NOTHING, "item", k, 0, 0);
            }
            due.refuses(x, BAD, "told", 0, 0);
            due.refuses(x, BAD, "frame", 0, 0);
            // one object knows nothing of another one
            x.row(0, 1);
            due.finds(new DoorCalls(), NOTHING, "at", 0, 0);
        });
    }

    private void rows() {
        s.says(2, "A ROW is there with n ints 0: n.", x -> {
            for (int n : new int[] {0, 1, 59, 60}) {
                Make.row(x, 3, 7, 8, 9);
                due.gives(x, n, "row", 3, n);
                due.same("row 3", Make.rowOf(x, 3), "0 ".repeat(n).trim());
                due.finds(x, BEYOND, "at", 3, n);
            }
            // longer again: what was there ahead does not come back
            Make.row(x, 3, 7, 8, 9);
            x.row(3, 1);
            due.gives(x, 3, "row", 3, 3);
            due.same("row 3", Make.rowOf(x, 3), "0 0 0");
        });
        s.says(2, "BAD: also n above 60;", x -> {
            Make.row(x, 0, 5);
            due.refuseAll(x, BAD, "row", new int[][] {
                {0, 61}, {0, MAX}, {-1, 0}, {6, 0}, {MIN, 0}, {MAX, 0}, {6, -1}, {-1, 61}, {-1, -1}});
        });
        s.says(2, "SIZE: below 0.", x -> {
            Make.row(x, 0, 5);
            due.findAll(x, SIZE, "row", new int[][] {{0, -1}, {5, MIN}, {0, -61}});
            due.finds(x, NOTHING, "at", 5, 0);
        });
        s.says(5, "A ROW is missing: 1.", x -> {
            Make.row(x, 5, 4, 5);
            x.row(0, 0);
            due.gives(x, 1, "tear", 5);
            due.gives(x, 1, "tear", 0);
            due.gives(x, 0, "count", 6);
            due.finds(x, NOTHING, "lay", 5, 0, 1);
            due.gives(x, 2, "row", 5, 2);
            due.same("row 5", Make.rowOf(x, 5), "0 0");
        });
        s.says(5, "BAD; NOTHING.", x -> {
            x.row(0, 1);
            due.refuseAll(x, BAD, "tear", new int[][] {{-1}, {6}, {MIN}, {MAX}});
            due.finds(x, NOTHING, "tear", 1);
            x.tear(0);
            due.finds(x, NOTHING, "tear", 0);
        });
    }

    private void places() {
        s.says(3, "Place i of a ROW is v: what it was, told by asked(): 1.", x -> {
            x.row(5, 60);
            int[] last = {0, 0};
            for (int v : new int[] {1, -1, MAX, MIN, 0, 1000}) {
                for (int k = 0; k < 2; k++) {
                    due.asks(x, last[k], "lay", 5, k * 59, v + k);
                    last[k] = v + k;
                }
            }
            due.asks(x, 1000, "at", 5, 0);
            due.asks(x, 1001, "at", 5, 59);
            due.asks(x, 0, "at", 5, 1);
            due.asks(x, 0, "at", 5, 58);
        });
        s.says(3, "BAD; NOTHING; BEYOND.", x -> {
            x.row(0, 60);
            x.row(1, 0);
            due.refuseAll(x, BAD, "lay", new int[][] {{-1, 0, 1}, {6, 0, 1}, {6, -1, 1}, {MIN, 0, 1}, {MAX, 99, 1}});
            due.findAll(x, NOTHING, "lay", new int[][] {{2, 0, 1}, {2, 60, 1}, {5, -1, 1}});
            due.findAll(x, BEYOND, "lay", new int[][] {{0, 60, 1}, {0, -1, 1}, {0, MAX, 1}, {0, MIN, 1}, {1, 0, 1}});
        });
        s.says(4, "Place i of a ROW, told by asked(): 1.", x -> {
            Make.row(x, 0, MIN, -1, 0, MAX);
            due.asks(x, MIN, "at", 0, 0);
            due.asks(x, -1, "at", 0, 1);
            due.asks(x, 0, "at", 0, 2);
            due.asks(x, MAX, "at", 0, 3);
            due.asks(x, MAX, "at", 0, 3);
        });
        s.says(4, "BAD; NOTHING; BEYOND.", x -> {
            Make.row(x, 0, 8, 9);
            x.row(1, 0);
            due.refuseAll(x, BAD, "at", new int[][] {{-1, 0}, {6, 0}, {6, -1}, {MIN, 0}, {MAX, 0}});
            due.findAll(x, NOTHING, "at", new int[][] {{2, 0}, {2, 60}, {5, -1}});
            due.findAll(x, BEYOND, "at", new int[][] {{0, 2}, {0, -1}, {0, MAX}, {0, MIN}, {1, 0}});
        });
    }

    private void copying() {
        s.says(6, "n places of a ROW, from one on, come to those of another one (perhaps itself) from one on, as if taken ahead: 1.",
            x -> {
                Make.row(x, 0, 1, 2, 3, 4, 5);
                Make.row(x, 1, 6, 7, 8);
                due.gives(x, 1, "copy", 0, 0, 0, 1, 4);
                due.same("to the right", Make.rowOf(x, 0), "1 1 2 3 4");
                due.gives(x, 1, "copy", 0, 1, 0, 0, 4);
                due.same("to the left", Make.rowOf(x, 0), "1 2 3 4 4");
                due.gives(x, 1, "copy", 0, 0, 0, 0, 5);
                due.same("onto itself", Make.rowOf(x, 0), "1 2 3 4 4");
                due.gives(x, 1, "copy", 1, 0, 0, 2, 3);
                due.same("all of it to the end", Make.rowOf(x, 0), "1 2 6 7 8");
                due.same("what it came from", Make.rowOf(x, 1), "6 7 8");
                due.gives(x, 1, "copy", 0, 4, 1, 0, 1);
                due.same("one", Make.rowOf(x, 1), "8 7 8");
                due.gives(x, 1, "copy", 0, 0, 1, 0, 0);
                due.gives(x, 1, "copy", 0, 5, 1, 3, 0);
                due.same("none", Make.rowOf(x, 1), "8 7 8");
                x.row(2, 0);
                due.gives(x, 1, "copy", 2, 0, 2, 0, 0);
            });
        s.says(6, "BAD;", x -> {
            x.row(0, 3);
            due.refuseAll(x, BAD, "copy", new int[][] {
                {-1, 0, 0, 0, 1}, {6, 0, 0, 0, 1}, {0, 0, -1, 0, 1}, {0, 0, 6, 0, 1}, {6, 0, 0, 0, -1}, {1, 0, 6, 0, -1}});
        });
        s.says(6, "SIZE: n below 0;", x -> {
            x.row(0, 3);
            due.findAll(x, SIZE, "copy", new int[][] {
                {0, 0, 0, 0, -1}, {0, 0, 0, 0, MIN}, {1, 0, 0, 0, -1}, {0, 0, 1, 0, -1}, {0, 9, 0, 9, -1}});
        });
        s.says(6, "NOTHING: either;", x -> {
            x.row(0, 3);
            due.findAll(x, NOTHING, "copy", new int[][] {
                {1, 0, 0, 0, 1}, {0, 0, 1, 0, 1}, {1, 0, 2, 0, 0}, {1, 9, 0, 0, 1}, {0, 9, 1, 0, 1}, {1, -1, 1, -1, 0}});
        });
        s.says(6, "BEYOND: not so many there.", x -> {
            Make.row(x, 0, 1, 2, 3);
            Make.row(x, 1, 4, 5);
            x.row(2, 0);
            due.findAll(x, BEYOND, "copy", new int[][] {
                {0, 0, 1, 0, 3}, {1, 0, 0, 0, 3}, {0, 2, 1, 0, 2}, {0, 0, 1, 1, 2}, {0, 3, 1, 0, 1}, {0, 0, 1, 2, 1},
                {0, -1, 1, 0, 1}, {0, 0, 1, -1, 1}, {0, 4, 1, 0, 0}, {0, 0, 1, 3, 0}, {0, -1, 1, 0, 0}, {0, 0, 1, -1, 0},
                {0, MAX, 1, 0, 1}, {0, 0, 1, MAX, 1}, {0, 1, 1, 0, MAX}, {0, MAX, 1, MAX, MAX}, {0, MIN, 1, MIN, MAX},
                {2, 0, 0, 0, 1}, {0, 0, 2, 0, 1}, {0, 0, 0, 1, 3}});
        });
    }

    private void texts() {
        s.says(7, "A TEXT is there with n blanks: n.", x -> {
            for (int n : new int[] {0, 1, 59, 60}) {
                Make.text(x, 3, "abc");
                due.gives(x, n, "text", 3, n);
                due.gives(x, n, "size", 3);
                due.same("text 3", Make.textOf(x, 3), "32 ".repeat(n).trim());
            }
        });
        s.says(7, "BAD: also n above 60;", x -> {
            Make.text(x, 0, "a");
            due.refuseAll(x, BAD, "text", new int[][] {{0, 61}, {0, MAX}, {-1, 0}, {6, 0}, {MIN, 0}, {6, -1}, {-1, -1}});
        });
        s.says(7, "SIZE: below 0.", x -> {
            Make.text(x, 0, "a");
            due.findAll(x, SIZE, "text", new int[][] {{0, -1}, {5, MIN}});
            due.finds(x, NOTHING, "size", 5);
        });
        s.says(8, "Byte i of a TEXT is v, cut to a byte: what it was, and 1000 more.", x -> {
            x.text(5, 60);
            int[][] cut = {
                {0, 0}, {127, 127}, {128, -128}, {255, -1}, {256, 0}, {383, 127}, {384, -128}, {-1, -1}, {-128, -128},
                {-129, 127}, {-256, 0}, {MAX, -1}, {MIN, 0}, {65, 65}};
            int[] last = {32, 32};
            for (int[] c : cut) {
                for (int k = 0; k < 2; k++) {
                    due.gives(x, 1000 + last[k], "put", 5, k * 59, c[0]);
                    last[k] = c[1];
                }
            }
            due.gives(x, 1032, "put", 5, 58, 1);
        });
        s.says(8, "BAD; NOTHING; BEYOND.", x -> {
            x.text(0, 60);
            x.text(1, 0);
            due.refuseAll(x, BAD, "put", new int[][] {{-1, 0, 1}, {6, 0, 1}, {6, -1, 1}, {MIN, 0, 1}, {MAX, 60, 1}});
            due.findAll(x, NOTHING, "put", new int[][] {{2, 0, 1}, {5, 60, 1}, {5, -1, 1}});
            due.findAll(x, BEYOND, "put", new int[][] {{0, 60, 1}, {0, -1, 1}, {0, MAX, 1}, {0, MIN, 1}, {1, 0, 1}});
        });
        s.says(9, "How many bytes a TEXT has.", x -> {
            for (int n : new int[] {0, 1, 60, 59}) {
                x.text(2, n);
                due.gives(x, n, "size", 2);
            }
            Make.shape(x, 0, "aB");
            Make.row(x, 0, 7);
            x.write(0, 0, 0, 2);
            due.gives(x, 2, "size", 2);
        });
        s.says(9, "BAD; NOTHING.", x -> {
            x.text(0, 1);
            due.refuseAll(x, BAD, "size", new int[][] {{-1}, {6}, {MIN}, {MAX}});
            due.findAll(x, NOTHING, "size", new int[][] {{1}, {5}});
        });
    }

    private void shapes() {
        s.says(10, "A FAULT of a TEXT; NONE: there is none.", x -> {
            Make.text(x, 5, "aB bX");
            due.gives(x, 4, "fault", 5);
            x.put(5, 4, 'S');
            due.gives(x, NONE, "fault", 5);
            x.put(5, 0, '?');
            due.gives(x, 0, "fault", 5);
            x.text(5, 0);
            due.gives(x, NONE, "fault", 5);
            due.gives(x, 0, "count", 8);
        });
        s.says(10, "BAD; NOTHING.", x -> {
            x.text(0, 1);
            due.refuseAll(x, BAD, "fault", new int[][] {{-1}, {6}, {MIN}, {MAX}});
            due.findAll(x, NOTHING, "fault", new int[][] {{1}, {5}});
        });
        s.says(11, "A SHAPE by a TEXT (anew): how many items.", x -> {
            Make.text(x, 0, "aB bS=1 cR+4");
            Make.text(x, 1, "dC2");
            x.text(2, 0);
            due.gives(x, 3, "shape", 3, 0);
            due.gives(x, 1, "shape", 3, 1);
            due.tells(x, 1, 1, "fields", 3, 0);
            due.finds(x, BEYOND, "item", 3, 1, 0);
            due.gives(x, 0, "shape", 3, 2);
            due.tells(x, 0, 0, "fields", 3, 9);
            due.gives(x, 1, "count", 8);
            due.gives(x, 3, "shape", 0, 0);
            due.gives(x, 2, "count", 8);
            // the shape stays as its text changes
            x.text(0, 0);
            due.tells(x, 3, 2, "fields", 0, 4);
        });
        s.says(11, "BAD; NOTHING; STATE: a FAULT. (STATE behind NOTHING.)", x -> {
            Make.shape(x, 0, "aB");
            Make.text(x, 0, "aX");
            due.refuseAll(x, BAD, "shape", new int[][] {{-1, 0}, {4, 0}, {0, -1}, {0, 6}, {4, 1}, {MAX, MIN}});
            due.findAll(x, NOTHING, "shape", new int[][] {{0, 1}, {3, 4}});
            due.refuseAll(x, STATE, "shape", new int[][] {{0, 0}, {3, 0}});
            due.tells(x, 1, 1, "fields", 0, 0);
        });
    }

    private void items() {
        s.says(12, "Item i of a SHAPE: 0 NAME, 1 SORT, 2 n of a choice (0), 3 SINCE, 4 TILL, 5 DEFAULT (NONE), told by asked(): 1.",
            x -> {
                Make.shape(x, 3, "pC9+0-9=8 aB bS+9=999 cR-0 dB=255 eC1=0 fC2");
                int[][] facts = {
                    {15, 3, 9, 0, 9, 8}, {0, 0, 0, 0, 9, NONE}, {1, 1, 0, 9, 9, 999}, {2, 2, 0, 0, 0, NONE},
                    {3, 0, 0, 0, 9, 255}, {4, 3, 1, 0, 9, 0}, {5, 3, 2, 0, 9, NONE}};
                for (int i = 0; i < facts.length; i++) {
                    for (int what = 0; what < 6; what++) {
                        due.asks(x, facts[i][what], "item", 3, i, what);
                    }
                }
                Make.shape(x, 2, "aBbBcBdBeBfBgBhBiBjBkBlS");
                due.asks(x, 11, "item", 2, 11, 0);
                due.asks(x, 1, "item", 2, 11, 1);
            });
        s.says(12, "BAD; NOTHING; BEYOND.", x -> {
            Make.shape(x, 0, "aB bB");
            Make.shape(x, 1, "");
            due.refuseAll(x, BAD, "item", new int[][] {
                {-1, 0, 0}, {4, 0, 0}, {0, 0, -1}, {0, 0, 6}, {2, 0, 6}, {0, 2, -1}, {MIN, 0, 0}, {0, 0, MAX}});
            due.findAll(x, NOTHING, "item", new int[][] {{2, 0, 0}, {3, -1, 5}, {3, 12, 5}});
            due.findAll(x, BEYOND, "item", new int[][] {{0, 2, 0}, {0, -1, 5}, {0, MAX, 0}, {0, MIN, 0}, {1, 0, 0}});
        });
        s.says(13, "How many FIELDS a VERSION has; how many are NEEDED by asked().", x -> {
            Make.shape(x, 2, "aB-4=1 bS+2 cR+4-6 dC3=2 eB+9");
            int[][] want = {{2, 0}, {2, 0}, {3, 1}, {3, 1}, {4, 2}, {3, 2}, {3, 2}, {2, 1}, {2, 1}, {3, 2}};
            for (int v = 0; v <= 9; v++) {
                due.tells(x, want[v][0], want[v][1], "fields", 2, v);
            }
            // anew, with fewer items: those of the longer one are gone
            Make.shape(x, 2, "aB");
            due.tells(x, 1, 1, "fields", 2, 4);
            Make.shape(x, 2, "");
            due.tells(x, 0, 0, "fields", 2, 0);
        });
        s.says(13, "BAD; NOTHING.", x -> {
            Make.shape(x, 0, "aB");
            due.refuseAll(x, BAD, "fields", new int[][] {{-1, 0}, {4, 0}, {0, -1}, {0, 10}, {1, 10}, {MAX, 0}, {0, MIN}});
            due.findAll(x, NOTHING, "fields", new int[][] {{1, 0}, {3, 9}});
        });
    }

    private void writing() {
        s.says(14, "VALUES of a ROW are written by a VERSION to a TEXT (anew): how many bytes.", x -> {
            Make.shape(x, 0, "aB bS+1 cR+2");
            Make.text(x, 5, "longer than what comes");
            Make.row(x, 0, 200);
            due.gives(x, 2, "write", 0, 0, 0, 5);
            due.same("text 5", Make.textOf(x, 5), "0 -56");
            Make.row(x, 0, 1, 2);
            due.gives(x, 5, "write", 0, 1, 0, 5);
            due.same("text 5", Make.textOf(x, 5), "0 1 17 0 2");
            Make.row(x, 0, 1, 2, 0);
            due.gives(x, 7, "write", 0, 9, 0, 4);
            due.gives(x, 2, "count", 7);
            due.same("the row stays", Make.rowOf(x, 0), "1 2 0");
            Make.shape(x, 0, "");
            x.row(0, 0);
            due.gives(x, 0, "write", 0, 0, 0, 3);
            due.gives(x, 0, "size", 3);
        });
        s.says(14, "BAD; NOTHING: the SHAPE, the ROW;", x -> {
            Make.shape(x, 0, "aB");
            Make.row(x, 0, 256);
            due.refuseAll(x, BAD, "write", new int[][] {
                {-1, 0, 0, 0}, {4, 0, 0, 0}, {0, -1, 0, 0}, {0, 10, 0, 0}, {0, 0, -1, 0}, {0, 0, 6, 0}, {0, 0, 0, -1},
                {0, 0, 0, 6}, {1, 0, 1, 6}});
            due.findAll(x, NOTHING, "write", new int[][] {{1, 0, 0, 0}, {0, 0, 1, 0}, {3, 9, 5, 5}});
        });
        s.says(14, "SIZE: not as many numbers as due;", x -> {
            Make.shape(x, 0, "aB bR");
            int[][] rows = {{}, {1}, {1, 1}, {1, 2, 3}, {1, 9, 1, 2, 3, 4, 5, 6, 7, 8}, {1, 0, 0}, {1, 1, 1, 1}};
            for (int[] row : rows) {
                // numbers of a longer row that was there ahead count for nothing
                Make.row(x, 0, 300, 300, 300, 300, 300, 300, 300, 300, 300, 300, 300, 300);
                Make.row(x, 0, row);
                due.finds(x, SIZE, "write", 0, 0, 0, 0);
            }
            Make.shape(x, 1, "");
            x.row(0, 1);
            due.finds(x, SIZE, "write", 1, 0, 0, 0);
        });
        s.says(14, "UNLIKE: one that is none;", x -> {
            Make.shape(x, 0, "aB bS cR dC3");
            int[][] rows = {
                {-1, 0, 0, 0}, {256, 0, 0, 0}, {0, -1, 0, 0}, {0, 65536, 0, 0}, {0, 0, -1, 0}, {0, 0, 10, 0},
                {0, 0, 1, -1, 0}, {0, 0, 1, 256, 0}, {0, 0, 0, -1}, {0, 0, 0, 3}, {MIN, 0, 0, 0}, {0, MAX, 0, 0}};
            for (int[] row : rows) {
                Make.row(x, 0, row);
                due.finds(x, UNLIKE, "write", 0, 0, 0, 0);
            }
        });
        s.says(14, "BEYOND: more than 60 bytes.", x -> {
            Make.shape(x, 0, "aR bR cR dR eR fB gS");
            // six heads and counts, five times 9 or less, one byte, one short: 10 + 2 + 3 and the bytes of the rows
            x.row(0, 5 + 45 + 2);
            for (int k = 0; k < 5; k++) {
                x.lay(0, k * 10, 9);
            }
            due.gives(x, 60, "write", 0, 0, 0, 0);
            due.gives(x, 60, "size", 0);
            Make.shape(x, 0, "aR bR cR dR eR fS gS");
            x.text(0, 1);
            due.finds(x, BEYOND, "write", 0, 0, 0, 0);
            due.gives(x, 1, "size", 0);
            due.finds(x, BEYOND, "write", 0, 0, 0, 3);
            due.finds(x, NOTHING, "size", 3);
        });
        s.says(14, "(SIZE, UNLIKE: the first in order of FIELDS.)", x -> {
            Make.shape(x, 0, "aB bR cS");
            int[][] unlike = {{256}, {0, 10}, {0, 1, 256}, {256, 0, 0, 0, 0}, {0, 0, -1, 5, 5}};
            for (int[] row : unlike) {
                Make.row(x, 0, row);
                due.finds(x, UNLIKE, "write", 0, 0, 0, 0);
            }
            int[][] size = {{0, 2, 0}, {0, 9}, {0, 0}, {0}};
            for (int[] row : size) {
                Make.row(x, 0, row);
                due.finds(x, SIZE, "write", 0, 0, 0, 0);
            }
            // both are ahead of BEYOND
            Make.shape(x, 0, "aR bR cR dR eR fS gS hB");
            x.row(0, 52);
            for (int k = 0; k < 5; k++) {
                x.lay(0, k * 10, 9);
            }
            due.finds(x, SIZE, "write", 0, 0, 0, 0);
            x.row(0, 53);
            for (int k = 0; k < 5; k++) {
                x.lay(0, k * 10, 9);
            }
            x.lay(0, 52, 256);
            due.finds(x, UNLIKE, "write", 0, 0, 0, 0);
            x.lay(0, 52, 255);
            due.finds(x, BEYOND, "write", 0, 0, 0, 0);
        });
    }

    private void reading() {
        s.says(15, "A TEXT is read by a VERSION, VALUES come to a ROW (anew): NONE;", x -> {
            Make.shape(x, 0, "aB bS+1=300 cR+2-2");
            Make.row(x, 5, 1, 2, 3, 4, 5, 6, 7);
            Make.bytes(x, 5, 0, 255);
            due.gives(x, NONE, "read", 0, 0, 5, 5);
            due.same("row 5", Make.rowOf(x, 5), "255");
            due.gives(x, NONE, "read", 0, 9, 5, 4);
            due.same("row 4", Make.rowOf(x, 4), "255 300");
            due.same("the text stays", Make.textOf(x, 5), "0 -1");
            Make.bytes(x, 5, 34, 2, 128, 0, 0, 7);
            due.gives(x, NONE, "read", 0, 2, 5, 4);
            due.same("row 4", Make.rowOf(x, 4), "7 300 2 128 0");
            Make.shape(x, 0, "");
            due.gives(x, NONE, "read", 0, 0, 5, 4);
            due.finds(x, BEYOND, "at", 4, 0);
            due.gives(x, 2, "count", 6);
        });
        s.says(15, "else the WRONG place (nothing comes).", x -> {
            Make.shape(x, 0, "aB");
            Make.row(x, 0, 8, 9);
            Make.bytes(x, 0, 5, 1, 0, 3);
            x.read(0, 0, 0, 1);
            Make.bytes(x, 0, 6, 2, 0);
            long before = x.digest();
            due.gives(x, 3, "read", 0, 0, 0, 0);
            due.gives(x, 3, "read", 0, 0, 0, 3);
            due.gives(x, before, "digest");
            due.gives(x, 1, "names", 0);
            due.gives(x, 32, "names", 1);
            x.text(1, 0);
            x.handOn(1);
            due.same("what was kept", Make.textOf(x, 1), "5 1");
            due.gives(x, 0, "finding");
        });
        s.says(15, "BAD; NOTHING: the SHAPE, the TEXT;", x -> {
            Make.shape(x, 0, "aB");
            Make.bytes(x, 0, 64);
            due.refuseAll(x, BAD, "read", new int[][] {
                {-1, 0, 0, 0}, {4, 0, 0, 0}, {0, -1, 0, 0}, {0, 10, 0, 0}, {0, 0, -1, 0}, {0, 0, 6, 0}, {0, 0, 0, -1},
                {0, 0, 0, 6}, {1, 0, 1, 6}});
            due.findAll(x, NOTHING, "read", new int[][] {{1, 0, 0, 0}, {0, 0, 1, 0}, {3, 9, 4, 5}});
        });
        s.says(15, "BEYOND: more than 60 numbers. (BEYOND only if no place is WRONG.)", x -> {
            // 60 bytes and 12 items bring 60 numbers at the most, and these are read
            Make.shape(x, 0, "gB=1hB=2iB=3jB=4kB=5lB=6aRbRcRdReRfR");
            x.text(0, 60);
            for (int k = 0; k < 6; k++) {
                x.put(0, k * 11, 32 + k);
                x.put(0, k * 11 + 1, k < 5 ? 9 : 3);
            }
            due.gives(x, NONE, "read", 0, 0, 0, 1);
            due.asks(x, 6, "at", 1, 5);
            due.asks(x, 32, "at", 1, 59);
            due.finds(x, BEYOND, "at", 1, 60);
            x.put(0, 56, 10);
            due.gives(x, 56, "read", 0, 0, 0, 1);
            due.gives(x, BEYOND, "finding");
            due.gives(x, 1, "findings", BEYOND);
        });
        s.says(16, "Of the latest read() that answered NONE: NAMES (bits) READ (0), UNREAD (1), by DEFAULT (2);", x -> {
            Make.shape(x, 0, "aB pS=1 bC2=1");
            Make.bytes(x, 0, 0, 1, 31, 0, 1, 12, 1);
            x.read(0, 0, 0, 0);
            due.gives(x, 1 + 32768, "names", 0);
            due.gives(x, 4096, "names", 1);
            due.gives(x, 2, "names", 2);
            // one that is wrong, one that is refused: those of the latest good one stay
            Make.bytes(x, 1, 12, 1, 12);
            due.gives(x, 2, "read", 0, 0, 1, 0);
            due.finds(x, NOTHING, "read", 1, 0, 0, 0);
            due.gives(x, 1 + 32768, "names", 0);
            due.gives(x, 4096, "names", 1);
            due.gives(x, 2, "names", 2);
            // a name that is unread and by default at once
            Make.bytes(x, 0, 0, 1, 1, 9);
            due.gives(x, NONE, "read", 0, 0, 0, 0);
            due.gives(x, 1, "names", 0);
            due.gives(x, 2, "names", 1);
            due.gives(x, 2 + 32768, "names", 2);
        });
        s.says(16, "0 before. BAD.", x -> {
            for (int what = 0; what <= 2; what++) {
                due.gives(x, 0, "names", what);
            }
            Make.shape(x, 0, "aB");
            x.text(0, 0);
            due.gives(x, 0, "read", 0, 0, 0, 0);
            for (int what = 0; what <= 2; what++) {
                due.gives(x, 0, "names", what);
            }
            due.refuseAll(x, BAD, "names", new int[][] {{-1}, {3}, {MIN}, {MAX}});
        });
    }

    private void handingOn() {
        s.says(17, "Bytes kept UNREAD by that read() come behind those of a TEXT: how many it has then.", x -> {
            Make.text(x, 4, "ab");
            due.gives(x, 2, "handOn", 4);
            Make.shape(x, 0, "aB");
            Make.bytes(x, 0, 63, 200, 0, 1, 17, 1, 2);
            x.read(0, 0, 0, 0);
            x.text(0, 0);
            due.gives(x, 7, "handOn", 4);
            due.same("text 4", Make.textOf(x, 4), "97 98 63 -56 17 1 2");
            due.gives(x, 12, "handOn", 4);
            due.gives(x, 5, "handOn", 0);
            // a reading that keeps none
            Make.bytes(x, 1, 0, 1);
            x.read(0, 0, 1, 0);
            due.gives(x, 5, "handOn", 0);
        });
        s.says(17, "BAD; NOTHING; BEYOND: more than 60.", x -> {
            Make.shape(x, 0, "");
            Make.bytes(x, 0, 17, 1, 2);
            x.read(0, 0, 0, 0);
            due.refuseAll(x, BAD, "handOn", new int[][] {{-1}, {6}, {MIN}, {MAX}});
            due.findAll(x, NOTHING, "handOn", new int[][] {{1}, {4}});
            x.text(1, 58);
            due.finds(x, BEYOND, "handOn", 1);
            x.text(1, 57);
            due.gives(x, 60, "handOn", 1);
            due.finds(x, BEYOND, "handOn", 1);
            // none can be handed on to a full one
            x.text(2, 0);
            x.read(0, 0, 2, 0);
            due.gives(x, 60, "handOn", 1);
        });
    }

    private void fitting() {
        s.says(18, "Whether a VERSION FITS another one: 1, 0.", x -> {
            Make.shape(x, 3, "aB+1-8 bB+9=0");
            for (int w = 0; w <= 9; w++) {
                for (int v = 0; v <= 9; v++) {
                    boolean needs = v >= 1 && v <= 8;
                    boolean has = w >= 1 && w <= 8;
                    due.gives(x, needs && !has ? 0 : 1, "fits", 3, w, v);
                }
            }
        });
        s.says(18, "BAD; NOTHING.", x -> versionRefusals(x, "fits"));
        s.says(19, "The least NAME by which a VERSION does not FIT another one; NONE.", x -> {
            Make.shape(x, 0, "pB+1 bC2-0 bC1+1 cB+1=1 aB");
            due.gives(x, 1, "unlike", 0, 0, 1);
            due.gives(x, NONE, "unlike", 0, 1, 0);
            due.gives(x, NONE, "unlike", 0, 0, 0);
            Make.shape(x, 0, "pB+1 aC2-0 aC1+1");
            due.gives(x, 0, "unlike", 0, 0, 1);
            Make.shape(x, 0, "pB+1");
            due.gives(x, 15, "unlike", 0, 0, 9);
            due.gives(x, NONE, "unlike", 0, 9, 0);
            Make.shape(x, 0, "");
            due.gives(x, NONE, "unlike", 0, 0, 9);
        });
        s.says(19, "BAD; NOTHING.", x -> versionRefusals(x, "unlike"));
    }

    private void versionRefusals(DoorCalls x, String name) {
        Make.shape(x, 0, "aB");
        due.refuseAll(x, BAD, name, new int[][] {
            {-1, 0, 0}, {4, 0, 0}, {0, -1, 0}, {0, 10, 0}, {0, 0, -1}, {0, 0, 10}, {1, 10, 0}, {MIN, 0, 0}, {0, MAX, 0}});
        due.findAll(x, NOTHING, name, new int[][] {{1, 0, 0}, {3, 9, 9}});
    }
}
