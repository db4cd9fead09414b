/** The document's part 1, further on: versions, values, bytes, reading and what fits. */
final class EdgesOfReading {
    private static final int BAD = DoorCalls.BAD, NONE = DoorCalls.NONE;

    private final Sentences s;
    private final Due due;

    EdgesOfReading(Sentences s) {
        this.s = s;
        this.due = s.due;
    }

    void all() {
        versions();
        values();
        reading();
        wrongPlaces();
        valuesThatCome();
        fitting();
    }

    private void writes(DoorCalls x, int v, String bytes, int... numbers) {
        Make.row(x, 0, numbers);
        due.is("write of " + Make.rowOf(x, 0), x.write(0, v, 0, 0), bytes.split(" ").length);
        due.same("bytes", Make.textOf(x, 0), bytes);
    }

    private void reads(DoorCalls x, int v, String numbers, int... bytes) {
        Make.bytes(x, 1, bytes);
        due.is("read of " + Make.textOf(x, 1), x.read(0, v, 1, 1), NONE);
        due.same("numbers", Make.rowOf(x, 1), numbers);
    }

    private void wrong(DoorCalls x, int v, int place, int... bytes) {
        Make.bytes(x, 1, bytes);
        long before = x.digest();
        int finding = x.finding();
        int beyond = x.findings(2);
        due.is("read of " + Make.textOf(x, 1), x.read(0, v, 1, 1), place);
        due.is("nothing comes", x.digest(), before);
        due.is("no finding", x.finding(), finding);
        due.is("no finding is counted", x.findings(2), beyond);
    }

    private void names(DoorCalls x, int read, int unread, int byDefault) {
        due.gives(x, read, "names", 0);
        due.gives(x, unread, "names", 1);
        due.gives(x, byDefault, "names", 2);
    }

    private void kept(DoorCalls x, String bytes) {
        x.text(2, 0);
        x.handOn(2);
        due.same("bytes kept", Make.textOf(x, 2), bytes);
    }

    private void versions() {
        s.says(0, "VERSION v (0 .. 9) of a SHAPE has the items with SINCE no more and TILL no less, as they come.", x -> {
            Make.shape(x, 0, "cB+3-6 aB-0 dB+9 bB+6");
            int[] fields = {1, 0, 0, 1, 1, 1, 2, 1, 1, 2};
            for (int v = 0; v <= 9; v++) {
                due.gives(x, fields[v], "fields", 0, v);
            }
            due.refuseAll(x, BAD, "fields", new int[][] {{0, -1}, {0, 10}});
            writes(x, 6, "2 31 1 32", 31, 32);
            writes(x, 9, "3 33 1 34", 33, 34);
            reads(x, 6, "8 9", 1, 9, 2, 8);
        });
    }

    private void values() {
        s.says(0, "VALUES of a VERSION are a ROW: of each FIELD, in order, one number, of R how many and then these.", x -> {
            Make.shape(x, 0, "cR aB bR dS");
            writes(x, 0, "34 0 0 5 33 2 8 9 19 1 4", 0, 5, 2, 8, 9, 260);
            reads(x, 0, "0 5 2 8 9 260", 34, 0, 0, 5, 33, 2, 8, 9, 19, 1, 4);
            writes(x, 0, "34 3 1 2 3 0 7 33 0 19 0 0", 3, 1, 2, 3, 7, 0, 0);
            reads(x, 0, "3 1 2 3 7 0 0", 34, 3, 1, 2, 3, 0, 7, 33, 0, 19, 0, 0);
        });
        s.says(0, "BYTES: of each FIELD 16 times its SORT's number (B 0, S 1, R 2, C 3) and its NAME;", x -> {
            Make.shape(x, 0, "aB pC9 bS oR");
            writes(x, 0, "0 0 63 0 17 0 0 46 0", 0, 0, 0, 0);
            Make.shape(x, 0, "pB aC1 oS bR");
            writes(x, 0, "15 0 48 0 30 0 0 33 0", 0, 0, 0, 0);
            Make.shape(x, 0, "pS aS-0 aR+1");
            writes(x, 0, "31 0 0 16 0 0", 0, 0);
            writes(x, 1, "31 0 0 32 0", 0, 0);
        });
        s.says(0, "then B one byte, S two (the high one ahead), R how many and these, C one.", x -> {
            Make.shape(x, 0, "aB bS cR dC9");
            writes(x, 0, "0 127 17 0 -1 34 1 -128 51 8", 127, 255, 1, 128, 8);
            writes(x, 0, "0 -128 17 1 0 34 2 0 -1 51 0", 128, 256, 2, 0, 255, 0);
            writes(x, 0, "0 -1 17 -128 0 34 0 51 1", 255, 32768, 0, 1);
            writes(x, 0, "0 0 17 127 -1 34 9 1 2 3 4 5 6 7 8 9 51 7", 0, 32767, 9, 1, 2, 3, 4, 5, 6, 7, 8, 9, 7);
            writes(x, 0, "0 0 17 -1 -1 34 0 51 0", 0, 65535, 0, 0);
        });
    }

    private void reading() {
        s.says(0, "READING by a VERSION: FIELDS in any order:", x -> {
            Make.shape(x, 0, "aB bS cC3");
            int[][] fields = {{0, 200}, {17, 1, 255}, {50, 2}};
            int[][] orders = {{0, 1, 2}, {0, 2, 1}, {1, 0, 2}, {1, 2, 0}, {2, 0, 1}, {2, 1, 0}};
            for (int[] order : orders) {
                int[] bytes = new int[7];
                int n = 0;
                for (int f : order) {
                    for (int b : fields[f]) {
                        bytes[n++] = b;
                    }
                }
                reads(x, 0, "200 511 2", bytes);
            }
        });
        s.says(0, "one with a NAME and SORT that the VERSION has is READ;", x -> {
            Make.shape(x, 0, "aB-4=1 aS+5=1 pR+2 bC2=0");
            reads(x, 4, "7 0 0", 0, 7, 47, 0);
            names(x, 1 + (1 << 15), 0, 2);
            reads(x, 5, "7 0 1", 16, 0, 7, 47, 0, 49, 1);
            names(x, 1 + 2 + (1 << 15), 0, 0);
        });
        s.says(0, "one with a SORT and a NAME that it has not so is kept UNREAD (all its bytes, in order).", x -> {
            Make.shape(x, 0, "aB-4=1 aS+5=2 bC2=0");
            // the name with another sort, in both versions
            reads(x, 5, "2 0", 0, 7);
            names(x, 0, 1, 3);
            kept(x, "0 7");
            reads(x, 4, "1 0", 16, 1, 200);
            names(x, 0, 1, 3);
            kept(x, "16 1 -56");
            // names that it has not, of each sort, the highest ahead, with one that is read between
            reads(x, 4, "1 1", 63, 200, 46, 3, 1, 2, 3, 49, 1, 29, 9, 8, 12, 255);
            names(x, 2, 15 << 12, 1);
            kept(x, "63 -56 46 3 1 2 3 29 9 8 12 -1");
            reads(x, 4, "1 0", 47, 0, 46, 9, 1, 2, 3, 4, 5, 6, 7, 8, 9);
            kept(x, "47 0 46 9 1 2 3 4 5 6 7 8 9");
            reads(x, 4, "1 0");
            kept(x, "");
        });
    }

    private void wrongPlaces() {
        s.says(0, "A place is WRONG: a byte that begins a FIELD and has no SORT (64 and above, or below 0);", x -> {
            Make.shape(x, 0, "");
            for (int head : new int[] {64, 65, 127, 128, 255, -1, -128}) {
                wrong(x, 0, 0, head, 1);
                wrong(x, 0, 2, 0, 1, head, 1);
                wrong(x, 0, 3, 17, 1, 1, head);
                wrong(x, 0, 4, 34, 2, 1, 1, head);
            }
            reads(x, 0, "", 0, 1, 63, 1);
            reads(x, 0, "", 63, 64);
        });
        s.says(0, "a NAME that came (READ or UNREAD);", x -> {
            Make.shape(x, 0, "aB bS=1");
            wrong(x, 0, 2, 0, 1, 0, 2);
            wrong(x, 0, 2, 0, 1, 16, 2, 2);
            wrong(x, 0, 3, 16, 2, 2, 0, 1);
            wrong(x, 0, 4, 0, 1, 15, 9, 15, 9);
            wrong(x, 0, 4, 0, 1, 15, 9, 63, 9);
            wrong(x, 0, 4, 0, 1, 1, 9, 17, 0, 9);
            wrong(x, 0, 5, 0, 1, 17, 0, 9, 1, 9);
        });
        s.says(0, "a choice that is none;", x -> {
            for (int n = 1; n <= 9; n++) {
                Make.shape(x, 0, "pC" + n);
                reads(x, 0, "0", 63, 0);
                reads(x, 0, "" + (n - 1), 63, n - 1);
                wrong(x, 0, 1, 63, n);
                wrong(x, 0, 1, 63, 127);
                wrong(x, 0, 1, 63, 128);
                wrong(x, 0, 1, 63, 255);
                wrong(x, 0, 3, 0, 1, 63, n);
            }
        });
        s.says(0, "more than 9 of R;", x -> {
            Make.shape(x, 0, "aR");
            reads(x, 0, "9 1 2 3 4 5 6 7 8 9", 32, 9, 1, 2, 3, 4, 5, 6, 7, 8, 9);
            reads(x, 0, "0", 32, 0);
            wrong(x, 0, 1, 32, 10, 1, 2, 3, 4, 5, 6, 7, 8, 9, 10);
            wrong(x, 0, 1, 32, 10);
            wrong(x, 0, 1, 32, 127);
            wrong(x, 0, 1, 32, 128);
            wrong(x, 0, 1, 32, 255);
            wrong(x, 0, 3, 32, 0, 33, 10);
        });
        s.says(0, "the end in the midst: how many bytes there are;", x -> {
            Make.shape(x, 0, "aB bS=1 cC2=1 dR-0");
            int[][] cut = {
                {0}, {17}, {17, 1}, {50}, {35}, {35, 1}, {35, 9, 1, 2, 3, 4, 5, 6, 7, 8}, {15}, {31}, {31, 1}, {63},
                {47}, {47, 2, 1}, {0, 1, 35}, {0, 1, 17}, {0, 1, 17, 3}, {0, 1, 35, 3, 1, 2}};
            for (int[] bytes : cut) {
                wrong(x, 0, bytes.length, bytes);
            }
        });
        s.says(0, "a NEEDED FIELD that did not come: that, too.", x -> {
            Make.shape(x, 0, "aB bS=1 cR+1");
            wrong(x, 0, 0);
            wrong(x, 0, 3, 17, 0, 1);
            wrong(x, 0, 3, 16, 0, 1);
            wrong(x, 1, 2, 0, 1);
            wrong(x, 1, 2, 34, 0);
            wrong(x, 1, 4, 0, 1, 2, 1);
            reads(x, 0, "1 1", 0, 1);
            reads(x, 1, "1 1 0", 0, 1, 34, 0);
        });
        s.says(0, "(The first place, in order of bytes.)", x -> {
            Make.shape(x, 0, "aB bC2=1 cR+1");
            wrong(x, 0, 1, 49, 2, 64, 0, 0);
            wrong(x, 0, 0, 64, 49, 2);
            wrong(x, 0, 3, 0, 1, 34, 10, 0);
            wrong(x, 0, 2, 15, 1, 15, 64);
            wrong(x, 1, 4, 15, 1, 13, 2, 64);
            wrong(x, 1, 4, 0, 1, 49, 1);
        });
    }

    private void valuesThatCome() {
        s.says(0, "VALUES come by the VERSION's order, DEFAULTS for what did not come.", x -> {
            Make.shape(x, 0, "dB=255 aS=999 cC9=8 bR eB+1=1 fB-0=0");
            reads(x, 0, "255 999 8 0 0", 33, 0);
            names(x, 2, 0, 13 + 32);
            reads(x, 1, "3 999 2 1 7 1", 50, 2, 33, 1, 7, 3, 3);
            names(x, 2 + 4 + 8, 0, 1 + 16);
        });
    }

    private void fitting() {
        s.says(0, "A VERSION w FITS v, if all that is written by w is read by v:", x -> {
            Make.shape(x, 0, "aB bS-3 bC4+4-5 bC3+6=1 cR+2-7 dB+8=9");
            int[][] fullest = {
                {255, 65535}, {255, 65535}, {255, 65535, 0}, {255, 65535, 0}, {255, 3, 0}, {255, 3, 0}, {255, 2, 0},
                {255, 2, 0}, {255, 2, 255}, {255, 2, 255}};
            for (int w = 0; w <= 9; w++) {
                Make.row(x, 0, fullest[w]);
                due.is("write by " + w, x.write(0, w, 0, 0) > 0 ? 1 : 0, 1);
                for (int v = 0; v <= 9; v++) {
                    due.gives(x, x.read(0, v, 0, 1) == NONE ? 1 : 0, "fits", 0, w, v);
                }
            }
        });
        s.says(0, "each NEEDED FIELD of v is one of w with that SORT;", x -> {
            Make.shape(x, 0, "aB+1-2 aS+3-4 aR+5-5 aC2+6-6 aB+7=1 bB=1");
            for (int v = 0; v <= 9; v++) {
                due.gives(x, 1, "fits", 0, v, v);
                due.gives(x, 1, "fits", 0, v, 0);
                due.gives(x, 1, "fits", 0, v, 7);
                due.gives(x, v >= 1 && v <= 2 || v >= 7 ? 1 : 0, "fits", 0, v, 1);
                due.gives(x, v >= 3 && v <= 4 ? 1 : 0, "fits", 0, v, 3);
                due.gives(x, v == 5 ? 1 : 0, "fits", 0, v, 5);
                due.gives(x, v == 6 ? 1 : 0, "fits", 0, v, 6);
            }
        });
        s.says(0, "choices of both (SORT C) are no more in w.", x -> {
            Make.shape(x, 0, "aC1-0 aC2+1-1=0 aC9+2-2 aC8+3-3=7 aB+4=0");
            int[] n = {1, 2, 9, 8};
            for (int w = 0; w < 4; w++) {
                for (int v = 0; v < 4; v++) {
                    due.gives(x, n[w] <= n[v] ? 1 : 0, "fits", 0, w, v);
                }
                due.gives(x, 1, "fits", 0, w, 4);
                due.gives(x, w == 1 || w == 3 ? 1 : 0, "fits", 0, 4, w);
            }
        });
    }
}
