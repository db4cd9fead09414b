/** The document's part 1: rows, texts, shapes and their faults. */
final class EdgesOfShapes {
    private static final int BAD = DoorCalls.BAD, STATE = DoorCalls.STATE, NONE = DoorCalls.NONE;
    private static final int NOTHING = 1, UNLIKE = 3;
    private static final int NAME = 0, SORT = 1, CHOICES = 2, SINCE = 3, TILL = 4, DEFAULT = 5;
    private static final String TWELVE = "aBbBcBdBeBfBgBhBiBjBkBlB";

    private final Sentences s;
    private final Due due;

    EdgesOfShapes(Sentences s) {
        this.s = s;
        this.due = s.due;
    }

    void all() {
        rowsAndTexts();
        shapes();
        namesAndSorts();
        marks();
        rules();
        faults();
    }

    private void good(DoorCalls x, String words, int items) {
        Make.text(x, 0, words);
        due.is("fault of '" + words + "'", x.fault(0), NONE);
        due.is("shape of '" + words + "'", x.shape(0, 0), items);
    }

    private void faulty(DoorCalls x, String words, int place) {
        Make.text(x, 0, words);
        due.is("fault of '" + words + "'", x.fault(0), place);
        due.refuses(x, STATE, "shape of '" + words + "'", () -> x.shape(0, 0));
    }

    private void fact(DoorCalls x, String words, int what, int want) {
        good(x, words, 1);
        due.asks(x, "item(0, 0, " + what + ") of '" + words + "'", x.item(0, 0, what), want);
    }

    /** Which numbers a one-field shape takes: the row ahead of the number, then that. */
    private void taken(DoorCalls x, String words, int... row) {
        Make.shape(x, 0, words);
        Make.row(x, 0, row);
        due.is("'" + words + "' of " + Make.rowOf(x, 0) + " is written", x.write(0, 0, 0, 0) > 0 ? 1 : 0, 1);
    }

    private void none(DoorCalls x, String words, int... row) {
        Make.shape(x, 0, words);
        Make.row(x, 0, row);
        due.finds(x, UNLIKE, "'" + words + "' of " + Make.rowOf(x, 0), () -> x.write(0, 0, 0, 0));
    }

    private void rowsAndTexts() {
        s.says(0, "ROWS 0 .. 5 are rows of 0 to 60 ints,", x -> {
            for (int r = 0; r <= 5; r++) {
                due.gives(x, 0, "row", r, 0);
                due.gives(x, 60, "row", r, 60);
                due.asks(x, 0, "lay", r, 59, Integer.MIN_VALUE);
                due.asks(x, Integer.MIN_VALUE, "lay", r, 59, Integer.MAX_VALUE);
                due.asks(x, Integer.MAX_VALUE, "at", r, 59);
            }
            due.refuseAll(x, BAD, "row", new int[][] {{-1, 0}, {6, 0}, {0, 61}});
        });
        s.says(0, "TEXTS 0 .. 5 rows of 0 to 60 bytes,", x -> {
            for (int t = 0; t <= 5; t++) {
                due.gives(x, 0, "text", t, 0);
                due.gives(x, 60, "text", t, 60);
                due.gives(x, 1032, "put", t, 59, 127);
                due.gives(x, 1127, "put", t, 59, -128);
                due.gives(x, 872, "put", t, 59, 0);
            }
            due.refuseAll(x, BAD, "text", new int[][] {{-1, 0}, {6, 0}, {0, 61}});
        });
        s.says(0, "or missing (at first).", x -> {
            for (int k = 0; k <= 5; k++) {
                due.finds(x, NOTHING, "at", k, 0);
                due.finds(x, NOTHING, "size", k);
            }
        });
    }

    private void shapes() {
        s.says(0, "SHAPES 0 .. 3 (missing at first)", x -> {
            for (int k = 0; k <= 3; k++) {
                due.finds(x, NOTHING, "fields", k, 0);
            }
            x.text(0, 0);
            for (int k = 0; k <= 3; k++) {
                due.gives(x, 0, "shape", k, 0);
                due.gives(x, 0, "fields", k, 0);
            }
            due.refuseAll(x, BAD, "shape", new int[][] {{-1, 0}, {4, 0}});
            due.refuseAll(x, BAD, "fields", new int[][] {{-1, 0}, {4, 0}});
        });
        s.says(0, "are a TEXT's items (12 at most),", x -> {
            good(x, "", 0);
            good(x, TWELVE, 12);
            faulty(x, TWELVE + "mB", 24);
            good(x, "aB", 1);
        });
        s.says(0, "with blanks (32) ahead, between, behind as many as wanted:", x -> {
            good(x, "aBbB", 2);
            good(x, " ".repeat(58) + "aB", 1);
            good(x, "aB" + " ".repeat(58), 1);
            good(x, "aB" + " ".repeat(56) + "bB", 2);
            good(x, " ".repeat(60), 0);
            good(x, " aB-1 aS+2  bR ", 3);
            for (int sign : new int[] {0, 9, 10, 31, 33, 160, 255}) {
                Make.bytes(x, 0, 'a', 'B', sign, 'b', 'B');
                due.is("a sign " + sign + " is no blank", x.fault(0), 2);
            }
            faulty(x, "a B", 1);
            faulty(x, "aC 2", 2);
            faulty(x, "aB +1", 3);
            faulty(x, "aB+ 1", 3);
            faulty(x, "aB= 1", 3);
        });
    }

    private void namesAndSorts() {
        s.says(0, "a letter a .. p (the NAME 0 .. 15),", x -> {
            for (char letter = 'a'; letter <= 'p'; letter++) {
                fact(x, letter + "B", NAME, letter - 'a');
            }
            for (String other : new String[] {"`B", "qB", "zB", "AB", "PB", "1B", "BB", "+1", "{B"}) {
                faulty(x, other, 0);
            }
            Make.bytes(x, 0, 'a' + 128, 'B');
            due.is("a letter of a byte below 0", x.fault(0), 0);
        });
        s.says(0, "a SORT: B (a byte, 0 .. 255),", x -> {
            fact(x, "aB", SORT, 0);
            for (String other : new String[] {"aA", "aD", "aE", "aQ", "aT", "ab", "as", "ar", "ac", "a ", "a+", "a1"}) {
                faulty(x, other, 1);
            }
            taken(x, "aB", 0);
            taken(x, "aB", 255);
            none(x, "aB", -1);
            none(x, "aB", 256);
            none(x, "aB", Integer.MIN_VALUE);
            none(x, "aB", Integer.MAX_VALUE);
        });
        s.says(0, "S (0 .. 65535),", x -> {
            fact(x, "aS", SORT, 1);
            taken(x, "aS", 0);
            taken(x, "aS", 65535);
            none(x, "aS", -1);
            none(x, "aS", 65536);
        });
        s.says(0, "R (a row of 0 to 9 bytes),", x -> {
            fact(x, "aR", SORT, 2);
            taken(x, "aR", 0);
            taken(x, "aR", 9, 0, 255, 0, 255, 0, 255, 0, 255, 0);
            none(x, "aR", 10, 0, 0, 0, 0, 0, 0, 0, 0, 0, 0);
            none(x, "aR", -1);
            none(x, "aR", 1, 256);
            none(x, "aR", 1, -1);
            none(x, "aR", 9, 0, 0, 0, 0, 0, 0, 0, 0, 256);
        });
        s.says(0, "C and one figure n above 0 (a choice, 0 .. n - 1);", x -> {
            for (int n = 1; n <= 9; n++) {
                fact(x, "aC" + n, SORT, 3);
                fact(x, "aC" + n, CHOICES, n);
                taken(x, "aC" + n, 0);
                taken(x, "aC" + n, n - 1);
                none(x, "aC" + n, n);
                none(x, "aC" + n, -1);
            }
            for (String other : new String[] {"aC0", "aC/", "aC:", "aC", "aC+", "aC-1", "aCb"}) {
                faulty(x, other, 2);
            }
            faulty(x, "aC10", 3);
            faulty(x, "aC11", 3);
        });
    }

    private void marks() {
        s.says(0, "then marks, each at most once, in any order:", x -> {
            String[] orders = {"+2-7=5", "+2=5-7", "-7+2=5", "-7=5+2", "=5+2-7", "=5-7+2"};
            for (String marks : orders) {
                fact(x, "aB" + marks, SINCE, 2);
                fact(x, "aB" + marks, TILL, 7);
                fact(x, "aB" + marks, DEFAULT, 5);
                for (String again : new String[] {"+2", "-7", "=5"}) {
                    faulty(x, "aB" + marks + again, 8);
                }
            }
            faulty(x, "aB+2+2", 4);
            faulty(x, "aB-7-7", 4);
            faulty(x, "aB=5=5", 4);
            fact(x, "aB", CHOICES, 0);
        });
        s.says(0, "+ and a figure (SINCE that version; 0),", x -> {
            for (int v = 0; v <= 9; v++) {
                fact(x, "aB+" + v, SINCE, v);
            }
            fact(x, "aB", SINCE, 0);
            fact(x, "aB-3=4", SINCE, 0);
            for (String other : new String[] {"aB+", "aB+/", "aB+:", "aB+-", "aB+b", "aB++"}) {
                faulty(x, other, 3);
            }
            faulty(x, "aB+10", 4);
        });
        s.says(0, "- and a figure (TILL that version; 9),", x -> {
            for (int v = 0; v <= 9; v++) {
                fact(x, "aB-" + v, TILL, v);
            }
            fact(x, "aB", TILL, 9);
            fact(x, "aB+3=4", TILL, 9);
            for (String other : new String[] {"aB-", "aB-/", "aB-:", "aB-+", "aB-b", "aB--"}) {
                faulty(x, other, 3);
            }
            faulty(x, "aB-10", 4);
        });
        s.says(0, "= and one to three figures (its DEFAULT: B to 255, C below n; not of R).", x -> {
            String[] figures = {"0", "00", "000", "7", "07", "007", "99", "099", "254", "255"};
            for (String number : figures) {
                fact(x, "aB=" + number, DEFAULT, Integer.parseInt(number));
                fact(x, "aS=" + number, DEFAULT, Integer.parseInt(number));
            }
            fact(x, "aS=256", DEFAULT, 256);
            fact(x, "aS=999", DEFAULT, 999);
            fact(x, "aB", DEFAULT, NONE);
            faulty(x, "aB=256", 6);
            faulty(x, "aB=999", 6);
            faulty(x, "aS=1000", 6);
            faulty(x, "aS=0000", 6);
            for (int n = 1; n <= 9; n++) {
                fact(x, "aC" + n + "=" + (n - 1), DEFAULT, n - 1);
                faulty(x, "aC" + n + "=" + n, 5);
            }
            fact(x, "aC9=008", DEFAULT, 8);
            faulty(x, "aC9=009", 7);
            for (String other : new String[] {"aB=", "aB=/", "aB=:", "aB=+", "aB==", "aB=b"}) {
                faulty(x, other, 3);
            }
            faulty(x, "aR=1", 2);
            faulty(x, "aR+1=1", 4);
        });
    }

    private void rules() {
        s.says(0, "A FIELD that has no DEFAULT is NEEDED.", x -> {
            good(x, "aB bS cC2 dR eB=0 fS=000 gC1=0", 7);
            due.tells(x, 7, 4, "fields", 0, 0);
            good(x, "eB=0 fS=0", 2);
            due.tells(x, 2, 0, "fields", 0, 9);
            Make.text(x, 1, "");
            due.gives(x, NONE, "read", 0, 0, 1, 1);
            good(x, "eB=0 fS", 2);
            due.gives(x, 0, "read", 0, 0, 1, 1);
        });
        s.says(0, "No NAME is told twice for one version;", x -> {
            good(x, "aB-4aB+5", 2);
            good(x, "aB+5aB-4", 2);
            good(x, "aB-0aS+1-8aR+9", 3);
            faulty(x, "aB-5aB+5", 8);
            faulty(x, "aB+5aB-5", 8);
            faulty(x, "aBaB", 4);
            faulty(x, "aB+9aS", 6);
            faulty(x, "aB-0aS", 6);
            faulty(x, "aB+3-5aS+4-4", 12);
            faulty(x, "aB+4-4aS+3-5", 12);
            faulty(x, "aB-2bB aS+4-6cB aR+2-3", 22);
        });
        s.says(0, "SINCE is no more than TILL.", x -> {
            for (int v = 0; v <= 9; v++) {
                good(x, "aB+" + v + "-" + v, 1);
                good(x, "aB+" + v, 1);
                good(x, "aB-" + v, 1);
            }
            for (int v = 1; v <= 9; v++) {
                faulty(x, "aB+" + v + "-" + (v - 1), 6);
                faulty(x, "aB-" + (v - 1) + "+" + v, 6);
            }
        });
    }

    private void faults() {
        s.says(0, "A FAULT is the first place at which it can't go on so", x -> {
            faulty(x, "?? aX", 0);
            faulty(x, "aB ? ?", 3);
            faulty(x, "aX ?", 1);
            faulty(x, "aB+1+ aB", 4);
            faulty(x, "aB=256bX", 6);
            faulty(x, "aB aBbX", 5);
        });
        s.says(0, "(the TEXT's size, if its end comes too early;", x -> {
            String[] early = {"a", "aC", "aB+", "aB-", "aB=", "aR+1-", "aS=1+2-", "aC3=1-", "bB a", " a", "bBaC"};
            for (String words : early) {
                faulty(x, words, words.length());
            }
            faulty(x, " ".repeat(59) + "a", 60);
            faulty(x, " ".repeat(57) + "aB+", 60);
            good(x, " ".repeat(56) + "aB+1", 1);
        });
        s.says(0, "a mark told twice, = of R: its sign;", x -> {
            faulty(x, "aB+1-2+", 6);
            faulty(x, "aB+1=22+1", 7);
            faulty(x, "aC2-1=1-", 7);
            faulty(x, "aR+1+1", 4);
            faulty(x, "aR=", 2);
            faulty(x, "aR-4=1", 4);
            faulty(x, "aR-4+2=1", 6);
            faulty(x, "bB  aR=9", 6);
        });
        s.says(0, "a thirteenth item: its letter;", x -> {
            faulty(x, TWELVE + "m", 24);
            faulty(x, TWELVE + "   mB", 27);
            faulty(x, TWELVE + "aB", 24);
            faulty(x, TWELVE + "q", 24);
            good(x, TWELVE + "   ", 12);
            good(x, "aB-0aB+1-1aB+2-2aB+3-3aB+4-4aB+5-5aB+6-6aB+7-7aB+8-8aB+9", 10);
        });
        s.says(0, "a DEFAULT that is none, SINCE above TILL, a NAME twice for a version: the place behind the item).", x -> {
            faulty(x, "aB=256", 6);
            faulty(x, "aB=256 ", 6);
            faulty(x, "aB=256-3bB", 8);
            faulty(x, "aC1=1 bB", 5);
            faulty(x, "aC4=4+0-9 bB", 9);
            faulty(x, "aB+1-0=255 bB", 10);
            faulty(x, "aB-8+9 bB", 6);
            faulty(x, "bR aB-3aS+3=9 cB", 13);
            faulty(x, "aBaR-0 cB", 6);
        });
    }
}
