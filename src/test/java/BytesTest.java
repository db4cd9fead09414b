/** Promises 14 to 17: writing, reading, the names that a reading told, and what it hands on. */
public final class BytesTest {
    private static final Due due = new Due("BytesTest");
    private static final int NONE = DoorCalls.NONE;
    private static final int NOTHING = 1, BEYOND = 2, UNLIKE = 3, SIZE = 5;
    private static final String ALL_ROWS = "aRbRcRdReRfRgRhRiRjRkRlR";

    public static void main(String[] args) {
        writes();
        writeOrder();
        writeBeyond();
        writeRefusals();
        reads();
        wrongPlaces();
        readRefusals();
        fullestReading();
        namesStay();
        handsOn();
        due.end();
    }

    private static void same(String what, String got, String want) {
        due.is(what + " is '" + got + "', due '" + want + "'", got.equals(want) ? 1 : 0, 1);
    }

    private static void writes() {
        DoorCalls x = new DoorCalls();
        Make.shape(x, 0, "cS aB-4 bR pC3+2 dB=7+9");
        Make.row(x, 1, 258, 200, 2, 255, 0, 2);
        due.is("write(0, 2, 1, 3)", x.write(0, 2, 1, 3), 11);
        same("text 3", Make.textOf(x, 3), "18 1 2 0 -56 33 2 -1 0 63 2");
        same("row 1 stays", Make.rowOf(x, 1), "258 200 2 255 0 2");
        Make.row(x, 1, 65535, 0);
        due.is("write(0, 5, 1, 3) without its choice", x.write(0, 5, 1, 3), DoorCalls.FINDING);
        Make.row(x, 1, 65535, 0, 0);
        due.is("write(0, 5, 1, 3)", x.write(0, 5, 1, 3), 7);
        same("text 3 anew", Make.textOf(x, 3), "18 -1 -1 33 0 63 0");
        Make.row(x, 1, 0, 9, 1, 2, 3, 4, 5, 6, 7, 8, 9, 1, 8);
        due.is("a default is written, too", x.write(0, 9, 1, 3), 18);
        Make.shape(x, 1, "");
        x.row(0, 0);
        due.is("write of no fields", x.write(1, 0, 0, 3), 0);
        due.is("an empty text is there", x.size(3), 0);
    }

    private static void writeOrder() {
        DoorCalls x = new DoorCalls();
        Make.shape(x, 0, "aB bR cS dC2");
        int[][] unlike = {
            {256, 0, 0, 0}, {-1, 0, 0, 0}, {256}, {0, 10}, {0, -1}, {0, 1, 256, 0}, {0, 1, -1},
            {0, 0, 65536, 0}, {0, 0, -1, 0}, {0, 0, 0, 2}, {0, 0, 0, -1}, {0, 0, 0, 2, 9, 9}, {0, 2, 300, 1, 9, 9, 9}};
        for (int[] numbers : unlike) {
            Make.row(x, 0, numbers);
            due.finds(x, UNLIKE, "write of " + Make.rowOf(x, 0), () -> x.write(0, 0, 0, 0));
        }
        int[][] size = {{}, {0}, {0, 3, 1, 2}, {0, 0}, {0, 0, 1}, {0, 0, 1, 1, 1}, {0, 9}, {0, 2, 300}};
        for (int[] numbers : size) {
            Make.row(x, 0, numbers);
            due.finds(x, SIZE, "write of " + Make.rowOf(x, 0), () -> x.write(0, 0, 0, 0));
        }
    }

    private static void writeBeyond() {
        DoorCalls x = new DoorCalls();
        Make.shape(x, 0, ALL_ROWS);
        x.row(0, 48);
        // 12 rows, of which four have 9: 24 bytes ahead and 36 more
        for (int i = 0; i < 4; i++) {
            x.lay(0, i * 10, 9);
        }
        due.is("60 bytes", x.write(0, 0, 0, 1), 60);
        x.row(0, 49);
        for (int i = 0; i < 4; i++) {
            x.lay(0, i * 10, 9);
        }
        x.lay(0, 40, 1);
        x.text(1, 4);
        due.finds(x, BEYOND, "61 bytes", () -> x.write(0, 0, 0, 1));
        due.is("the text stays", x.size(1), 4);
        x.row(0, 60);
        for (int i = 0; i < 5; i++) {
            x.lay(0, i * 10, 9);
        }
        due.finds(x, SIZE, "too many numbers, and 65 bytes", () -> x.write(0, 0, 0, 1));
        x.lay(0, 51, 10);
        due.finds(x, UNLIKE, "a number that is none, and more than 60 bytes", () -> x.write(0, 0, 0, 1));
    }

    private static void writeRefusals() {
        DoorCalls x = new DoorCalls();
        Make.shape(x, 1, "aB");
        Make.row(x, 1, 3);
        due.refuses(x, DoorCalls.BAD, "write(4, 0, 1, 0)", () -> x.write(4, 0, 1, 0));
        due.refuses(x, DoorCalls.BAD, "write(-1, 0, 1, 0)", () -> x.write(-1, 0, 1, 0));
        due.refuses(x, DoorCalls.BAD, "write(1, 10, 1, 0)", () -> x.write(1, 10, 1, 0));
        due.refuses(x, DoorCalls.BAD, "write(1, -1, 1, 0)", () -> x.write(1, -1, 1, 0));
        due.refuses(x, DoorCalls.BAD, "write(1, 0, 6, 0)", () -> x.write(1, 0, 6, 0));
        due.refuses(x, DoorCalls.BAD, "write(1, 0, -1, 0)", () -> x.write(1, 0, -1, 0));
        due.refuses(x, DoorCalls.BAD, "write(1, 0, 1, 6)", () -> x.write(1, 0, 1, 6));
        due.refuses(x, DoorCalls.BAD, "write(0, 0, 0, -1)", () -> x.write(0, 0, 0, -1));
        due.finds(x, NOTHING, "write(0, 0, 1, 0)", () -> x.write(0, 0, 1, 0));
        due.finds(x, NOTHING, "write(1, 0, 0, 0)", () -> x.write(1, 0, 0, 0));
    }

    private static void reads() {
        DoorCalls x = new DoorCalls();
        Make.shape(x, 0, "aB bS=300 cR dC4=1");
        Make.bytes(x, 0, 48 + 3, 3, 32 + 2, 3, 200, 0, 255, 0, 130);
        due.is("read in any order", x.read(0, 0, 0, 4), NONE);
        same("row 4", Make.rowOf(x, 4), "130 300 3 200 0 255 3");
        due.is("names(0)", x.names(0), 13);
        due.is("names(1)", x.names(1), 0);
        due.is("names(2)", x.names(2), 2);
        Make.bytes(x, 0, 0, 1, 16 + 1, 255, 254, 34, 0, 0 + 15, 77, 16 + 14, 1, 2, 32 + 13, 1, 5, 48 + 12, 200);
        due.is("read with four unread", x.read(0, 0, 0, 4), NONE);
        same("row 4", Make.rowOf(x, 4), "1 65534 0 1");
        due.is("names(0)", x.names(0), 7);
        due.is("names(1)", x.names(1), 15 << 12);
        due.is("names(2)", x.names(2), 8);
        x.text(1, 0);
        due.is("handOn(1)", x.handOn(1), 10);
        same("unread bytes", Make.textOf(x, 1), "15 77 30 1 2 45 1 5 60 -56");
        Make.bytes(x, 0, 0, 1, 34, 0, 0 + 1, 9);
        due.is("another sort is unread, its default comes", x.read(0, 0, 0, 4), NONE);
        same("row 4", Make.rowOf(x, 4), "1 300 0 1");
        due.is("names(1)", x.names(1), 2);
        due.is("names(2)", x.names(2), 10);
        Make.shape(x, 1, "");
        x.text(0, 0);
        due.is("nothing is read", x.read(1, 3, 0, 5), NONE);
        due.finds(x, BEYOND, "at(5, 0)", () -> x.at(5, 0));
    }

    private static void wrong(int place, int... bytes) {
        DoorCalls x = new DoorCalls();
        Make.shape(x, 0, "aB bS=1 cR+1-8 dC4=1 eC9+9");
        Make.row(x, 2, 5, 6);
        Make.bytes(x, 0, bytes);
        String call = "read of " + Make.textOf(x, 0);
        long before = x.digest();
        due.is(call, x.read(0, 0, 0, 2), place);
        due.is(call + " changes nothing", x.digest(), before);
        due.is(call + " is no finding", x.finding(), 0);
    }

    private static void wrongPlaces() {
        wrong(0);
        wrong(0, 64, 1);
        wrong(0, 127, 1);
        wrong(0, -1, 1);
        wrong(2, 0, 1, -128);
        wrong(1, 0);
        wrong(2, 16 + 1, 1);
        wrong(1, 16 + 1);
        wrong(3, 16 + 1, 1, 2);
        wrong(2, 0, 1, 0, 2);
        wrong(2, 0, 1, 16, 2, 3);
        wrong(2, 16, 1);
        wrong(3, 16, 1, 2, 0, 9);
        wrong(3, 0, 7, 51, 4);
        wrong(3, 0, 7, 51, -1);
        wrong(3, 0, 7, 51);
        wrong(3, 0, 7, 34, 10);
        wrong(3, 0, 7, 34, -1);
        wrong(3, 0, 7, 34);
        wrong(6, 0, 7, 34, 3, 1, 2);
        wrong(4, 0, 7, 34, 0, 34, 0);
        wrong(4, 0, 7, 34, 0, 64, 0);
        wrong(2, 51, 3);
        wrong(1, 51, 4, 64);
        DoorCalls x = new DoorCalls();
        Make.shape(x, 0, "aC4");
        Make.bytes(x, 0, 48, 3);
        due.is("the last choice", x.read(0, 0, 0, 0), NONE);
    }

    private static void readRefusals() {
        DoorCalls x = new DoorCalls();
        Make.shape(x, 1, "aB");
        Make.bytes(x, 1, 0, 3);
        due.refuses(x, DoorCalls.BAD, "read(4, 0, 1, 0)", () -> x.read(4, 0, 1, 0));
        due.refuses(x, DoorCalls.BAD, "read(-1, 0, 1, 0)", () -> x.read(-1, 0, 1, 0));
        due.refuses(x, DoorCalls.BAD, "read(1, 10, 1, 0)", () -> x.read(1, 10, 1, 0));
        due.refuses(x, DoorCalls.BAD, "read(1, -1, 1, 0)", () -> x.read(1, -1, 1, 0));
        due.refuses(x, DoorCalls.BAD, "read(1, 0, 6, 0)", () -> x.read(1, 0, 6, 0));
        due.refuses(x, DoorCalls.BAD, "read(1, 0, -1, 0)", () -> x.read(1, 0, -1, 0));
        due.refuses(x, DoorCalls.BAD, "read(1, 0, 1, 6)", () -> x.read(1, 0, 1, 6));
        due.refuses(x, DoorCalls.BAD, "read(0, 0, 0, -1)", () -> x.read(0, 0, 0, -1));
        due.finds(x, NOTHING, "read(0, 0, 1, 0)", () -> x.read(0, 0, 1, 0));
        due.finds(x, NOTHING, "read(1, 0, 0, 0)", () -> x.read(1, 0, 0, 0));
    }

    /** 60 bytes can't bring more than 60 numbers: six rows of fields and six defaults are the most. */
    private static void fullestReading() {
        DoorCalls x = new DoorCalls();
        Make.shape(x, 0, "aRbRcRdReRfRgB=1hB=2iB=3jB=4kB=5lB=6");
        x.row(0, 60);
        for (int k = 0; k < 5; k++) {
            x.lay(0, k * 10, 9);
        }
        x.lay(0, 50, 3);
        x.text(0, 60);
        for (int k = 0; k < 6; k++) {
            x.put(0, k * 11, 32 + k);
            x.put(0, k * 11 + 1, k < 5 ? 9 : 3);
        }
        due.is("the fullest reading", x.read(0, 0, 0, 1), NONE);
        due.asks(x, "at(1, 59)", x.at(1, 59), 6);
        due.asks(x, "at(1, 53)", x.at(1, 53), 32);
        due.is("names(0)", x.names(0), 63);
        due.is("names(2)", x.names(2), 63 << 6);
    }

    private static void namesStay() {
        DoorCalls x = new DoorCalls();
        for (int what = 0; what < 3; what++) {
            due.is("names(" + what + ") before", x.names(what), 0);
        }
        due.refuses(x, DoorCalls.BAD, "names(3)", () -> x.names(3));
        due.refuses(x, DoorCalls.BAD, "names(-1)", () -> x.names(-1));
        Make.shape(x, 0, "aB bB=4");
        Make.bytes(x, 0, 0, 3, 2, 7);
        x.read(0, 0, 0, 0);
        Make.bytes(x, 0, 5, 3, 2);
        due.is("a reading that is wrong behind an unread field", x.read(0, 0, 0, 0), 3);
        due.is("names(0) stays", x.names(0), 1);
        due.is("names(1) stays", x.names(1), 4);
        due.is("names(2) stays", x.names(2), 2);
        x.text(1, 0);
        due.is("handOn stays", x.handOn(1), 2);
        same("unread bytes stay", Make.textOf(x, 1), "2 7");
        Make.bytes(x, 0, 0, 3, 20, 8, 9);
        due.is("a reading that is good", x.read(0, 9, 0, 0), NONE);
        due.is("names(1) anew", x.names(1), 16);
        x.text(1, 0);
        due.is("handOn anew", x.handOn(1), 3);
        same("unread bytes anew", Make.textOf(x, 1), "20 8 9");
        Make.bytes(x, 0, 0, 3, 5, 8);
        due.is("a name that no version has", x.read(0, 9, 0, 0), NONE);
        due.is("names(0)", x.names(0), 1);
        due.is("names(1)", x.names(1), 32);
    }

    private static void handsOn() {
        DoorCalls x = new DoorCalls();
        due.refuses(x, DoorCalls.BAD, "handOn(6)", () -> x.handOn(6));
        due.refuses(x, DoorCalls.BAD, "handOn(-1)", () -> x.handOn(-1));
        due.finds(x, NOTHING, "handOn(0)", () -> x.handOn(0));
        x.text(0, 60);
        due.is("handOn of nothing", x.handOn(0), 60);
        Make.shape(x, 0, "");
        Make.bytes(x, 1, 1, 200, 34, 1, 9);
        x.read(0, 0, 1, 0);
        x.put(1, 1, 0);
        x.text(0, 55);
        due.is("handOn up to 60", x.handOn(0), 60);
        due.finds(x, BEYOND, "handOn of 65", () -> x.handOn(0));
        x.text(0, 1);
        due.is("handOn", x.handOn(0), 6);
        due.is("handOn again", x.handOn(0), 11);
        same("text 0", Make.textOf(x, 0), "32 1 -56 34 1 9 1 -56 34 1 9");
    }
}
