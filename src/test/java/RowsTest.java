/** Promises 1 to 9: a new object, rows and texts. */
public final class RowsTest {
    private static final Due due = new Due("RowsTest");
    private static final int NOTHING = 1, BEYOND = 2, SIZE = 5;

    public static void main(String[] args) {
        newObject();
        rows();
        places();
        tearing();
        copying();
        texts();
        putting();
        due.end();
    }

    private static void newObject() {
        DoorCalls x = new DoorCalls();
        for (int what = 0; what <= 8; what++) {
            due.is("count(" + what + ")", x.count(what), 0);
        }
        for (int k = 0; k < 6; k++) {
            int n = k;
            due.finds(x, NOTHING, "at(" + k + ", 0)", () -> x.at(n, 0));
            due.finds(x, NOTHING, "size(" + k + ")", () -> x.size(n));
        }
        for (int s = 0; s < 4; s++) {
            int n = s;
            due.finds(x, NOTHING, "fields(" + s + ", 0)", () -> x.fields(n, 0));
        }
        due.refuses(x, DoorCalls.BAD, "told(0, 0)", () -> x.told(0, 0));
        due.refuses(x, DoorCalls.BAD, "frame(0, 0)", () -> x.frame(0, 0));
    }

    private static void rows() {
        DoorCalls x = new DoorCalls();
        due.is("row(0, 0)", x.row(0, 0), 0);
        due.is("row(5, 60)", x.row(5, 60), 60);
        due.asks(x, "at(5, 59)", x.at(5, 59), 0);
        due.is("count(6)", x.count(6), 2);
        x.lay(5, 0, 7);
        due.is("row(5, 60) anew", x.row(5, 60), 60);
        due.asks(x, "at(5, 0)", x.at(5, 0), 0);
        due.is("row(5, 2) anew", x.row(5, 2), 2);
        due.finds(x, BEYOND, "at(5, 2)", () -> x.at(5, 2));
        due.refuses(x, DoorCalls.BAD, "row(-1, 1)", () -> x.row(-1, 1));
        due.refuses(x, DoorCalls.BAD, "row(6, 1)", () -> x.row(6, 1));
        due.refuses(x, DoorCalls.BAD, "row(6, -1)", () -> x.row(6, -1));
        due.refuses(x, DoorCalls.BAD, "row(0, 61)", () -> x.row(0, 61));
        due.refuses(x, DoorCalls.BAD, "row(0, max)", () -> x.row(0, Integer.MAX_VALUE));
        due.finds(x, SIZE, "row(0, -1)", () -> x.row(0, -1));
        due.finds(x, SIZE, "row(0, min)", () -> x.row(0, Integer.MIN_VALUE));
    }

    private static void places() {
        DoorCalls x = new DoorCalls();
        x.row(2, 3);
        due.asks(x, "lay(2, 1, -5)", x.lay(2, 1, -5), 0);
        due.asks(x, "lay(2, 1, max)", x.lay(2, 1, Integer.MAX_VALUE), -5);
        due.asks(x, "at(2, 1)", x.at(2, 1), Integer.MAX_VALUE);
        due.asks(x, "at(2, 0)", x.at(2, 0), 0);
        due.refuses(x, DoorCalls.BAD, "lay(6, 0, 1)", () -> x.lay(6, 0, 1));
        due.refuses(x, DoorCalls.BAD, "lay(-1, 0, 1)", () -> x.lay(-1, 0, 1));
        due.finds(x, NOTHING, "lay(1, 9, 1)", () -> x.lay(1, 9, 1));
        due.finds(x, BEYOND, "lay(2, 3, 1)", () -> x.lay(2, 3, 1));
        due.finds(x, BEYOND, "lay(2, -1, 1)", () -> x.lay(2, -1, 1));
        due.refuses(x, DoorCalls.BAD, "at(6, 0)", () -> x.at(6, 0));
        due.refuses(x, DoorCalls.BAD, "at(-1, 0)", () -> x.at(-1, 0));
        due.finds(x, NOTHING, "at(1, 0)", () -> x.at(1, 0));
        due.finds(x, BEYOND, "at(2, 3)", () -> x.at(2, 3));
        due.finds(x, BEYOND, "at(2, -1)", () -> x.at(2, -1));
        due.finds(x, BEYOND, "at(2, max)", () -> x.at(2, Integer.MAX_VALUE));
    }

    private static void tearing() {
        DoorCalls x = new DoorCalls();
        Make.row(x, 3, 4, 5);
        due.is("tear(3)", x.tear(3), 1);
        due.is("count(6)", x.count(6), 0);
        due.finds(x, NOTHING, "tear(3)", () -> x.tear(3));
        due.finds(x, NOTHING, "at(3, 0)", () -> x.at(3, 0));
        due.refuses(x, DoorCalls.BAD, "tear(6)", () -> x.tear(6));
        due.refuses(x, DoorCalls.BAD, "tear(-1)", () -> x.tear(-1));
        due.is("row(3, 2)", x.row(3, 2), 2);
        due.is("row 3 is anew", Make.rowOf(x, 3).equals("0 0") ? 1 : 0, 1);
    }

    private static void copying() {
        DoorCalls x = new DoorCalls();
        Make.row(x, 0, 1, 2, 3, 4, 5);
        Make.row(x, 1, 9, 9, 9);
        due.is("copy(0, 1, 1, 0, 2)", x.copy(0, 1, 1, 0, 2), 1);
        due.is("row 1", Make.rowOf(x, 1).equals("2 3 9") ? 1 : 0, 1);
        due.is("copy(0, 0, 0, 1, 4)", x.copy(0, 0, 0, 1, 4), 1);
        due.is("row 0 to the right", Make.rowOf(x, 0).equals("1 1 2 3 4") ? 1 : 0, 1);
        due.is("copy(0, 2, 0, 0, 3)", x.copy(0, 2, 0, 0, 3), 1);
        due.is("row 0 to the left", Make.rowOf(x, 0).equals("2 3 4 3 4") ? 1 : 0, 1);
        due.is("copy(0, 5, 1, 3, 0)", x.copy(0, 5, 1, 3, 0), 1);
        due.refuses(x, DoorCalls.BAD, "copy(6, 0, 0, 0, -1)", () -> x.copy(6, 0, 0, 0, -1));
        due.refuses(x, DoorCalls.BAD, "copy(0, 0, -1, 0, 1)", () -> x.copy(0, 0, -1, 0, 1));
        due.finds(x, SIZE, "copy(0, 0, 2, 0, -1)", () -> x.copy(0, 0, 2, 0, -1));
        due.finds(x, NOTHING, "copy(0, 9, 2, 0, 1)", () -> x.copy(0, 9, 2, 0, 1));
        due.finds(x, NOTHING, "copy(2, 0, 0, 9, 1)", () -> x.copy(2, 0, 0, 9, 1));
        due.finds(x, BEYOND, "copy(0, 3, 1, 0, 3)", () -> x.copy(0, 3, 1, 0, 3));
        due.finds(x, BEYOND, "copy(0, 0, 1, 1, 3)", () -> x.copy(0, 0, 1, 1, 3));
        due.finds(x, BEYOND, "copy(0, -1, 1, 0, 1)", () -> x.copy(0, -1, 1, 0, 1));
        due.finds(x, BEYOND, "copy(0, 0, 1, -1, 1)", () -> x.copy(0, 0, 1, -1, 1));
        due.finds(x, BEYOND, "copy(0, max, 1, 0, max)",
            () -> x.copy(0, Integer.MAX_VALUE, 1, 0, Integer.MAX_VALUE));
        due.finds(x, BEYOND, "copy(0, min, 1, 0, max)",
            () -> x.copy(0, Integer.MIN_VALUE, 1, 0, Integer.MAX_VALUE));
    }

    private static void texts() {
        DoorCalls x = new DoorCalls();
        due.is("text(0, 0)", x.text(0, 0), 0);
        due.is("text(5, 60)", x.text(5, 60), 60);
        due.is("size(5)", x.size(5), 60);
        due.is("size(0)", x.size(0), 0);
        due.is("count(7)", x.count(7), 2);
        x.put(5, 0, 65);
        due.is("text(5, 3) anew", x.text(5, 3), 3);
        due.is("blanks", Make.textOf(x, 5).equals("32 32 32") ? 1 : 0, 1);
        due.refuses(x, DoorCalls.BAD, "text(6, 0)", () -> x.text(6, 0));
        due.refuses(x, DoorCalls.BAD, "text(-1, -1)", () -> x.text(-1, -1));
        due.refuses(x, DoorCalls.BAD, "text(0, 61)", () -> x.text(0, 61));
        due.finds(x, SIZE, "text(0, -1)", () -> x.text(0, -1));
        due.refuses(x, DoorCalls.BAD, "size(6)", () -> x.size(6));
        due.refuses(x, DoorCalls.BAD, "size(-1)", () -> x.size(-1));
        due.finds(x, NOTHING, "size(1)", () -> x.size(1));
    }

    private static void putting() {
        DoorCalls x = new DoorCalls();
        x.text(4, 2);
        due.is("put(4, 0, 127)", x.put(4, 0, 127), 1032);
        due.is("put(4, 0, 128)", x.put(4, 0, 128), 1127);
        due.is("put(4, 0, 511)", x.put(4, 0, 511), 872);
        due.is("put(4, 0, -129)", x.put(4, 0, -129), 999);
        due.is("put(4, 0, 0)", x.put(4, 0, 0), 1127);
        due.is("put(4, 1, 0)", x.put(4, 1, 0), 1032);
        due.refuses(x, DoorCalls.BAD, "put(6, 0, 0)", () -> x.put(6, 0, 0));
        due.refuses(x, DoorCalls.BAD, "put(-1, 0, 0)", () -> x.put(-1, 0, 0));
        due.finds(x, NOTHING, "put(3, 0, 0)", () -> x.put(3, 0, 0));
        due.finds(x, BEYOND, "put(4, 2, 0)", () -> x.put(4, 2, 0));
        due.finds(x, BEYOND, "put(4, -1, 0)", () -> x.put(4, -1, 0));
    }
}
