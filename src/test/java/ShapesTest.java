/** Promises 10 to 13: faults of a text, shapes, their items and fields. */
public final class ShapesTest {
    private static final Due due = new Due("ShapesTest");
    private static final int NONE = DoorCalls.NONE;
    private static final int NOTHING = 1, BEYOND = 2;

    public static void main(String[] args) {
        goodTexts();
        faultyTexts();
        faultRefusals();
        shapeRefusals();
        items();
        fields();
        due.end();
    }

    private static void good(String words, int items) {
        DoorCalls x = new DoorCalls();
        Make.text(x, 1, words);
        due.is("fault of '" + words + "'", x.fault(1), NONE);
        due.is("shape of '" + words + "'", x.shape(2, 1), items);
        due.is("count(8)", x.count(8), 1);
        due.is("fault changes no text", x.size(1), words.length());
    }

    private static void faulty(String words, int place) {
        DoorCalls x = new DoorCalls();
        Make.text(x, 1, words);
        due.is("fault of '" + words + "'", x.fault(1), place);
        due.refuses(x, DoorCalls.STATE, "shape of '" + words + "'", () -> x.shape(2, 1));
        due.is("finding()", x.finding(), 0);
    }

    private static void goodTexts() {
        good("", 0);
        good("   ", 0);
        good("aB", 1);
        good("  aB   pS  ", 2);
        good("aBbScRdC1eC9", 5);
        good("aB+0-9=0", 1);
        good("aB=255-9+0", 1);
        good("aB-5+5", 1);
        good("aS=999", 1);
        good("aS=007bB", 2);
        good("aC1=0", 1);
        good("aC9=008", 1);
        good("aR-3+1", 1);
        good("aB-3aS+4", 2);
        good("aB+4aS-3", 2);
        good("aB-0aS+1-1aR+2", 3);
        good("aBbBcBdBeBfBgBhBiBjBkBlB", 12);
        good("aBbBcBdBeBfBgBhBiBjBkBlB    ", 12);
    }

    private static void faultyTexts() {
        faulty("q", 0);
        faulty("A", 0);
        faulty("`B", 0);
        faulty("  1", 2);
        faulty("a", 1);
        faulty("a B", 1);
        faulty("aD", 1);
        faulty("ab", 1);
        faulty("aC", 2);
        faulty("aC0", 2);
        faulty("aC 1", 2);
        faulty("aC12", 3);
        faulty("aB +1", 3);
        faulty("aB+", 3);
        faulty("aB+ 1", 3);
        faulty("aB-x", 3);
        faulty("aB=", 3);
        faulty("aB=x", 3);
        faulty("aB=-1", 3);
        faulty("aB+12", 4);
        faulty("aB+1+2", 4);
        faulty("aB+1-2+1", 6);
        faulty("aB-1=2-1", 6);
        faulty("aB=1=2", 4);
        faulty("aB+1-2=3+1", 8);
        faulty("aR=1", 2);
        faulty("aR+1-2=", 6);
        faulty("aS=9999", 6);
        faulty("aB=256", 6);
        faulty("aB=256  ", 6);
        faulty("aB=256+1bB", 8);
        faulty("aB=256+", 7);
        faulty("aC9=9", 5);
        faulty("aC1=1bB", 5);
        faulty("aB+5-4", 6);
        faulty("aB+5-4 ", 6);
        faulty("aB-4+5bZ", 6);
        faulty("aB aS", 5);
        faulty("aB aS ", 5);
        faulty("aB-3 aS+3", 9);
        faulty("aB-3aS+4aR+9-9", 14);
        faulty("aB+4aS-4=1", 10);
        faulty("aBbBcBdBeBfBgBhBiBjBkBlBmB", 24);
        faulty("aBbBcBdBeBfBgBhBiBjBkBlB  m", 26);
        faulty("aBbBcBdBeBfBgBhBiBjBkBlBaB", 24);
        faulty("aB?", 2);
        DoorCalls x = new DoorCalls();
        Make.bytes(x, 0, 'a', 'B', 200);
        due.is("fault at a byte below 0", x.fault(0), 2);
        Make.bytes(x, 0, 9, 'a', 'B');
        due.is("fault at a tab", x.fault(0), 0);
    }

    private static void faultRefusals() {
        DoorCalls x = new DoorCalls();
        due.refuses(x, DoorCalls.BAD, "fault(6)", () -> x.fault(6));
        due.refuses(x, DoorCalls.BAD, "fault(-1)", () -> x.fault(-1));
        due.finds(x, NOTHING, "fault(0)", () -> x.fault(0));
    }

    private static void shapeRefusals() {
        DoorCalls x = new DoorCalls();
        due.refuses(x, DoorCalls.BAD, "shape(4, 0)", () -> x.shape(4, 0));
        due.refuses(x, DoorCalls.BAD, "shape(-1, 0)", () -> x.shape(-1, 0));
        due.refuses(x, DoorCalls.BAD, "shape(0, 6)", () -> x.shape(0, 6));
        due.refuses(x, DoorCalls.BAD, "shape(0, -1)", () -> x.shape(0, -1));
        due.finds(x, NOTHING, "shape(0, 0)", () -> x.shape(0, 0));
        due.is("shape(3, 5)", Make.shape(x, 3, "aB bS"), 2);
        Make.text(x, 5, "aC");
        due.refuses(x, DoorCalls.STATE, "shape(3, 5) of a fault", () -> x.shape(3, 5));
        due.is("the shape stays", x.fields(3, 0), 2);
        due.is("shape(3, 5) anew", Make.shape(x, 3, "cR"), 1);
        due.is("one field anew", x.fields(3, 0), 1);
        x.put(5, 0, 'd');
        due.asks(x, "a shape stays as its text changes", x.item(3, 0, 0), 2);
    }

    private static void items() {
        DoorCalls x = new DoorCalls();
        Make.shape(x, 1, "pS=042-7+2 aC5 bR cB=0");
        int[][] facts = {{15, 1, 0, 2, 7, 42}, {0, 3, 5, 0, 9, NONE}, {1, 2, 0, 0, 9, NONE}, {2, 0, 0, 0, 9, 0}};
        for (int i = 0; i < facts.length; i++) {
            for (int what = 0; what < 6; what++) {
                due.asks(x, "item(1, " + i + ", " + what + ")", x.item(1, i, what), facts[i][what]);
            }
        }
        Make.shape(x, 2, "aB+5-6=3");
        Make.shape(x, 2, "aB");
        due.asks(x, "SINCE anew", x.item(2, 0, 3), 0);
        due.asks(x, "TILL anew", x.item(2, 0, 4), 9);
        due.asks(x, "DEFAULT anew", x.item(2, 0, 5), NONE);
        due.refuses(x, DoorCalls.BAD, "item(4, 0, 0)", () -> x.item(4, 0, 0));
        due.refuses(x, DoorCalls.BAD, "item(-1, 0, 0)", () -> x.item(-1, 0, 0));
        due.refuses(x, DoorCalls.BAD, "item(0, 0, 6)", () -> x.item(0, 0, 6));
        due.refuses(x, DoorCalls.BAD, "item(1, 9, -1)", () -> x.item(1, 9, -1));
        due.finds(x, NOTHING, "item(0, 9, 0)", () -> x.item(0, 9, 0));
        due.finds(x, BEYOND, "item(1, 4, 0)", () -> x.item(1, 4, 0));
        due.finds(x, BEYOND, "item(1, -1, 0)", () -> x.item(1, -1, 0));
    }

    private static void fields() {
        DoorCalls x = new DoorCalls();
        Make.shape(x, 0, "aB-4=1 bS+2 cR+4-6 dC3=2 eB+9");
        int[][] due1 = {{2, 0}, {2, 0}, {3, 1}, {3, 1}, {4, 2}, {3, 2}, {3, 2}, {2, 1}, {2, 1}, {3, 2}};
        for (int v = 0; v < 10; v++) {
            due.is("fields(0, " + v + ")", x.fields(0, v), due1[v][0]);
            due.is("needed of " + v, x.asked(), due1[v][1]);
        }
        due.refuses(x, DoorCalls.BAD, "fields(0, 10)", () -> x.fields(0, 10));
        due.refuses(x, DoorCalls.BAD, "fields(0, -1)", () -> x.fields(0, -1));
        due.refuses(x, DoorCalls.BAD, "fields(4, 0)", () -> x.fields(4, 0));
        due.refuses(x, DoorCalls.BAD, "fields(-1, 0)", () -> x.fields(-1, 0));
        due.finds(x, NOTHING, "fields(1, 0)", () -> x.fields(1, 0));
    }
}
