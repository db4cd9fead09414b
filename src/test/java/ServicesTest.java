/** Promises 20 to 26: versions, doors, clashes, orders, putting in, and what a service does at once. */
public final class ServicesTest {
    private static final Due due = new Due("ServicesTest");
    private static final int NONE = DoorCalls.NONE, BAD = DoorCalls.BAD, STATE = DoorCalls.STATE;
    /** 0 and 1 fit one another, 2 fits itself alone, 3 fits none of them. */
    private static final String STEPS = "aB-2 bB+1=0 cB+2-2 dS+3";
    /** By name a: 0 writes none, 1 and 2 write it and need it not, 3 needs it. */
    private static final String AHEAD = "aB+1-2=0 aB+3-3";
    /** 0 and 2, 1 and 2, 0 and 3 fit; 1 and 3 do not. */
    private static final String EITHER = "aS-0=0 aB+1-1 aB+2-2=0 aS+3-3";

    public static void main(String[] args) {
        versions();
        doors();
        clashes();
        freeOrders();
        forcedOrders();
        barredOrders();
        mixedOrder();
        stateOrders();
        puttingIn();
        shapesAnew();
        services();
        due.end();
    }

    private static DoorCalls withShape(String words) {
        DoorCalls x = new DoorCalls();
        Make.shape(x, 0, words);
        return x;
    }

    private static void order(DoorCalls x, int most, int... services) {
        due.is("order()", x.order(), services.length);
        due.is("order(), asked()", x.asked(), most);
        for (int i = 0; i < services.length; i++) {
            due.is("orderAt(" + i + ")", x.orderAt(i), services[i]);
        }
        due.is("orderAt behind the last", x.orderAt(services.length), NONE);
        due.is("orderAt(max)", x.orderAt(Integer.MAX_VALUE), NONE);
        due.is("orderAt changes not asked()", x.asked(), most);
    }

    private static void barred(DoorCalls x, int most) {
        due.is("order() barred", x.order(), NONE);
        due.is("order() barred, asked()", x.asked(), most);
        due.is("orderAt(0) barred", x.orderAt(0), NONE);
    }

    private static void versions() {
        DoorCalls x = withShape(STEPS);
        due.is("version(0, 9, 0)", x.version(0, 9, 0), 1);
        due.is("version(5, 0, 9)", x.version(5, 0, 9), 1);
        order(x, 33, 0, 5);
        due.is("version(0, 4, 4)", x.version(0, 4, 4), 1);
        order(x, 32, 5);
        int[][] bad = {{6, 0, 0}, {-1, 0, 0}, {0, 10, 0}, {0, -1, 0}, {0, 0, 10}, {0, 0, -1}};
        for (int[] b : bad) {
            due.refuses(x, BAD, "version", () -> x.version(b[0], b[1], b[2]));
        }
    }

    private static void doors() {
        DoorCalls x = withShape(STEPS);
        Make.shape(x, 3, "");
        due.is("door(0, 1, 0)", x.door(0, 1, 0), NONE);
        due.is("door(1, 0, 3)", x.door(1, 0, 3), NONE);
        due.is("door(0, 1, 3)", x.door(0, 1, 3), 0);
        due.is("door(0, 1, NONE)", x.door(0, 1, NONE), 3);
        due.is("door(0, 1, NONE)", x.door(0, 1, NONE), NONE);
        due.is("door(1, 0, NONE)", x.door(1, 0, NONE), 3);
        int[][] bad = {{0, 0, 0}, {5, 5, NONE}, {6, 0, 0}, {-1, 0, 0}, {0, 6, 0}, {0, -1, 0}, {0, 1, 4}, {0, 1, -1}};
        for (int[] b : bad) {
            due.refuses(x, BAD, "door(" + b[0] + ", " + b[1] + ", " + b[2] + ")", () -> x.door(b[0], b[1], b[2]));
        }
        due.finds(x, 1, "door(0, 1, 1)", () -> x.door(0, 1, 1));
        due.refuses(x, BAD, "door(2, 2, 1)", () -> x.door(2, 2, 1));
    }

    private static void clashes() {
        DoorCalls x = withShape(STEPS);
        due.is("clash() of none", x.clash(), 0);
        due.is("clash() of none, asked()", x.asked(), NONE);
        x.door(4, 2, 0);
        x.door(2, 4, 0);
        x.door(1, 5, 0);
        x.version(1, 1, 1);
        due.is("clash() of those that fit", x.clash(), 0);
        x.version(2, 2, 2);
        due.is("clash()", x.clash(), 2);
        due.is("clash(), asked()", x.asked(), 16);
        x.version(5, 2, 2);
        due.is("clash() of three", x.clash(), 3);
        due.is("clash() of three, asked()", x.asked(), 11);
        x.version(4, 2, 0);
        due.is("clash() of now alone", x.clash(), 1);
        x.door(0, 2, 0);
        due.is("clash() of 0", x.clash(), 2);
        due.is("clash() of 0, asked()", x.asked(), 2);
        x.door(0, 2, NONE);
        x.door(1, 5, NONE);
        due.is("clash() without the door", x.clash(), 0);
        due.is("clash() without the door, asked()", x.asked(), NONE);
    }

    private static void freeOrders() {
        DoorCalls x = withShape(STEPS);
        order(x, 0);
        x.version(3, 0, 1);
        x.version(1, 1, 0);
        x.version(5, 0, 1);
        x.door(3, 1, 0);
        x.door(5, 3, 0);
        order(x, 42, 1, 3, 5);
        due.refuses(x, BAD, "orderAt(-1)", () -> x.orderAt(-1));
        x.version(1, 0, 0);
        due.is("orderAt(0) without order()", x.orderAt(0), 3);
        due.is("orderAt(1) without order()", x.orderAt(1), 5);
        due.is("orderAt(2) without order()", x.orderAt(2), NONE);
    }

    private static void forcedOrders() {
        DoorCalls x = withShape(AHEAD);
        x.version(0, 2, 3);
        x.version(1, 0, 1);
        x.door(0, 1, 0);
        order(x, 3, 1, 0);
        x.door(0, 1, NONE);
        order(x, 3, 0, 1);
        x.door(1, 0, 0);
        order(x, 3, 1, 0);
        x.version(5, 0, 1);
        x.door(0, 5, 0);
        order(x, 35, 1, 5, 0);
        x.version(2, 7, 8);
        order(x, 39, 1, 2, 5, 0);
    }

    private static void barredOrders() {
        DoorCalls x = withShape(STEPS);
        x.version(0, 1, 2);
        x.version(1, 1, 2);
        x.door(1, 0, 0);
        barred(x, 0);
        x.version(4, 0, 1);
        barred(x, 16);
        DoorCalls y = withShape(EITHER);
        y.version(0, 0, 1);
        y.version(1, 2, 3);
        y.door(0, 1, 0);
        barred(y, 1);
        y.version(2, 5, 6);
        barred(y, 5);
        y.version(0, 2, 3);
        y.version(1, 0, 1);
        y.version(3, 2, 3);
        y.door(1, 3, 0);
        barred(y, 13);
    }

    /** Two doors' demands at once: 1 ahead of 0, and both 4 and 5 ahead of 3. */
    private static void mixedOrder() {
        DoorCalls x = withShape(AHEAD);
        Make.shape(x, 1, "aB+2=0-3aB+4-4");
        x.version(0, 2, 3);
        x.version(1, 0, 1);
        x.door(0, 1, 0);
        x.version(2, 2, 2);
        x.version(3, 3, 4);
        x.version(4, 1, 2);
        x.door(3, 4, 1);
        x.version(5, 1, 3);
        x.door(3, 5, 1);
        order(x, 59, 1, 0, 4, 5, 3);
    }

    private static void stateOrders() {
        DoorCalls x = withShape(STEPS);
        x.version(0, 2, 1);
        x.door(0, 1, 0);
        due.refuses(x, STATE, "order()", () -> x.order());
        due.refuses(x, STATE, "orderAt(0)", () -> x.orderAt(0));
        due.refuses(x, BAD, "orderAt(-1)", () -> x.orderAt(-1));
        due.is("putIn(0) mends it", x.putIn(0), 1);
        order(x, 0);
    }

    private static void puttingIn() {
        DoorCalls x = withShape(AHEAD);
        x.version(0, 2, 3);
        x.version(1, 0, 1);
        x.door(0, 1, 0);
        due.refuses(x, STATE, "putIn(0)", () -> x.putIn(0));
        due.is("putIn(5) of none new", x.putIn(5), 1);
        due.is("putIn(1)", x.putIn(1), 1);
        order(x, 1, 0);
        due.is("putIn(0)", x.putIn(0), 1);
        order(x, 0);
        due.is("putIn(0) again", x.putIn(0), 1);
        due.is("clash()", x.clash(), 0);
        x.version(4, 0, 0);
        x.door(4, 0, 0);
        x.version(5, 0, 1);
        due.is("clash() of 4", x.clash(), 1);
        due.refuses(x, STATE, "putIn(5), though it has no door", () -> x.putIn(5));
        due.refuses(x, STATE, "putIn(4) of none new", () -> x.putIn(4));
        due.refuses(x, BAD, "putIn(6)", () -> x.putIn(6));
        due.refuses(x, BAD, "putIn(-1)", () -> x.putIn(-1));
    }

    private static void shapesAnew() {
        DoorCalls x = withShape(STEPS);
        x.version(0, 1, 2);
        x.door(0, 1, 0);
        barred(x, 0);
        Make.shape(x, 0, "aB");
        order(x, 1, 0);
    }

    private static void services() {
        DoorCalls x = new DoorCalls();
        due.is("service(0, 1, 0, 0)", x.service(0, 1, 0, 0), 1);
        due.is("service(5, 3, 9, 99)", x.service(5, 3, 9, 99), 1);
        int[][] bad = {
            {6, 1, 0, 0}, {-1, 1, 0, 0}, {0, 0, 0, 0}, {0, 4, 0, 0}, {0, 1, -1, 0}, {0, 1, 10, 0},
            {0, 1, 0, -1}, {0, 1, 0, 100}};
        for (int[] b : bad) {
            due.refuses(x, BAD, "service", () -> x.service(b[0], b[1], b[2], b[3]));
        }
    }
}
