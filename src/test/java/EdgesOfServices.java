/** The document's part 2: services, their doors, pairs that fit, and orders. */
final class EdgesOfServices {
    private static final int BAD = DoorCalls.BAD, STATE = DoorCalls.STATE, NONE = DoorCalls.NONE;
    /** 0 and 1 fit one another; 1 and 2 do; 0 and 2 do not. */
    private static final String CHAIN = "aB+1-1=0 aB+2-2";
    /** None of 0 to 9 fits another one. */
    private static final String APART = "aB-0 bB+1-1 cB+2-2 dB+3-3 eB+4-4";

    private final Sentences s;
    private final Due due;

    EdgesOfServices(Sentences s) {
        this.s = s;
        this.due = s.due;
    }

    void all() {
        services();
        pairs();
        orders();
        barred();
    }

    private void order(DoorCalls x, int most, int... services) {
        due.tells(x, services.length, most, "order");
        for (int i = 0; i < services.length; i++) {
            due.gives(x, services[i], "orderAt", i);
        }
        due.gives(x, NONE, "orderAt", services.length);
    }

    private void services() {
        s.says(0, "SERVICES 0 .. 5 have a VERSION now and a new one (0 .. 9; 0 both, at first),", x -> {
            // at first none has a new one, and version 0 is the one that all doors are looked at by
            due.tells(x, 0, 0, "order");
            Make.shape(x, 0, "aB+1");
            for (int a = 0; a <= 5; a++) {
                for (int b = 0; b <= 5; b++) {
                    if (a != b) {
                        x.door(a, b, 0);
                    }
                }
            }
            due.tells(x, 0, NONE, "clash");
            for (int a = 0; a <= 5; a++) {
                due.gives(x, 1, "version", a, 9, 0);
                due.tells(x, 10, a == 0 ? 1 : a, "clash");
                due.gives(x, 1, "version", a, 0, 9);
                due.tells(x, 0, NONE, "clash");
                due.gives(x, 1, "version", a, 0, 0);
            }
            due.refuseAll(x, BAD, "version", new int[][] {
                {-1, 0, 0}, {6, 0, 0}, {0, -1, 0}, {0, 10, 0}, {0, 0, -1}, {0, 0, 10}});
        });
        s.says(0, "and doors: a CALLS b by a SHAPE (or not, at first).", x -> {
            Make.shape(x, 3, "");
            for (int a = 0; a <= 5; a++) {
                for (int b = 0; b <= 5; b++) {
                    if (a == b) {
                        due.refuses(x, BAD, "door", a, b, 3);
                        due.refuses(x, BAD, "door", a, b, NONE);
                    } else {
                        due.gives(x, NONE, "door", a, b, NONE);
                        due.gives(x, NONE, "door", a, b, 3);
                        due.gives(x, 3, "door", a, b, 3);
                    }
                }
            }
        });
    }

    private void pairs() {
        s.says(0, "A pair FITS, if a's VERSION FITS b's, and b's a's, by that SHAPE.", x -> {
            // 0 fits 1 and 1 does not fit 0 by shape 0; by shape 1 it is the other way round
            Make.shape(x, 0, "aB-0");
            Make.shape(x, 1, "aB+1");
            Make.shape(x, 2, "aB");
            due.gives(x, 1, "fits", 0, 0, 1);
            due.gives(x, 0, "fits", 0, 1, 0);
            due.gives(x, 0, "fits", 1, 0, 1);
            due.gives(x, 1, "fits", 1, 1, 0);
            x.version(4, 1, 1);
            for (int shape = 0; shape <= 2; shape++) {
                x.door(2, 4, shape);
                due.tells(x, shape < 2 ? 1 : 0, shape < 2 ? 16 : NONE, "clash");
                x.door(2, 4, NONE);
                x.door(4, 2, shape);
                due.tells(x, shape < 2 ? 1 : 0, shape < 2 ? 26 : NONE, "clash");
                x.door(4, 2, NONE);
            }
        });
    }

    private void orders() {
        s.says(0, "AN ORDER of SERVICES whose new VERSION is another one:", x -> {
            order(x, 0);
            x.version(3, 5, 5);
            order(x, 0);
            x.version(3, 5, 6);
            order(x, 8, 3);
            for (int a = 0; a <= 5; a++) {
                x.version(a, 0, 9);
            }
            order(x, 63, 0, 1, 2, 3, 4, 5);
            x.version(0, 7, 7);
            x.version(5, 0, 0);
            order(x, 30, 1, 2, 3, 4);
        });
        s.says(0, "put in one by one, so that ahead of all, and behind each, all pairs FIT;", x -> {
            Make.shape(x, 0, CHAIN);
            // at the end all would fit, but both would have to change at once
            x.version(0, 0, 2);
            x.version(1, 0, 2);
            x.door(0, 1, 0);
            due.tells(x, NONE, 0, "order");
            // by way of 1 one can go ahead: 1 first, for 0 and 2 do not fit
            x.version(0, 1, 2);
            x.version(1, 0, 1);
            order(x, 3, 1, 0);
            // ahead of all
            x.version(0, 2, 1);
            x.version(1, 0, 1);
            due.refuses(x, STATE, "order");
            // a pair without a service that changes
            x.version(0, 0, 1);
            x.version(1, 0, 1);
            x.version(4, 2, 2);
            x.door(5, 4, 0);
            due.refuses(x, STATE, "order");
        });
        s.says(0, "the first by numbers.", x -> {
            Make.shape(x, 0, CHAIN);
            x.version(0, 1, 2);
            x.version(5, 0, 1);
            x.door(0, 5, 0);
            x.version(2, 0, 1);
            x.version(3, 3, 4);
            order(x, 45, 2, 3, 5, 0);
            // 4 must wait for 5 and 5 for 0, that is none at all; 1 is free
            x.door(0, 5, NONE);
            x.version(4, 1, 2);
            x.version(5, 0, 1);
            x.version(2, 0, 0);
            x.version(3, 0, 0);
            x.version(1, 8, 9);
            x.door(5, 4, 0);
            order(x, 51, 0, 1, 5, 4);
        });
    }

    private void barred() {
        s.says(0, "If there is none: BARRED.", x -> {
            Make.shape(x, 0, APART);
            x.version(0, 0, 1);
            x.door(0, 1, 0);
            due.tells(x, NONE, 0, "order");
            due.gives(x, NONE, "orderAt", 0);
            // the way is free as long as the door is away
            x.door(0, 1, NONE);
            order(x, 1, 0);
            x.door(0, 1, 0);
            due.tells(x, NONE, 0, "order");
            // both to the same one: each step alone is barred
            x.version(1, 0, 1);
            due.tells(x, NONE, 0, "order");
            x.version(5, 0, 1);
            due.tells(x, NONE, 32, "order");
            due.gives(x, NONE, "orderAt", 0);
        });
    }
}
