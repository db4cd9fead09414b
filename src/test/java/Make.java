/** Makes rows and texts of an object by its own calls. */
final class Make {
    private Make() {
    }

    static void text(DoorCalls x, int t, String signs) {
        x.text(t, signs.length());
        for (int i = 0; i < signs.length(); i++) {
            x.put(t, i, signs.charAt(i));
        }
    }

    static void bytes(DoorCalls x, int t, int... bytes) {
        x.text(t, bytes.length);
        for (int i = 0; i < bytes.length; i++) {
            x.put(t, i, bytes[i]);
        }
    }

    static void row(DoorCalls x, int r, int... numbers) {
        x.row(r, numbers.length);
        for (int i = 0; i < numbers.length; i++) {
            x.lay(r, i, numbers[i]);
        }
    }

    /** A shape by its words; text 5 is used for it. */
    static int shape(DoorCalls x, int s, String words) {
        text(x, 5, words);
        return x.shape(s, 5);
    }

    static DoorCalls withShape(String words) {
        DoorCalls x = new DoorCalls();
        shape(x, 0, words);
        return x;
    }

    /** Ticks up to one, by run() and no tick too many. */
    static void runTo(DoorCalls x, int tick) {
        for (int k = 0; k < 100 && x.count(0) < tick; k++) {
            x.run(Math.min(100, tick - x.count(0)));
        }
    }

    /** Call 0, of service 0 to 1, ANSWERED at tick 3. */
    static void answered(DoorCalls x) {
        x.call(0, 1, 0, 1, 50, 0);
        x.run(3);
    }

    /** The numbers of a row; BEYOND, counted by the object, tells its end. */
    static String rowOf(DoorCalls x, int r) {
        StringBuilder all = new StringBuilder();
        for (int i = 0; i < 60 && x.at(r, i) == 1; i++) {
            all.append(i == 0 ? "" : " ").append(x.asked());
        }
        return all.toString();
    }

    /** The bytes of a text, each put again as it was. */
    static String textOf(DoorCalls x, int t) {
        StringBuilder all = new StringBuilder();
        for (int i = 0; i < x.size(t); i++) {
            int was = x.put(t, i, 0) - 1000;
            x.put(t, i, was);
            all.append(i == 0 ? "" : " ").append(was);
        }
        return all.toString();
    }
}
