/** Promises 18 and 19: which versions fit one another, and by which name they do not. */
public final class FittingTest {
    private static final Due due = new Due("FittingTest");
    private static final int NONE = DoorCalls.NONE;

    public static void main(String[] args) {
        neededFields();
        sorts();
        choices();
        leastName();
        fitsWhatIsRead();
        refusals();
        due.end();
    }

    private static void pair(DoorCalls x, int w, int v, int unlike) {
        due.is("fits(0, " + w + ", " + v + ")", x.fits(0, w, v), unlike == NONE ? 1 : 0);
        due.is("unlike(0, " + w + ", " + v + ")", x.unlike(0, w, v), unlike);
    }

    private static void neededFields() {
        DoorCalls x = new DoorCalls();
        Make.shape(x, 0, "aB bS+1 cS+2=4 dR-4");
        pair(x, 0, 0, NONE);
        pair(x, 0, 1, 1);
        pair(x, 1, 0, NONE);
        pair(x, 1, 2, NONE);
        pair(x, 2, 1, NONE);
        pair(x, 4, 5, NONE);
        pair(x, 5, 4, 3);
        pair(x, 5, 0, 3);
        pair(x, 0, 9, 1);
        Make.shape(x, 0, "");
        pair(x, 0, 9, NONE);
    }

    private static void sorts() {
        DoorCalls x = new DoorCalls();
        Make.shape(x, 0, "aB-3 aS+4");
        pair(x, 3, 4, 0);
        pair(x, 4, 3, 0);
        Make.shape(x, 0, "aB-3=1 aS+4=2");
        pair(x, 3, 4, NONE);
        pair(x, 4, 3, NONE);
        Make.shape(x, 0, "aB-3=1 aS+4");
        pair(x, 3, 4, 0);
        pair(x, 4, 3, NONE);
        Make.shape(x, 0, "aB-3=1 aB+4");
        pair(x, 3, 4, NONE);
        pair(x, 4, 3, NONE);
    }

    private static void choices() {
        DoorCalls x = new DoorCalls();
        Make.shape(x, 0, "aC3-3 aC4+4");
        pair(x, 3, 4, NONE);
        pair(x, 4, 3, 0);
        Make.shape(x, 0, "aC3-3=1 aC4+4=1");
        pair(x, 3, 4, NONE);
        pair(x, 4, 3, 0);
        Make.shape(x, 0, "aC3-3 aC3+4");
        pair(x, 4, 3, NONE);
        Make.shape(x, 0, "aC9-3=1 aB+4=1");
        pair(x, 3, 4, NONE);
        pair(x, 4, 3, NONE);
    }

    private static void leastName() {
        DoorCalls x = new DoorCalls();
        Make.shape(x, 0, "pB+1 cC2-0 cC1+1 bB+1");
        pair(x, 0, 1, 1);
        Make.shape(x, 0, "pB+1 cC2-0 cC1+1");
        pair(x, 0, 1, 2);
        Make.shape(x, 0, "pB+1");
        pair(x, 0, 1, 15);
    }

    /** Each version fits another one just if what it writes is read: tried on the edges of its values. */
    private static void fitsWhatIsRead() {
        DoorCalls x = new DoorCalls();
        Make.shape(x, 0, "aB-1 aS+2-2=3 aB+3=0 bC2-1=1 bC5+2-4 cR+1-3 dC9+4=8");
        int[][] fullest = {
            {255, 1}, {255, 1, 1, 9}, {65535, 4, 1, 9}, {255, 4, 1, 9}, {255, 4, 8}, {255, 8}};
        for (int w = 0; w < fullest.length; w++) {
            Make.row(x, 0, fullest[w]);
            due.is("write by " + w, x.write(0, w, 0, 0) >= 0 ? 1 : 0, 1);
            for (int v = 0; v < fullest.length; v++) {
                int want = x.read(0, v, 0, 1) == NONE ? 1 : 0;
                due.is("fits(0, " + w + ", " + v + ")", x.fits(0, w, v), want);
            }
        }
    }

    private static void refusals() {
        DoorCalls x = new DoorCalls();
        Make.shape(x, 1, "aB");
        int[][] bad = {{4, 0, 0}, {-1, 0, 0}, {1, 10, 0}, {1, -1, 0}, {1, 0, 10}, {0, 0, -1}};
        for (int[] b : bad) {
            due.refuses(x, DoorCalls.BAD, "fits", () -> x.fits(b[0], b[1], b[2]));
            due.refuses(x, DoorCalls.BAD, "unlike", () -> x.unlike(b[0], b[1], b[2]));
        }
        due.finds(x, 1, "fits(0, 0, 0)", () -> x.fits(0, 0, 0));
        due.finds(x, 1, "unlike(0, 0, 0)", () -> x.unlike(0, 0, 0));
    }
}
