/** Promises 43 to 49: asked, fractions, counts, findings and the digest. */
public final class ToldTest {
    private static final Due due = new Due("ToldTest");
    private static final int NONE = DoorCalls.NONE, BAD = DoorCalls.BAD;

    public static void main(String[] args) {
        atFirst();
        whatAsks();
        counts();
        findings();
        digestOfNew();
        digestOfMuch();
        digestAsksNothing();
        due.end();
    }

    private static void atFirst() {
        DoorCalls x = new DoorCalls();
        due.is("asked()", x.asked(), 0);
        due.is("upper()", x.upper(), 0);
        due.is("lower()", x.lower(), 1);
        due.is("finding()", x.finding(), 0);
        for (int f = 1; f <= 5; f++) {
            due.is("findings(" + f + ")", x.findings(f), 0);
        }
    }

    /** Each call that tells by asked(), and that the others leave it as it was. */
    private static void whatAsks() {
        DoorCalls x = new DoorCalls();
        x.row(0, 1);
        x.lay(0, 0, 77);
        due.is("lay", x.asked(), 0);
        x.at(0, 0);
        due.is("at", x.asked(), 77);
        Make.shape(x, 0, "aB bB=9");
        x.item(0, 1, 5);
        due.is("item", x.asked(), 9);
        x.fields(0, 0);
        due.is("fields", x.asked(), 1);
        x.clash();
        due.is("clash", x.asked(), NONE);
        x.version(2, 0, 1);
        x.order();
        due.is("order", x.asked(), 4);
        x.call(3, 4, 0, 9, 30, 5);
        x.told(0, 2);
        due.is("told", x.asked(), 5);
        x.tick();
        x.queue(4);
        due.is("queue", x.asked(), 1);
        x.frame(0, 2);
        due.is("frame", x.asked(), 4);
        x.row(1, 1);
        x.copy(0, 0, 1, 0, 1);
        x.tear(1);
        x.text(1, 1);
        x.put(1, 0, 9);
        x.size(1);
        x.fault(1);
        x.write(0, 0, 0, 1);
        x.read(0, 0, 1, 1);
        x.names(0);
        x.handOn(1);
        x.fits(0, 0, 0);
        x.unlike(0, 0, 0);
        x.door(0, 1, 0);
        x.orderAt(0);
        x.putIn(2);
        x.service(0, 1, 1, 1);
        x.breaks(0, 1, 0, 0);
        x.ping(0, 1);
        x.run(12);
        x.where(0, 0);
        x.kept(4);
        x.mark(0, 1);
        x.credit(0, 1);
        x.tick();
        x.piece(0);
        x.stream(0, 1);
        x.mean();
        x.count(0);
        x.findings(1);
        x.digest();
        due.is("the others", x.asked(), 4);
    }

    private static void count(DoorCalls x, int... counts) {
        for (int what = 0; what < 9; what++) {
            due.is("count(" + what + ")", x.count(what), counts[what]);
        }
    }

    private static void counts() {
        DoorCalls x = new DoorCalls();
        count(x, 0, 0, 0, 0, 0, 0, 0, 0, 0);
        x.row(0, 0);
        x.row(5, 3);
        x.row(5, 4);
        Make.shape(x, 2, "");
        x.text(1, 0);
        x.text(2, 9);
        x.breaks(0, 1, 1, 1);
        x.breaks(0, 1, 1, 1);
        x.call(0, 1, 0, 1, 9, 0);
        x.call(0, 2, 0, 1, 9, 0);
        x.ping(0, 1);
        count(x, 0, 2, 2, 3, 0, 2, 2, 3, 1);
        x.run(3);
        count(x, 3, 2, 1, 4, 2, 2, 2, 3, 1);
        x.tear(0);
        Make.shape(x, 2, "aB");
        Make.shape(x, 0, "aB");
        count(x, 3, 2, 1, 4, 2, 2, 1, 3, 2);
        due.refuses(x, BAD, "count(9)", () -> x.count(9));
        due.refuses(x, BAD, "count(-1)", () -> x.count(-1));
    }

    private static void findings() {
        DoorCalls x = new DoorCalls();
        x.ping(0, 1);
        for (int k = 1; k <= 3; k++) {
            due.is("NOTHING", x.at(0, 0), DoorCalls.FINDING);
            due.is("finding()", x.finding(), 1);
            x.text(0, 1);
            due.is("BEYOND", x.put(0, 1, 1), DoorCalls.FINDING);
            due.is("finding()", x.finding(), 2);
            due.is("UNLIKE", x.mark(0, 1), DoorCalls.FINDING);
            due.is("finding()", x.finding(), 3);
            due.is("NOUGHT", x.mean(), DoorCalls.FINDING);
            due.is("finding()", x.finding(), 4);
            due.is("SIZE", x.row(0, -1), DoorCalls.FINDING);
            due.is("finding()", x.finding(), 5);
            for (int f = 1; f <= 5; f++) {
                due.is("findings(" + f + ")", x.findings(f), k);
            }
            x.row(1, 1);
            x.row(9, 9);
            due.is("finding() stays", x.finding(), 5);
        }
        due.refuses(x, BAD, "findings(0)", () -> x.findings(0));
        due.refuses(x, BAD, "findings(6)", () -> x.findings(6));
        due.refuses(x, BAD, "findings(-1)", () -> x.findings(-1));
    }

    private static void digestOfNew() {
        DoorCalls x = new DoorCalls();
        due.is("digest() of a new object", x.digest(), new DigestByWords().of(x));
    }

    private static void digestOfMuch() {
        DoorCalls x = new DoorCalls();
        DigestByWords words = new DigestByWords();
        Make.shape(x, 1, "aB=7-5 bC3+2 cR");
        Make.shape(x, 3, "");
        words.items[1] = 3;
        words.items[3] = 0;
        x.version(4, 3, 8);
        words.settings[4][0] = 3;
        words.settings[4][1] = 8;
        x.service(2, 2, 5, 44);
        words.settings[2] = new int[] {0, 0, 2, 5, 44, NONE, NONE, NONE, NONE, NONE, 1};
        x.door(2, 5, 1);
        x.door(0, 3, 3);
        words.settings[0][8] = 3;
        Make.row(x, 1, -5, 6, Integer.MIN_VALUE);
        x.row(4, 0);
        words.rows[1] = new int[] {-5, 6, Integer.MIN_VALUE};
        words.rows[4] = new int[0];
        Make.bytes(x, 0, 200, 5);
        words.texts[0] = new int[] {-56, 5};
        words.texts[5] = new int[0];
        x.breaks(3, 1, 5, 9);
        for (int c = 0; c < 9; c++) {
            x.call(c % 5, 5, c % 3, 1 + c % 4, 20 + c, c % 4);
            x.call(1, 3, c % 3, 1 + c % 4, 20 + c, c % 4);
        }
        x.run(12);
        x.cancel(5);
        x.credit(0, 5);
        x.tick();
        x.piece(0);
        x.ping(3, 4);
        x.at(3, 0);
        due.is("the text of the empty shape", x.size(5), 0);
        due.is("digest() of much", x.digest(), words.of(x));
        x.service(0, 2, 9, 5);
        words.settings[0][2] = 2;
        words.settings[0][3] = 9;
        words.settings[0][4] = 5;
        for (int c = 0; c < 5; c++) {
            x.call(1 + c, 0, 0, 9, 50, 0);
        }
        x.tick();
        due.is("queue(0)", x.queue(0), 3);
        due.is("queue(0), asked()", x.asked(), 2);
        due.is("digest() of a queue", x.digest(), words.of(x));
        x.putIn(4);
        words.settings[4][0] = 8;
        due.is("digest() behind putIn(4)", x.digest(), words.of(x));
    }

    private static void digestAsksNothing() {
        DoorCalls x = new DoorCalls();
        Make.row(x, 0, 3);
        x.at(0, 0);
        x.call(0, 1, 0, 1, 9, 0);
        x.run(4);
        long first = x.digest();
        due.is("asked() stays", x.asked(), 3);
        due.is("digest() again", x.digest(), first);
    }
}
