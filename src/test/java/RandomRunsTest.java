import java.util.ArrayList;
import java.util.Arrays;
import java.util.List;
import java.util.Random;

/**
 * Runs of calls drawn by fixed seeds: each answer of DoorCalls is that of the plain model, and that of a second object
 * which is spared the calls that are refused, for these change nothing.
 */
public final class RandomRunsTest {
    private static final int RUNS = 2500, CALLS = 512;
    private static final String[] ALL = {
        "row/rn", "lay/riv", "at/ri", "tear/r", "copy/ririn", "text/rn", "put/riv", "size/r", "fault/r", "shape/sr",
        "item/siw", "fields/sV", "write/sVrr", "read/sVrr", "names/w", "handOn/r", "fits/sVV", "unlike/sVV",
        "version/aVV", "door/aaS", "clash/", "order/", "orderAt/w", "putIn/a", "service/ahmk", "call/aatwou",
        "breaks/aaff", "ping/aa", "tick/", "run/N", "cancel/c", "told/cW", "where/cw", "queue/a", "kept/a", "frame/Fw",
        "mark/FK", "credit/cm", "piece/c", "stream/cw", "mean/", "asked/", "upper/", "lower/", "count/C", "finding/",
        "findings/K", "digest/"};
    private static final String[] CALLING = {
        "call/aatwou", "call/aatwou", "tick/", "tick/", "tick/", "tick/", "run/N", "breaks/aaff", "service/ahmk", "cancel/c", "told/cW",
        "queue/a", "kept/a", "credit/cm", "credit/cm", "piece/c", "piece/c", "piece/c", "stream/cw", "ping/aa", "digest/", "mean/", "upper/",
        "mark/FK", "asked/"};

    private final Random random;
    private final DoorCalls x = new DoorCalls();
    private final DoorCalls spared = new DoorCalls();
    private final PlainModel plain = new PlainModel();
    private final List<String> log = new ArrayList<>();
    private int made = 0;
    private int wrong = 0;

    private RandomRunsTest(long seed) {
        random = new Random(seed);
    }

    public static void main(String[] args) {
        int wrong = 0;
        long looked = 0;
        for (int run = 0; run < RUNS && wrong == 0; run++) {
            RandomRunsTest test = new RandomRunsTest(run);
            test.go(run % 6);
            looked += test.made;
            wrong += test.wrong;
            if (test.wrong > 0) {
                System.out.println("RandomRunsTest: run " + run + ":");
                test.log.forEach(System.out::println);
            }
        }
        System.out.println("RandomRunsTest: " + looked + " answers, " + wrong + " not as due");
        if (wrong != 0) {
            System.exit(1);
        }
    }

    private void go(int mood) {
        while (made < CALLS && wrong == 0) {
            switch (random.nextInt(8) == 0 ? 5 : mood) {
                case 0: shapes(); break;
                case 1: bytes(); break;
                case 2: orders(); break;
                case 3: one(CALLING); break;
                case 4: crowd(); break;
                default: one(ALL); break;
            }
        }
    }

    private void both(String name, int... a) {
        if (made >= CALLS || wrong > 0) {
            return;
        }
        made++;
        long got = Answers.of(x, name, a);
        long want = plain.answer(name, a);
        log.add(name + Arrays.toString(a) + " answered " + got + (got == want ? "" : ", due is " + want));
        if (got != want) {
            wrong++;
        }
        boolean ofFindings = name.equals("finding") || name.equals("findings");
        if (!ofFindings && !isRefused(name, got)) {
            long spares = Answers.of(spared, name, a);
            if (spares != got) {
                log.add("without the calls that were refused it answers " + spares);
                wrong++;
            }
        }
    }

    /** Answers that are told, not given, may be any number. */
    private static boolean isRefused(String name, long answer) {
        boolean told = List.of("asked", "upper", "lower", "digest").contains(name);
        return !told && answer <= DoorCalls.BAD && answer >= DoorCalls.STATE;
    }

    private void one(String[] from) {
        String[] call = from[random.nextInt(from.length)].split("/", -1);
        int[] a = new int[call[1].length()];
        for (int k = 0; k < a.length; k++) {
            a[k] = random.nextInt(150) == 0 ? odd() : number(call[1].charAt(k));
        }
        both(call[0], a);
    }

    private int odd() {
        int[] odds = {-1, -9, 6, 7, 10, 61, 100, 10000, Integer.MAX_VALUE, Integer.MIN_VALUE};
        return odds[random.nextInt(odds.length)];
    }

    private int number(char sort) {
        switch (sort) {
            case 'r': return random.nextInt(6);
            case 'n': return random.nextInt(62) - 1;
            case 'i': return random.nextInt(20) - 1;
            case 's': return random.nextInt(4);
            case 'S': return random.nextInt(4) == 0 ? -9 : random.nextInt(4);
            case 'V': return random.nextInt(10);
            case 'a': return random.nextInt(10) == 0 ? random.nextInt(6) : random.nextInt(3);
            case 'h': return 1 + random.nextInt(3);
            case 'm': return random.nextInt(10);
            case 'k': return random.nextInt(3) == 0 ? random.nextInt(100) : random.nextInt(8);
            case 't': return random.nextInt(3);
            case 'w': return 1 + random.nextInt(4);
            case 'o': return 1 + random.nextInt(random.nextBoolean() ? 99 : 20);
            case 'u': return random.nextInt(6);
            case 'f': return asTick();
            case 'N': return random.nextInt(15) == 0 ? random.nextInt(101) : random.nextInt(7);
            case 'c': return random.nextInt(random.nextInt(4) == 0 ? 31 : 8);
            case 'W': return random.nextInt(7);
            case 'F': return random.nextInt(random.nextBoolean() ? 20 : 200);
            case 'K': return random.nextInt(8);
            case 'C': return random.nextInt(10);
            default: return random.nextInt(600) - 100;
        }
    }

    private int asTick() {
        return Math.min(9999, (int) plain.answer("count", 0) + random.nextInt(12));
    }

    private void say(int t, String words) {
        both("text", t, words.length());
        for (int i = 0; i < words.length(); i++) {
            if (words.charAt(i) != ' ') {
                both("put", t, i, words.charAt(i));
            }
        }
    }

    private String words(int slips) {
        StringBuilder words = new StringBuilder();
        int items = random.nextInt(random.nextInt(4) == 0 ? 14 : 7);
        for (int k = 0; k < items; k++) {
            words.append(" ".repeat(random.nextInt(3) / 2));
            words.append((char) ('a' + random.nextInt(5)));
            words.append(new String[] {"B", "S", "R", "C" + (1 + random.nextInt(4))}[random.nextInt(4)]);
            String marks = new String[] {"", "+", "-", "=", "+-", "-+", "=+", "-=", "+-="}[random.nextInt(9)];
            for (char mark : marks.toCharArray()) {
                words.append(mark).append(random.nextInt(mark == '=' ? random.nextInt(3) == 0 ? 400 : 3 : 10));
            }
        }
        for (int k = 0; k < slips && words.length() > 0; k++) {
            int at = random.nextInt(words.length());
            words.setCharAt(at, "ap BSRC+-=019?q".charAt(random.nextInt(15)));
        }
        words.setLength(Math.min(60, words.length()));
        return words.toString();
    }

    private void shapes() {
        int t = random.nextInt(6);
        say(t, words(random.nextInt(3) / 2));
        both("fault", t);
        both("shape", random.nextInt(4), t);
        one(ALL);
        for (int k = 0; k < 3; k++) {
            int s = random.nextInt(4);
            both("fields", s, random.nextInt(10));
            both("asked");
            both("unlike", s, random.nextInt(10), random.nextInt(10));
            both("item", s, random.nextInt(7), random.nextInt(6));
            both("asked");
        }
        both("digest");
    }

    /** A shape whose items are kept apart, so that it stands most of the time. */
    private String easyWords() {
        StringBuilder words = new StringBuilder();
        int items = 1 + random.nextInt(5);
        for (int k = 0; k < items; k++) {
            int n = 1 + random.nextInt(4);
            char name = (char) ('a' + k);
            String[] sorts = {"B", "S", "R", "C" + n};
            int cut = random.nextInt(3) == 0 ? random.nextInt(5) : -1;
            String sort = sorts[random.nextInt(4)];
            words.append(name).append(sort);
            if (cut >= 0) {
                words.append('-').append(cut);
            }
            words.append(sort.equals("R") || random.nextBoolean() ? "" : "=" + random.nextInt(n));
            if (cut >= 0) {
                String later = random.nextBoolean() ? sort : sorts[random.nextInt(4)];
                words.append(name).append(later).append('+').append(cut + 1);
                words.append(later.equals("R") || random.nextBoolean() ? "" : "=0");
            }
        }
        words.setLength(Math.min(60, words.length()));
        return words.toString();
    }

    private void bytes() {
        if (made < 30 || random.nextInt(12) == 0) {
            say(5, easyWords());
            both("shape", random.nextInt(2), 5);
        }
        int s = random.nextInt(2);
        int w = random.nextInt(6);
        List<Integer> numbers = numbersOf(s, w);
        both("row", 0, numbers.size());
        for (int i = 0; i < numbers.size(); i++) {
            both("lay", 0, i, numbers.get(i));
        }
        both("write", s, w, 0, random.nextInt(2));
        both("finding");
        if (random.nextInt(3) == 0) {
            both("put", random.nextInt(2), random.nextInt(8), random.nextInt(90) - 10);
        }
        both("read", s, random.nextInt(6), random.nextInt(2), 1 + random.nextInt(2));
        both("names", random.nextInt(3));
        if (random.nextInt(4) == 0) {
            both("handOn", random.nextInt(2));
        }
        both("digest");
    }

    /** Numbers as a version wants them, with a slip now and then. */
    private List<Integer> numbersOf(int s, int v) {
        List<Integer> numbers = new ArrayList<>();
        for (PlainModel.Item item : plain.version(s, v)) {
            int most = new int[] {256, 65536, 10, item.n()}[item.sort()];
            numbers.add(random.nextInt(15) == 0 ? most - random.nextInt(2) : random.nextInt(most));
            for (int k = numbers.get(numbers.size() - 1); item.sort() == 2 && k > 0; k--) {
                numbers.add(random.nextInt(256));
            }
        }
        if (random.nextInt(6) == 0 && !numbers.isEmpty()) {
            numbers.remove(random.nextInt(numbers.size()));
        }
        if (random.nextInt(12) == 0) {
            numbers.add(random.nextInt(300) - 20);
        }
        return numbers.subList(0, Math.min(60, numbers.size()));
    }

    /** Calls in bursts to few services over lines that break soon. */
    private void crowd() {
        int to = random.nextInt(2);
        if (random.nextInt(5) == 0) {
            both("service", to, 1 + random.nextInt(3), random.nextInt(5), random.nextInt(random.nextBoolean() ? 4 : 30));
        }
        for (int k = random.nextInt(3); k > 0; k--) {
            both("call", 2 + random.nextInt(4), to, random.nextInt(3), 1 + random.nextInt(9), 2 + random.nextInt(70), random.nextInt(6));
        }
        if (random.nextInt(3) == 0) {
            int from = asTick();
            both("breaks", to, 2 + random.nextInt(4), from, Math.min(9999, from + random.nextInt(10)));
        }
        if (random.nextInt(12) == 0) {
            both("cancel", random.nextInt(31));
        }
        for (int k = random.nextInt(7); k > 0; k--) {
            both("tick");
        }
        both("queue", to);
        both("asked");
        both("kept", to);
        both("digest");
    }

    private void orders() {
        if (made < 60 || random.nextInt(40) == 0) {
            say(5, easyWords());
            both("shape", random.nextInt(2), 5);
        }
        both("version", random.nextInt(6), random.nextInt(7), random.nextInt(7));
        int a = random.nextInt(6);
        both("door", a, (a + 1 + random.nextInt(5)) % 6, random.nextInt(5) < 2 ? random.nextInt(2) : -9);
        both("clash");
        both("asked");
        both("order");
        both("asked");
        both("orderAt", random.nextInt(3));
        if (random.nextInt(3) == 0) {
            both("putIn", random.nextInt(6));
        }
    }
}
