import java.util.ArrayList;
import java.util.Arrays;
import java.util.BitSet;
import java.util.Collections;
import java.util.LinkedHashMap;
import java.util.List;
import java.util.Map;
import java.util.TreeMap;
import java.util.TreeSet;

/**
 * The document once more, written slowly and otherwise than DoorCalls (lists, maps, permutations, a table of
 * states for the language), so that a slip in one of the two shows as an answer in which they differ.
 */
final class PlainModel {
    private static final int BAD = -1, FULL = -2, FINDING = -3, STATE = -4, NONE = -9;
    private static final int NOTHING = 1, BEYOND = 2, UNLIKE = 3, NOUGHT = 4, SIZE = 5;

    record Item(int name, int sort, int n, int since, int till, int def) {
        boolean in(int v) {
            return since <= v && v <= till;
        }

        int fact(int what) {
            return new int[] {name, sort, n, since, till, def}[what];
        }
    }

    static final class Service {
        int now, then, hands = 1, mark = 3, keep = 20;
        final int[] doors = {NONE, NONE, NONE, NONE, NONE, NONE};
        final TreeSet<Integer> queue = new TreeSet<>();
        final TreeMap<Integer, Integer> doing = new TreeMap<>();
        final TreeMap<Integer, Integer> kept = new TreeMap<>();
    }

    static final class Call {
        int from, to, sort, work, hour, purse, told, ended = NONE, how, tries, effects, asked;
        int credit, sent, came;
        final int[] where = new int[4];
    }

    record Sent(int kind, int from, int to, int at, int call, int detail, int[] how) {
    }

    record Break(int a, int b, int from, int till) {
    }

    private final List<List<Integer>> rows = new ArrayList<>(Collections.nCopies(6, null));
    private final List<List<Integer>> texts = new ArrayList<>(Collections.nCopies(6, null));
    private final List<List<Item>> shapes = new ArrayList<>(Collections.nCopies(4, null));
    private final List<Service> services = new ArrayList<>();
    private final List<Call> calls = new ArrayList<>();
    private final List<Sent> frames = new ArrayList<>();
    private final List<Break> breaks = new ArrayList<>();
    private final int[] found = new int[6];
    private final int[] names = new int[3];
    private List<Integer> unread = List.of();
    private int finding, asked, tick;
    private long upper, lower = 1;

    PlainModel() {
        for (int a = 0; a < 6; a++) {
            services.add(new Service());
        }
    }

    private int find(int which) {
        finding = which;
        found[which]++;
        return FINDING;
    }

    private static boolean out(int i, int n) {
        return i < 0 || i >= n;
    }

    private int ask(int v) {
        asked = v;
        return 1;
    }

    long answer(String name, int... a) {
        switch (name) {
            case "row": return fresh(rows, a[0], a[1], 0);
            case "text": return fresh(texts, a[0], a[1], 32);
            case "lay":
            case "at": return layOrAt(name.equals("lay"), a);
            case "tear": return tear(a[0]);
            case "copy": return copy(a);
            case "put": return put(a);
            case "size": return out(a[0], 6) ? BAD : texts.get(a[0]) == null ? find(NOTHING) : texts.get(a[0]).size();
            case "fault": return out(a[0], 6) ? BAD : texts.get(a[0]) == null ? find(NOTHING) : parse(texts.get(a[0]), new ArrayList<>());
            case "shape": return shape(a);
            case "item": return item(a);
            case "fields": return fields(a);
            case "write": return write(a);
            case "read": return read(a);
            case "names": return out(a[0], 3) ? BAD : names[a[0]];
            case "handOn": return handOn(a[0]);
            case "fits": return fits(a, true);
            case "unlike": return fits(a, false);
            default: return answerOfServices(name, a);
        }
    }

    private long answerOfServices(String name, int... a) {
        switch (name) {
            case "version": return version(a);
            case "door": return door(a);
            case "clash": return clash();
            case "order": return order();
            case "orderAt": return orderAt(a[0]);
            case "putIn": return putIn(a[0]);
            case "service": return service(a);
            case "call": return call(a);
            case "breaks": return breaks(a);
            case "ping": return ping(a);
            case "tick": return tick >= 9999 ? STATE : tick();
            case "run": return run(a[0]);
            case "cancel": return cancel(a[0]);
            case "told": return out(a[0], calls.size()) || out(a[1], 7) ? BAD : ask(told(a[0])[a[1]]);
            case "where": return out(a[0], calls.size()) || out(a[1], 4) ? BAD : calls.get(a[0]).where[a[1]];
            case "queue": return out(a[0], 6) ? BAD : ask(services.get(a[0]).doing.size()) * services.get(a[0]).queue.size();
            case "kept": return out(a[0], 6) ? BAD : kept(services.get(a[0]));
            case "frame": return out(a[0], frames.size()) || out(a[1], 5) ? BAD : ask(frame(a[0])[a[1]]);
            case "mark": return mark(a);
            case "credit": return credit(a);
            case "piece": return piece(a[0]);
            case "stream": return out(a[0], calls.size()) || out(a[1], 3) ? BAD : stream(a[0])[a[1]];
            case "mean": return mean();
            case "asked": return asked;
            case "upper": return upper;
            case "lower": return lower;
            case "count": return out(a[0], 9) ? BAD : counts()[a[0]];
            case "finding": return finding;
            case "findings": return a[0] < 1 || a[0] > 5 ? BAD : found[a[0]];
            case "digest": return digest();
            default: throw new IllegalArgumentException(name);
        }
    }

    // ---- rows and texts

    private int fresh(List<List<Integer>> those, int r, int n, int fill) {
        if (out(r, 6) || n > 60) {
            return BAD;
        }
        if (n < 0) {
            return find(SIZE);
        }
        those.set(r, new ArrayList<>(Collections.nCopies(n, fill)));
        return n;
    }

    private int layOrAt(boolean lay, int... a) {
        if (out(a[0], 6)) {
            return BAD;
        }
        List<Integer> row = rows.get(a[0]);
        if (row == null) {
            return find(NOTHING);
        }
        if (out(a[1], row.size())) {
            return find(BEYOND);
        }
        return ask(lay ? row.set(a[1], a[2]) : row.get(a[1]));
    }

    private int tear(int r) {
        if (out(r, 6)) {
            return BAD;
        }
        return rows.set(r, null) == null ? find(NOTHING) : 1;
    }

    private int copy(int... a) {
        if (out(a[0], 6) || out(a[2], 6)) {
            return BAD;
        }
        if (a[4] < 0) {
            return find(SIZE);
        }
        List<Integer> from = rows.get(a[0]);
        List<Integer> to = rows.get(a[2]);
        if (from == null || to == null) {
            return find(NOTHING);
        }
        if (a[1] < 0 || a[3] < 0 || (long) a[1] + a[4] > from.size() || (long) a[3] + a[4] > to.size()) {
            return find(BEYOND);
        }
        List<Integer> taken = new ArrayList<>(from.subList(a[1], a[1] + a[4]));
        for (int k = 0; k < a[4]; k++) {
            to.set(a[3] + k, taken.get(k));
        }
        return 1;
    }

    private int put(int... a) {
        if (out(a[0], 6)) {
            return BAD;
        }
        List<Integer> text = texts.get(a[0]);
        if (text == null) {
            return find(NOTHING);
        }
        if (out(a[1], text.size())) {
            return find(BEYOND);
        }
        int v = Math.floorMod(a[2], 256);
        return 1000 + text.set(a[1], v > 127 ? v - 256 : v);
    }

    // ---- the language of shapes: one sign at a time, by the state behind the signs so far

    private enum At { BETWEEN, NAMED, CHOOSING, BEHIND, PLUS, MINUS, EQUALS, FIGURE_1, FIGURE_2 }

    private int parse(List<Integer> text, List<Item> items) {
        At at = At.BETWEEN;
        int[] open = null;
        String told = "";
        for (int p = 0; p <= text.size(); p++) {
            int c = p < text.size() ? text.get(p) : -1;
            boolean figure = c >= '0' && c <= '9';
            boolean ends = at == At.BEHIND || at == At.FIGURE_1 || at == At.FIGURE_2;
            if (figure && (at == At.EQUALS || at == At.FIGURE_1 || at == At.FIGURE_2)) {
                open[5] = (at == At.EQUALS ? 0 : open[5] * 10) + c - '0';
                at = at == At.EQUALS ? At.FIGURE_1 : at == At.FIGURE_1 ? At.FIGURE_2 : At.BEHIND;
            } else if (figure && (at == At.PLUS || at == At.MINUS)) {
                open[at == At.PLUS ? 3 : 4] = c - '0';
                at = At.BEHIND;
            } else if (at == At.CHOOSING && figure && c != '0') {
                open[2] = c - '0';
                at = At.BEHIND;
            } else if (at == At.NAMED && c > 0 && "BSRC".indexOf(c) >= 0) {
                open[1] = "BSRC".indexOf(c);
                at = c == 'C' ? At.CHOOSING : At.BEHIND;
            } else if (ends && c > 0 && "+-=".indexOf(c) >= 0 && told.indexOf(c) < 0 && !(c == '=' && open[1] == 2)) {
                told += (char) c;
                at = c == '+' ? At.PLUS : c == '-' ? At.MINUS : At.EQUALS;
            } else if (ends || at == At.BETWEEN) {
                if (ends) {
                    Item item = new Item(open[0], open[1], open[2], open[3], open[4], open[5]);
                    if (!stands(item, items)) {
                        return p;
                    }
                    items.add(item);
                    at = At.BETWEEN;
                }
                if (c >= 'a' && c <= 'p' && items.size() < 12) {
                    open = new int[] {c - 'a', 0, 0, 0, 9, NONE};
                    told = "";
                    at = At.NAMED;
                } else if (c != ' ' && p < text.size()) {
                    return p;
                }
            } else {
                return p;
            }
        }
        return NONE;
    }

    private static boolean stands(Item item, List<Item> before) {
        for (int v = 0; v <= 9; v++) {
            for (Item other : before) {
                if (other.name == item.name && other.in(v) && item.in(v)) {
                    return false;
                }
            }
        }
        return item.since <= item.till && !(item.sort == 0 && item.def > 255) && !(item.sort == 3 && item.def >= item.n);
    }

    private int shape(int... a) {
        if (out(a[0], 4) || out(a[1], 6)) {
            return BAD;
        }
        if (texts.get(a[1]) == null) {
            return find(NOTHING);
        }
        List<Item> items = new ArrayList<>();
        if (parse(texts.get(a[1]), items) != NONE) {
            return STATE;
        }
        shapes.set(a[0], items);
        return items.size();
    }

    private int item(int... a) {
        if (out(a[0], 4) || out(a[2], 6)) {
            return BAD;
        }
        if (shapes.get(a[0]) == null) {
            return find(NOTHING);
        }
        return out(a[1], shapes.get(a[0]).size()) ? find(BEYOND) : ask(shapes.get(a[0]).get(a[1]).fact(a[2]));
    }

    /** The fields of a version; none of a shape that is missing. */
    List<Item> version(int s, int v) {
        return shapes.get(s) == null ? List.of() : shapes.get(s).stream().filter(item -> item.in(v)).toList();
    }

    private int fields(int... a) {
        if (out(a[0], 4) || out(a[1], 10)) {
            return BAD;
        }
        if (shapes.get(a[0]) == null) {
            return find(NOTHING);
        }
        ask((int) version(a[0], a[1]).stream().filter(item -> item.def == NONE).count());
        return version(a[0], a[1]).size();
    }

    // ---- writing and reading

    private int write(int... a) {
        if (out(a[0], 4) || out(a[1], 10) || out(a[2], 6) || out(a[3], 6)) {
            return BAD;
        }
        if (shapes.get(a[0]) == null || rows.get(a[2]) == null) {
            return find(NOTHING);
        }
        List<Integer> rest = new ArrayList<>(rows.get(a[2]));
        List<Integer> bytes = new ArrayList<>();
        for (Item item : version(a[0], a[1])) {
            if (rest.isEmpty()) {
                return find(SIZE);
            }
            int v = rest.remove(0);
            if (v < 0 || v >= new int[] {256, 65536, 10, item.n}[item.sort]) {
                return find(UNLIKE);
            }
            bytes.add(16 * item.sort + item.name);
            if (item.sort == 1) {
                bytes.add(v / 256);
            }
            bytes.add(v % 256);
            if (item.sort == 2) {
                if (rest.size() < v) {
                    return find(SIZE);
                }
                List<Integer> those = rest.subList(0, v);
                if (those.stream().anyMatch(b -> b < 0 || b > 255)) {
                    return find(UNLIKE);
                }
                bytes.addAll(those);
                those.clear();
            }
        }
        if (!rest.isEmpty()) {
            return find(SIZE);
        }
        if (bytes.size() > 60) {
            return find(BEYOND);
        }
        texts.set(a[3], new ArrayList<>(bytes.stream().map(b -> b > 127 ? b - 256 : b).toList()));
        return bytes.size();
    }

    private int read(int... a) {
        if (out(a[0], 4) || out(a[1], 10) || out(a[2], 6) || out(a[3], 6)) {
            return BAD;
        }
        if (shapes.get(a[0]) == null || texts.get(a[2]) == null) {
            return find(NOTHING);
        }
        List<Item> version = version(a[0], a[1]);
        List<Integer> text = texts.get(a[2]);
        Map<Integer, List<Integer>> read = new LinkedHashMap<>();
        BitSet kept = new BitSet();
        List<Integer> left = new ArrayList<>();
        int p = 0;
        while (p < text.size()) {
            int head = text.get(p);
            if (head < 0 || head > 63 || read.containsKey(head & 15) || kept.get(head & 15)) {
                return p;
            }
            Item like = version.stream().filter(item -> 16 * item.sort + item.name == head).findFirst().orElse(null);
            if (p + 1 == text.size()) {
                return text.size();
            }
            int first = text.get(p + 1) & 255;
            if (head / 16 == 2 && first > 9 || head / 16 == 3 && like != null && first >= like.n) {
                return p + 1;
            }
            int end = p + 2 + (head / 16 == 1 ? 1 : head / 16 == 2 ? first : 0);
            if (end > text.size()) {
                return text.size();
            }
            List<Integer> field = text.subList(p, end);
            if (like == null) {
                kept.set(head & 15);
                left.addAll(field);
            } else {
                List<Integer> values = new ArrayList<>(field.subList(1, field.size()).stream().map(b -> b & 255).toList());
                read.put(head & 15, head / 16 == 1 ? List.of(values.get(0) * 256 + values.get(1)) : values);
            }
            p = end;
        }
        return readValues(a[3], version, read, kept, left, text.size());
    }

    private int readValues(int r, List<Item> version, Map<Integer, List<Integer>> read, BitSet kept,
            List<Integer> left, int size) {
        List<Integer> values = new ArrayList<>();
        int byDefault = 0;
        for (Item item : version) {
            List<Integer> those = read.get(item.name);
            if (those == null && item.def == NONE) {
                return size;
            }
            byDefault |= those == null ? 1 << item.name : 0;
            values.addAll(those == null ? List.of(item.def) : those);
        }
        if (values.size() > 60) {
            return find(BEYOND);
        }
        rows.set(r, values);
        unread = left;
        names[0] = read.keySet().stream().mapToInt(name -> 1 << name).sum();
        names[1] = kept.stream().map(name -> 1 << name).sum();
        names[2] = byDefault;
        return NONE;
    }

    private int handOn(int t) {
        if (out(t, 6)) {
            return BAD;
        }
        if (texts.get(t) == null) {
            return find(NOTHING);
        }
        if (texts.get(t).size() + unread.size() > 60) {
            return find(BEYOND);
        }
        texts.get(t).addAll(unread);
        return texts.get(t).size();
    }

    private TreeSet<Integer> unlike(int s, int w, int v) {
        TreeSet<Integer> unlike = new TreeSet<>();
        for (Item reader : version(s, v)) {
            List<Item> same = version(s, w).stream().filter(i -> i.name == reader.name && i.sort == reader.sort).toList();
            if (same.isEmpty() && reader.def == NONE || !same.isEmpty() && same.get(0).n > reader.n) {
                unlike.add(reader.name);
            }
        }
        return unlike;
    }

    private int fits(int[] a, boolean whether) {
        if (out(a[0], 4) || out(a[1], 10) || out(a[2], 10)) {
            return BAD;
        }
        if (shapes.get(a[0]) == null) {
            return find(NOTHING);
        }
        TreeSet<Integer> unlike = unlike(a[0], a[1], a[2]);
        return whether ? unlike.isEmpty() ? 1 : 0 : unlike.isEmpty() ? NONE : unlike.first();
    }

    // ---- services

    private int version(int... a) {
        if (out(a[0], 6) || out(a[1], 10) || out(a[2], 10)) {
            return BAD;
        }
        services.get(a[0]).now = a[1];
        services.get(a[0]).then = a[2];
        return 1;
    }

    private int door(int... a) {
        if (out(a[0], 6) || out(a[1], 6) || a[0] == a[1] || a[2] != NONE && out(a[2], 4)) {
            return BAD;
        }
        if (a[2] != NONE && shapes.get(a[2]) == null) {
            return find(NOTHING);
        }
        int was = services.get(a[0]).doors[a[1]];
        services.get(a[0]).doors[a[1]] = a[2];
        return was;
    }

    private List<Integer> clashes(int[] versions) {
        List<Integer> clashes = new ArrayList<>();
        for (int a = 0; a < 6; a++) {
            for (int b = 0; b < 6; b++) {
                int s = services.get(a).doors[b];
                if (s != NONE && !(unlike(s, versions[a], versions[b]).isEmpty() && unlike(s, versions[b], versions[a]).isEmpty())) {
                    clashes.add(6 * a + b);
                }
            }
        }
        return clashes;
    }

    private int[] now() {
        return services.stream().mapToInt(service -> service.now).toArray();
    }

    private int clash() {
        List<Integer> clashes = clashes(now());
        ask(clashes.isEmpty() ? NONE : clashes.get(0));
        return clashes.size();
    }

    private List<Integer> best;
    private List<Integer> whole;

    /** All ways to put in one by one, the first by numbers first. */
    private void walk(int[] versions, List<Integer> putIn, int goal) {
        if (whole != null) {
            return;
        }
        if (putIn.size() > best.size() || putIn.size() == best.size() && bits(putIn) < bits(best)) {
            best = List.copyOf(putIn);
        }
        if (putIn.size() == goal) {
            whole = List.copyOf(putIn);
            return;
        }
        for (int a = 0; a < 6; a++) {
            Service service = services.get(a);
            if (service.now != service.then && !putIn.contains(a)) {
                int[] next = versions.clone();
                next[a] = service.then;
                if (clashes(next).isEmpty()) {
                    putIn.add(a);
                    walk(next, putIn, goal);
                    putIn.remove(putIn.size() - 1);
                }
            }
        }
    }

    private static int bits(List<Integer> those) {
        return those.stream().mapToInt(a -> 1 << a).sum();
    }

    private boolean search() {
        best = List.of();
        whole = null;
        if (!clashes(now()).isEmpty()) {
            return false;
        }
        walk(now(), new ArrayList<>(), (int) services.stream().filter(service -> service.now != service.then).count());
        return true;
    }

    private int order() {
        if (!search()) {
            return STATE;
        }
        ask(bits(best));
        return whole == null ? NONE : whole.size();
    }

    private int orderAt(int i) {
        if (i < 0) {
            return BAD;
        }
        if (!search()) {
            return STATE;
        }
        return whole == null || i >= whole.size() ? NONE : whole.get(i);
    }

    private int putIn(int a) {
        if (out(a, 6)) {
            return BAD;
        }
        int[] next = now();
        next[a] = services.get(a).then;
        if (!clashes(next).isEmpty()) {
            return STATE;
        }
        services.get(a).now = next[a];
        return 1;
    }

    private int service(int... a) {
        if (out(a[0], 6) || out(a[1] - 1, 3) || out(a[2], 10) || out(a[3], 100)) {
            return BAD;
        }
        services.get(a[0]).hands = a[1];
        services.get(a[0]).mark = a[2];
        services.get(a[0]).keep = a[3];
        return 1;
    }

    // ---- calls

    private int call(int... a) {
        if (out(a[0], 6) || out(a[1], 6) || a[0] == a[1] || out(a[2], 3) || out(a[3] - 1, 9) || out(a[4] - 1, 99) || out(a[5], 6)) {
            return BAD;
        }
        if (calls.size() == 30) {
            return FULL;
        }
        if (tick + a[4] > 9999) {
            return STATE;
        }
        Call call = new Call();
        call.from = a[0];
        call.to = a[1];
        call.sort = a[2];
        call.work = a[3];
        call.hour = a[4];
        call.purse = a[5];
        call.told = tick;
        call.asked = tick;
        calls.add(call);
        sendByCaller(1, calls.size() - 1, 0);
        return calls.size() - 1;
    }

    private int sendByCaller(int kind, int c, int detail) {
        frames.add(new Sent(kind, calls.get(c).from, calls.get(c).to, tick, c, detail, new int[1]));
        return frames.size() - 1;
    }

    private int sendByService(int kind, int c, int detail) {
        frames.add(new Sent(kind, calls.get(c).to, calls.get(c).from, tick, c, detail, new int[1]));
        return frames.size() - 1;
    }

    private int breaks(int... a) {
        if (out(a[0], 6) || out(a[1], 6) || a[0] == a[1] || out(a[2], 10000) || out(a[3], 10000) || a[3] < a[2]) {
            return BAD;
        }
        if (breaks.size() == 20) {
            return FULL;
        }
        breaks.add(new Break(a[0], a[1], a[2], a[3]));
        return breaks.size();
    }

    private int ping(int... a) {
        if (out(a[0], 6) || out(a[1], 6) || a[0] == a[1]) {
            return BAD;
        }
        if (frames.stream().filter(f -> f.kind == 0).count() == 100) {
            return FULL;
        }
        frames.add(new Sent(0, a[0], a[1], tick, NONE, 0, new int[1]));
        return frames.size() - 1;
    }

    private int run(int n) {
        if (n < 0 || n > 100) {
            return BAD;
        }
        if (tick + n > 9999) {
            return STATE;
        }
        int came = 0;
        for (int k = 0; k < n; k++) {
            came += tick();
        }
        return came;
    }

    private int tick() {
        for (int c = 0; c < calls.size(); c++) {
            if (calls.get(c).how == 0) {
                calls.get(c).where[share(c)]++;
            }
        }
        tick++;
        int came = 0;
        for (Sent f : List.copyOf(frames)) {
            if (f.how[0] == 0) {
                boolean broken = breaks.stream().anyMatch(b -> b.from <= tick && tick <= b.till
                    && (b.a == f.from && b.b == f.to || b.a == f.to && b.b == f.from));
                f.how[0] = broken ? 2 : 1;
                if (!broken) {
                    came++;
                    arrive(f);
                }
            }
        }
        services.forEach(this::work);
        services.forEach(this::begin);
        for (int c = 0; c < calls.size(); c++) {
            watch(c);
        }
        return came;
    }

    private int share(int c) {
        Service service = services.get(calls.get(c).to);
        if (service.queue.contains(c)) {
            return 1;
        }
        if (service.doing.containsKey(c)) {
            return 2;
        }
        return frames.stream().anyMatch(f -> f.call == c && f.how[0] == 0) ? 0 : 3;
    }

    private void arrive(Sent f) {
        if (f.kind == 0) {
            return;
        }
        Call call = calls.get(f.call);
        Service service = services.get(call.to);
        if (f.kind == 1) {
            arriveAsk(f.call, call, service);
        } else if (f.kind == 2 || f.kind == 3) {
            if (call.how == 0) {
                call.how = f.kind == 2 ? 3 : f.detail;
                call.ended = tick;
            }
        } else if (f.kind == 4) {
            call.came++;
        } else if (f.kind == 5) {
            call.credit += f.detail;
        } else {
            service.queue.remove(f.call);
        }
    }

    private void arriveAsk(int c, Call call, Service service) {
        if (service.queue.contains(c) || service.doing.containsKey(c)) {
            return;
        }
        if (service.kept.getOrDefault(c, -1) >= tick) {
            sendByService(2, c, 0);
        } else if (call.sort == 1 && call.tries > 0) {
            sendByService(3, c, 8);
        } else if (tick + call.work > call.told + call.hour) {
            sendByService(3, c, 6);
        } else if (service.doing.size() + service.queue.size() >= service.hands && service.queue.size() >= service.mark) {
            sendByService(3, c, 4);
        } else {
            service.queue.add(c);
        }
    }

    private void work(Service service) {
        service.doing.replaceAll((c, left) -> left - 1);
        for (int c : List.copyOf(service.doing.keySet())) {
            if (service.doing.get(c) == 0) {
                service.doing.remove(c);
                service.kept.put(c, tick + service.keep);
                calls.get(c).effects += calls.get(c).sort == 2 ? 0 : 1;
                sendByService(2, c, 0);
            }
        }
    }

    private void begin(Service service) {
        while (service.doing.size() < service.hands && !service.queue.isEmpty()) {
            int c = service.queue.pollFirst();
            Call call = calls.get(c);
            if (tick + call.work > call.told + call.hour) {
                sendByService(3, c, 6);
            } else {
                service.doing.put(c, call.work);
            }
        }
    }

    private void watch(int c) {
        Call call = calls.get(c);
        if (call.how != 0) {
            return;
        }
        if (tick > call.told + call.hour) {
            call.how = 6;
            call.ended = tick;
            sendByCaller(6, c, 6);
        } else if (tick >= call.asked + call.work + 4 + Math.pow(2, call.tries)) {
            if (call.purse == 0) {
                call.how = 7;
                call.ended = tick;
            } else {
                call.purse--;
                call.tries++;
                call.asked = tick;
                sendByCaller(1, c, 0);
            }
        }
    }

    private int cancel(int c) {
        if (out(c, calls.size())) {
            return BAD;
        }
        if (calls.get(c).how != 0) {
            return STATE;
        }
        calls.get(c).how = 5;
        calls.get(c).ended = tick;
        sendByCaller(6, c, 5);
        return 1;
    }

    private int[] told(int c) {
        Call call = calls.get(c);
        Service service = services.get(call.to);
        int place = service.queue.contains(c) ? 1 : service.doing.containsKey(c) ? 2 : 0;
        return new int[] {call.how, call.tries, call.purse, call.effects, call.told, call.ended, place};
    }

    private int kept(Service service) {
        return (int) service.kept.values().stream().filter(till -> till >= tick).count();
    }

    private int[] frame(int f) {
        Sent sent = frames.get(f);
        return new int[] {sent.kind, sent.from, sent.to, sent.at, sent.how[0]};
    }

    private int mark(int... a) {
        if (out(a[0], frames.size()) || a[1] < 1 || a[1] > 6) {
            return BAD;
        }
        Sent f = frames.get(a[0]);
        int[] tells = {NONE, NONE, NONE, NONE, NONE, NONE, NONE};
        tells[f.kind] = f.kind > 2 ? f.detail : f.call;
        if (f.kind == 3) {
            tells[2] = f.call;
        }
        if (f.kind == 6) {
            tells[1] = f.call;
        }
        return tells[a[1]] == NONE ? find(UNLIKE) : tells[a[1]];
    }

    private boolean streamsFull() {
        return frames.stream().filter(f -> f.kind == 4 || f.kind == 5).count() == 200;
    }

    private int credit(int... a) {
        if (out(a[0], calls.size()) || out(a[1] - 1, 9)) {
            return BAD;
        }
        if (streamsFull()) {
            return FULL;
        }
        return calls.get(a[0]).how == 3 ? sendByCaller(5, a[0], a[1]) : STATE;
    }

    private int piece(int c) {
        if (out(c, calls.size())) {
            return BAD;
        }
        if (streamsFull()) {
            return FULL;
        }
        Call call = calls.get(c);
        if (call.how != 3 || call.sent >= call.credit) {
            return STATE;
        }
        return sendByService(4, c, ++call.sent);
    }

    private int[] stream(int c) {
        return new int[] {calls.get(c).credit, calls.get(c).sent, calls.get(c).came};
    }

    private int mean() {
        List<Call> answered = calls.stream().filter(call -> call.how == 3).toList();
        if (answered.isEmpty()) {
            return find(NOUGHT);
        }
        long sum = answered.stream().mapToLong(call -> call.ended - call.told).sum();
        long d = answered.size();
        while (sum % d != 0 || answered.size() % d != 0) {
            d--;
        }
        upper = sum / d;
        lower = answered.size() / d;
        return answered.size();
    }

    // ---- what is told

    private int[] counts() {
        return new int[] {
            tick, calls.size(), (int) calls.stream().filter(call -> call.how == 0).count(), frames.size(),
            (int) frames.stream().filter(f -> f.how[0] == 2).count(), breaks.size(),
            6 - Collections.frequency(rows, null), 6 - Collections.frequency(texts, null),
            4 - Collections.frequency(shapes, null)};
    }

    private long digest() {
        List<Integer> all = new ArrayList<>();
        addAll(all, counts());
        for (List<Item> shape : shapes) {
            all.add(shape == null ? -1 : shape.size());
            for (Item item : shape == null ? List.<Item>of() : shape) {
                for (int what = 0; what < 6; what++) {
                    all.add(item.fact(what));
                }
            }
        }
        for (Service service : services) {
            addAll(all, service.now, service.then, service.hands, service.mark, service.keep);
            addAll(all, service.doors);
            addAll(all, service.queue.size(), service.doing.size(), kept(service));
        }
        for (int c = 0; c < calls.size(); c++) {
            addAll(all, told(c));
            addAll(all, calls.get(c).where);
            addAll(all, stream(c));
        }
        for (int f = 0; f < frames.size(); f++) {
            addAll(all, frame(f));
        }
        for (List<List<Integer>> those : List.of(rows, texts)) {
            for (List<Integer> row : those) {
                all.add(row == null ? -1 : row.size());
                all.addAll(row == null ? List.of() : row);
            }
        }
        long h = 17;
        for (int v : all) {
            h = 31 * h + v;
        }
        return h;
    }

    private static void addAll(List<Integer> all, int... those) {
        Arrays.stream(those).forEach(all::add);
    }
}
