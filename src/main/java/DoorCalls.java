/** Calls over doors that change; ../shared/DOC.md says what each answer is. */
public final class DoorCalls {
    public static final int BAD = -1, FULL = -2, FINDING = -3, STATE = -4, NONE = -9;

    private static final int NOTHING = 1, BEYOND = 2, UNLIKE = 3, NOUGHT = 4, SIZE = 5;

    private static final int ROWS = 6, TEXTS = 6, SHAPES = 4, SERVICES = 6;
    private static final int ROOM = 60, ITEMS = 12, NAMES = 16, VERSIONS = 10, ITEM_FACTS = 6;
    private static final int BYTE = 0, SHORT = 1, MANY = 2, CHOICE = 3;
    private static final int MOST_OF_MANY = 9, HIGHEST_BYTE = 255, HIGHEST_SHORT = 65535;
    private static final int MOST_BYTES_OF_FIELD = 11;

    private static final int LAST_TICK = 9999, MOST_RUN = 100;
    private static final int CALLS = 30, BREAKS = 20, PINGS = 100, STREAM_FRAMES = 200;
    // 30 calls of 6 tries, an answer to each try, one cancel a call, pings, pieces and credits
    private static final int FRAMES = CALLS * 6 * 2 + CALLS + PINGS + STREAM_FRAMES;
    private static final int SORTS = 3, MOST_WORK = 9, MOST_HOUR = 99, MOST_PURSE = 5, MOST_CREDIT = 9;
    private static final int MOST_HANDS = 3, MOST_MARK = 9, MOST_KEEP = 99;

    private static final int ONCE = 1, READ_SORT = 2;
    private static final int OPEN = 0, ANSWERED = 3, REFUSED = 4, CANCELLED = 5, LATE = 6, BROKEN = 7, UNKNOWN = 8;
    private static final int AWAY = 0, WAITS = 1, DOING = 2;
    private static final int SHARES = 4, UNDER_WAY = 0, TO_TRY_AGAIN = 3;
    private static final int PING = 0, ASK = 1, ANSWER = 2, REFUSAL = 3, PIECE = 4, CREDIT = 5, CANCEL = 6;
    private static final int GOES = 0, CAME = 1, LOST = 2;
    private static final int CALL_FACTS = 7, STREAM_FACTS = 3, FRAME_FACTS = 5, COUNTS = 9;

    private final Row[] rows = new Row[ROWS];
    private final Row[] texts = new Row[TEXTS];
    private final Shape[] shapes = new Shape[SHAPES];
    private final Scan scan = new Scan();
    private final Writing writing = new Writing();
    private final Reading reading = new Reading();
    private final Rollout rollout = new Rollout();
    private final Net net = new Net();
    private final Service[] services = net.services;
    private final int[] found = new int[SIZE + 1];
    private int latestFinding = 0;
    private int latestAsked = 0;
    private long upperNumber = 0;
    private long lowerNumber = 1;

    public DoorCalls() {
        for (int r = 0; r < ROWS; r++) {
            rows[r] = new Row(ROOM);
        }
        for (int t = 0; t < TEXTS; t++) {
            texts[t] = new Row(ROOM);
        }
        for (int s = 0; s < SHAPES; s++) {
            shapes[s] = new Shape();
        }
    }

    // ---- 1 rows, texts, shapes

    public int row(int r, int n) {
        if (!within(r, ROWS) || n > ROOM) {
            return BAD;
        }
        if (n < 0) {
            return find(SIZE);
        }
        rows[r].renew(n, 0);
        return n;
    }

    public int lay(int r, int i, int v) {
        int refused = refusalOfPlace(r, i);
        if (refused != NONE) {
            return refused;
        }
        latestAsked = rows[r].places[i];
        rows[r].places[i] = v;
        return 1;
    }

    public int at(int r, int i) {
        int refused = refusalOfPlace(r, i);
        if (refused != NONE) {
            return refused;
        }
        latestAsked = rows[r].places[i];
        return 1;
    }

    public int tear(int r) {
        if (!within(r, ROWS)) {
            return BAD;
        }
        if (!rows[r].there) {
            return find(NOTHING);
        }
        rows[r].there = false;
        return 1;
    }

    public int copy(int r, int i, int to, int j, int n) {
        if (!within(r, ROWS) || !within(to, ROWS)) {
            return BAD;
        }
        if (n < 0) {
            return find(SIZE);
        }
        if (!rows[r].there || !rows[to].there) {
            return find(NOTHING);
        }
        if (!rows[r].spans(i, n) || !rows[to].spans(j, n)) {
            return find(BEYOND);
        }
        System.arraycopy(rows[r].places, i, rows[to].places, j, n);
        return 1;
    }

    public int text(int t, int n) {
        if (!within(t, TEXTS) || n > ROOM) {
            return BAD;
        }
        if (n < 0) {
            return find(SIZE);
        }
        texts[t].renew(n, ' ');
        return n;
    }

    public int put(int t, int i, int v) {
        if (!within(t, TEXTS)) {
            return BAD;
        }
        if (!texts[t].there) {
            return find(NOTHING);
        }
        if (!within(i, texts[t].length)) {
            return find(BEYOND);
        }
        int was = texts[t].places[i];
        texts[t].places[i] = (byte) v;
        return was + 1000;
    }

    public int size(int t) {
        if (!within(t, TEXTS)) {
            return BAD;
        }
        return texts[t].there ? texts[t].length : find(NOTHING);
    }

    public int fault(int t) {
        if (!within(t, TEXTS)) {
            return BAD;
        }
        return texts[t].there ? scan.faultOf(texts[t]) : find(NOTHING);
    }

    public int shape(int s, int t) {
        if (!within(s, SHAPES) || !within(t, TEXTS)) {
            return BAD;
        }
        if (!texts[t].there) {
            return find(NOTHING);
        }
        if (scan.faultOf(texts[t]) != NONE) {
            return STATE;
        }
        shapes[s].become(scan.draft);
        return shapes[s].count;
    }

    public int item(int s, int i, int what) {
        if (!within(s, SHAPES) || !within(what, ITEM_FACTS)) {
            return BAD;
        }
        if (!shapes[s].there) {
            return find(NOTHING);
        }
        if (!within(i, shapes[s].count)) {
            return find(BEYOND);
        }
        latestAsked = shapes[s].fact(i, what);
        return 1;
    }

    public int fields(int s, int v) {
        if (!within(s, SHAPES) || !within(v, VERSIONS)) {
            return BAD;
        }
        if (!shapes[s].there) {
            return find(NOTHING);
        }
        latestAsked = shapes[s].neededOf(v);
        return shapes[s].fieldsOf(v);
    }

    // ---- 2 writing, reading, fitting

    public int write(int s, int v, int r, int t) {
        if (!within(s, SHAPES) || !within(v, VERSIONS) || !within(r, ROWS) || !within(t, TEXTS)) {
            return BAD;
        }
        if (!shapes[s].there || !rows[r].there) {
            return find(NOTHING);
        }
        int wrong = writing.encode(shapes[s], v, rows[r]);
        if (wrong != NONE) {
            return find(wrong);
        }
        if (writing.bytes.length > ROOM) {
            return find(BEYOND);
        }
        texts[t].become(writing.bytes);
        return texts[t].length;
    }

    public int read(int s, int v, int t, int r) {
        if (!within(s, SHAPES) || !within(v, VERSIONS) || !within(t, TEXTS) || !within(r, ROWS)) {
            return BAD;
        }
        if (!shapes[s].there || !texts[t].there) {
            return find(NOTHING);
        }
        int wrong = reading.wrongPlace(shapes[s], v, texts[t]);
        if (wrong != NONE) {
            return wrong;
        }
        reading.decode(shapes[s], v, texts[t]);
        if (reading.numbers.length > ROOM) {
            return find(BEYOND);
        }
        reading.keep();
        rows[r].become(reading.numbers);
        return NONE;
    }

    public int names(int what) {
        switch (what) {
            case 0: return reading.readNames;
            case 1: return reading.unreadNames;
            case 2: return reading.defaultNames;
            default: return BAD;
        }
    }

    public int handOn(int t) {
        if (!within(t, TEXTS)) {
            return BAD;
        }
        if (!texts[t].there) {
            return find(NOTHING);
        }
        if (texts[t].length + reading.unread.length > ROOM) {
            return find(BEYOND);
        }
        texts[t].addAll(reading.unread);
        return texts[t].length;
    }

    public int fits(int s, int w, int v) {
        int refused = refusalOfVersions(s, w, v);
        if (refused != NONE) {
            return refused;
        }
        return shapes[s].unlikeNames(w, v) == 0 ? 1 : 0;
    }

    public int unlike(int s, int w, int v) {
        int refused = refusalOfVersions(s, w, v);
        if (refused != NONE) {
            return refused;
        }
        int unlike = shapes[s].unlikeNames(w, v);
        for (int name = 0; name < NAMES; name++) {
            if ((unlike & 1 << name) != 0) {
                return name;
            }
        }
        return NONE;
    }

    // ---- 3 services

    public int version(int a, int now, int then) {
        if (!within(a, SERVICES) || !within(now, VERSIONS) || !within(then, VERSIONS)) {
            return BAD;
        }
        services[a].now = now;
        services[a].then = then;
        return 1;
    }

    public int door(int a, int b, int s) {
        if (!isPair(a, b) || (s != NONE && !within(s, SHAPES))) {
            return BAD;
        }
        if (s != NONE && !shapes[s].there) {
            return find(NOTHING);
        }
        int was = services[a].doors[b];
        services[a].doors[b] = s;
        return was;
    }

    public int clash() {
        int first = NONE;
        int clashes = 0;
        for (int a = 0; a < SERVICES; a++) {
            for (int b = 0; b < SERVICES; b++) {
                int s = services[a].doors[b];
                if (within(s, SHAPES) && !shapes[s].bothFit(services[a].now, services[b].now)) {
                    first = clashes == 0 ? a * SERVICES + b : first;
                    clashes++;
                }
            }
        }
        latestAsked = first;
        return clashes;
    }

    public int order() {
        rollout.survey(services, shapes);
        if (!rollout.fitsNow()) {
            return STATE;
        }
        rollout.search();
        latestAsked = rollout.most;
        return rollout.steps;
    }

    public int orderAt(int i) {
        if (i < 0) {
            return BAD;
        }
        rollout.survey(services, shapes);
        if (!rollout.fitsNow()) {
            return STATE;
        }
        rollout.search();
        return within(i, rollout.steps) ? rollout.stepAt[i] : NONE;
    }

    public int putIn(int a) {
        if (!within(a, SERVICES)) {
            return BAD;
        }
        rollout.survey(services, shapes);
        if (!rollout.fitsWith(a)) {
            return STATE;
        }
        services[a].now = services[a].then;
        return 1;
    }

    public int service(int a, int hands, int mark, int keep) {
        if (!within(a, SERVICES) || hands < 1 || hands > MOST_HANDS) {
            return BAD;
        }
        if (mark < 0 || mark > MOST_MARK || keep < 0 || keep > MOST_KEEP) {
            return BAD;
        }
        services[a].hands = hands;
        services[a].mark = mark;
        services[a].keep = keep;
        return 1;
    }

    // ---- 4 calls

    public int call(int from, int to, int sort, int work, int hour, int purse) {
        if (!isPair(from, to) || !within(sort, SORTS) || work < 1 || work > MOST_WORK) {
            return BAD;
        }
        if (hour < 1 || hour > MOST_HOUR || purse < 0 || purse > MOST_PURSE) {
            return BAD;
        }
        if (net.callCount >= CALLS) {
            return FULL;
        }
        if (net.tick + hour > LAST_TICK) {
            return STATE;
        }
        return net.open(from, to, sort, work, hour, purse);
    }

    public int breaks(int a, int b, int from, int till) {
        if (!isPair(a, b) || from < 0 || till > LAST_TICK || till < from) {
            return BAD;
        }
        if (net.lines.count >= BREAKS) {
            return FULL;
        }
        net.lines.breakLine(a, b, from, till);
        return net.lines.count;
    }

    public int ping(int a, int b) {
        if (!isPair(a, b)) {
            return BAD;
        }
        if (net.pings >= PINGS) {
            return FULL;
        }
        net.pings++;
        return net.frames.add(PING, a, b, net.tick, NONE, 0);
    }

    public int tick() {
        return net.tick >= LAST_TICK ? STATE : net.pass();
    }

    public int run(int n) {
        if (n < 0 || n > MOST_RUN) {
            return BAD;
        }
        if (net.tick + n > LAST_TICK) {
            return STATE;
        }
        int came = 0;
        for (int i = 0; i < n; i++) {
            came += net.pass();
        }
        return came;
    }

    public int cancel(int c) {
        if (!within(c, net.callCount)) {
            return BAD;
        }
        if (net.calls[c].how != OPEN) {
            return STATE;
        }
        net.giveUp(c, CANCELLED);
        return 1;
    }

    public int told(int c, int what) {
        if (!within(c, net.callCount) || !within(what, CALL_FACTS)) {
            return BAD;
        }
        latestAsked = net.calls[c].fact(what);
        return 1;
    }

    public int where(int c, int what) {
        if (!within(c, net.callCount) || !within(what, SHARES)) {
            return BAD;
        }
        return net.calls[c].shares[what];
    }

    public int queue(int a) {
        if (!within(a, SERVICES)) {
            return BAD;
        }
        latestAsked = services[a].doing;
        return services[a].waiting;
    }

    public int kept(int a) {
        return within(a, SERVICES) ? net.namesKept(a) : BAD;
    }

    public int frame(int f, int what) {
        if (!within(f, net.frames.count) || !within(what, FRAME_FACTS)) {
            return BAD;
        }
        latestAsked = net.frames.fact(f, what);
        return 1;
    }

    public int mark(int f, int kind) {
        if (!within(f, net.frames.count) || kind < ASK || kind > CANCEL) {
            return BAD;
        }
        return net.frames.isOf(f, kind) ? net.frames.tells(f, kind) : find(UNLIKE);
    }

    public int credit(int c, int n) {
        if (!within(c, net.callCount) || n < 1 || n > MOST_CREDIT) {
            return BAD;
        }
        if (net.streamFrames >= STREAM_FRAMES) {
            return FULL;
        }
        if (net.calls[c].how != ANSWERED) {
            return STATE;
        }
        net.streamFrames++;
        return net.send(CREDIT, c, n);
    }

    public int piece(int c) {
        if (!within(c, net.callCount)) {
            return BAD;
        }
        if (net.streamFrames >= STREAM_FRAMES) {
            return FULL;
        }
        Call call = net.calls[c];
        if (call.how != ANSWERED || call.piecesSent >= call.creditCame) {
            return STATE;
        }
        net.streamFrames++;
        call.piecesSent++;
        return net.send(PIECE, c, call.piecesSent);
    }

    public int stream(int c, int what) {
        if (!within(c, net.callCount) || !within(what, STREAM_FACTS)) {
            return BAD;
        }
        return net.calls[c].streamFact(what);
    }

    public int mean() {
        int answered = net.answeredCount();
        if (answered == 0) {
            return find(NOUGHT);
        }
        long sum = net.answeredTicks();
        long common = commonDivisor(sum, answered);
        upperNumber = sum / common;
        lowerNumber = answered / common;
        return answered;
    }

    // ---- 5 what is told

    public int asked() {
        return latestAsked;
    }

    public long upper() {
        return upperNumber;
    }

    public long lower() {
        return lowerNumber;
    }

    public int count(int what) {
        return within(what, COUNTS) ? countOf(what) : BAD;
    }

    public int finding() {
        return latestFinding;
    }

    public int findings(int f) {
        return f >= NOTHING && f <= SIZE ? found[f] : BAD;
    }

    public long digest() {
        long h = 17;
        for (int what = 0; what < COUNTS; what++) {
            h = 31 * h + countOf(what);
        }
        for (int s = 0; s < SHAPES; s++) {
            h = mixShape(h, shapes[s]);
        }
        for (int a = 0; a < SERVICES; a++) {
            h = mixService(h, a);
        }
        for (int c = 0; c < net.callCount; c++) {
            h = mixCall(h, net.calls[c]);
        }
        for (int f = 0; f < net.frames.count; f++) {
            for (int what = 0; what < FRAME_FACTS; what++) {
                h = 31 * h + net.frames.fact(f, what);
            }
        }
        for (int r = 0; r < ROWS; r++) {
            h = mixRow(h, rows[r]);
        }
        for (int t = 0; t < TEXTS; t++) {
            h = mixRow(h, texts[t]);
        }
        return h;
    }

    // ---- helpers of the face

    private static boolean within(int i, int n) {
        return i >= 0 && i < n;
    }

    private static boolean isPair(int a, int b) {
        return within(a, SERVICES) && within(b, SERVICES) && a != b;
    }

    private int find(int which) {
        latestFinding = which;
        found[which]++;
        return FINDING;
    }

    private int refusalOfPlace(int r, int i) {
        if (!within(r, ROWS)) {
            return BAD;
        }
        if (!rows[r].there) {
            return find(NOTHING);
        }
        return within(i, rows[r].length) ? NONE : find(BEYOND);
    }

    private int refusalOfVersions(int s, int w, int v) {
        if (!within(s, SHAPES) || !within(w, VERSIONS) || !within(v, VERSIONS)) {
            return BAD;
        }
        return shapes[s].there ? NONE : find(NOTHING);
    }

    private static long commonDivisor(long a, long b) {
        long big = a;
        long small = b;
        // Euclid's steps over numbers of 64 bits are fewer than 100
        for (int step = 0; step < 100 && small != 0; step++) {
            long rest = big % small;
            big = small;
            small = rest;
        }
        return big == 0 ? 1 : big;
    }

    private int countOf(int what) {
        switch (what) {
            case 0: return net.tick;
            case 1: return net.callCount;
            case 2: return net.openCount;
            case 3: return net.frames.count;
            case 4: return net.frames.lost;
            case 5: return net.lines.count;
            case 6: return rowsThere(rows);
            case 7: return rowsThere(texts);
            default: return shapesThere();
        }
    }

    private static int rowsThere(Row[] those) {
        int n = 0;
        for (int r = 0; r < those.length; r++) {
            n += those[r].there ? 1 : 0;
        }
        return n;
    }

    private int shapesThere() {
        int n = 0;
        for (int s = 0; s < SHAPES; s++) {
            n += shapes[s].there ? 1 : 0;
        }
        return n;
    }

    private static long mixShape(long before, Shape shape) {
        if (!shape.there) {
            return 31 * before - 1;
        }
        long h = 31 * before + shape.count;
        for (int i = 0; i < shape.count; i++) {
            for (int what = 0; what < ITEM_FACTS; what++) {
                h = 31 * h + shape.fact(i, what);
            }
        }
        return h;
    }

    private long mixService(long before, int a) {
        Service service = services[a];
        long h = 31 * before + service.now;
        h = 31 * h + service.then;
        h = 31 * h + service.hands;
        h = 31 * h + service.mark;
        h = 31 * h + service.keep;
        for (int b = 0; b < SERVICES; b++) {
            h = 31 * h + service.doors[b];
        }
        h = 31 * h + service.waiting;
        h = 31 * h + service.doing;
        return 31 * h + net.namesKept(a);
    }

    private static long mixCall(long before, Call call) {
        long h = before;
        for (int what = 0; what < CALL_FACTS; what++) {
            h = 31 * h + call.fact(what);
        }
        for (int what = 0; what < SHARES; what++) {
            h = 31 * h + call.shares[what];
        }
        for (int what = 0; what < STREAM_FACTS; what++) {
            h = 31 * h + call.streamFact(what);
        }
        return h;
    }

    private static long mixRow(long before, Row row) {
        if (!row.there) {
            return 31 * before - 1;
        }
        long h = 31 * before + row.length;
        for (int i = 0; i < row.length; i++) {
            h = 31 * h + row.places[i];
        }
        return h;
    }

    /** A row of ints, or of a text's bytes, made once with the room of its longest. */
    private static final class Row {
        boolean there = false;
        int length = 0;
        final int[] places;

        Row(int room) {
            places = new int[Math.max(room, 0)];
        }

        void renew(int n, int v) {
            there = true;
            length = 0;
            for (int i = 0; i < n; i++) {
                add(v);
            }
        }

        void become(Row other) {
            there = true;
            length = 0;
            addAll(other);
        }

        void add(int v) {
            if (length < places.length) {
                places[length] = v;
                length++;
            }
        }

        void addAll(Row other) {
            int n = Math.min(other.length, places.length - length);
            System.arraycopy(other.places, 0, places, length, n);
            length += n;
        }

        boolean spans(int i, int n) {
            return i >= 0 && i <= length && n <= length - i;
        }

        /** A place of a text without its sign; the places behind the end are 0. */
        int unsignedAt(int i) {
            return within(i, length) ? places[i] & HIGHEST_BYTE : 0;
        }
    }

    /** The items of a shape, and which of them has a name in a version. */
    private static final class Shape {
        boolean there = false;
        int count = 0;
        final int[] name = new int[ITEMS];
        final int[] sort = new int[ITEMS];
        final int[] choices = new int[ITEMS];
        final int[] since = new int[ITEMS];
        final int[] till = new int[ITEMS];
        final int[] preset = new int[ITEMS];
        private final int[] itemOf = new int[VERSIONS * NAMES];

        void become(Shape other) {
            there = true;
            count = other.count;
            System.arraycopy(other.name, 0, name, 0, ITEMS);
            System.arraycopy(other.sort, 0, sort, 0, ITEMS);
            System.arraycopy(other.choices, 0, choices, 0, ITEMS);
            System.arraycopy(other.since, 0, since, 0, ITEMS);
            System.arraycopy(other.till, 0, till, 0, ITEMS);
            System.arraycopy(other.preset, 0, preset, 0, ITEMS);
            indexNames();
        }

        private void indexNames() {
            for (int k = 0; k < VERSIONS * NAMES; k++) {
                itemOf[k] = NONE;
            }
            for (int i = 0; i < count; i++) {
                for (int v = since[i]; v <= till[i]; v++) {
                    itemOf[v * NAMES + name[i]] = i;
                }
            }
        }

        void begin(int itemName, int itemSort, int itemChoices) {
            name[count] = itemName;
            sort[count] = itemSort;
            choices[count] = itemChoices;
            since[count] = 0;
            till[count] = VERSIONS - 1;
            preset[count] = NONE;
        }

        /** Whether the item behind those that are counted may stand among them. */
        boolean lastStands() {
            int i = count;
            if (since[i] > till[i]) {
                return false;
            }
            if (sort[i] == BYTE && preset[i] > HIGHEST_BYTE || sort[i] == CHOICE && preset[i] >= choices[i]) {
                return false;
            }
            for (int k = 0; k < count; k++) {
                if (name[k] == name[i] && since[k] <= till[i] && since[i] <= till[k]) {
                    return false;
                }
            }
            return true;
        }

        int fact(int i, int what) {
            switch (what) {
                case 0: return name[i];
                case 1: return sort[i];
                case 2: return choices[i];
                case 3: return since[i];
                case 4: return till[i];
                default: return preset[i];
            }
        }

        boolean has(int v, int i) {
            return since[i] <= v && v <= till[i];
        }

        boolean isNeeded(int i) {
            return preset[i] == NONE;
        }

        int fieldsOf(int v) {
            int n = 0;
            for (int i = 0; i < count; i++) {
                n += has(v, i) ? 1 : 0;
            }
            return n;
        }

        int neededOf(int v) {
            int n = 0;
            for (int i = 0; i < count; i++) {
                n += has(v, i) && isNeeded(i) ? 1 : 0;
            }
            return n;
        }

        /** The item of a version with that name and that sort, or NONE. */
        int itemLike(int v, int itemName, int itemSort) {
            int i = itemOf[v * NAMES + itemName];
            return i != NONE && sort[i] == itemSort ? i : NONE;
        }

        /** The names, as bits, by which version w does not fit version v. */
        int unlikeNames(int w, int v) {
            int names = 0;
            for (int i = 0; i < count; i++) {
                if (has(v, i)) {
                    int k = itemLike(w, name[i], sort[i]);
                    boolean unlike = k == NONE ? isNeeded(i) : choices[k] > choices[i];
                    names |= unlike ? 1 << name[i] : 0;
                }
            }
            return names;
        }

        boolean bothFit(int v, int w) {
            return unlikeNames(v, w) == 0 && unlikeNames(w, v) == 0;
        }
    }

    /** Goes through a text of the language of shapes; the items come to a draft. */
    private static final class Scan {
        private static final int END = -1000;
        private static final int MARKS = 3, SINCE = 0, TILL = 1, DEFAULT = 2, MOST_FIGURES = 3;

        final Shape draft = new Shape();
        private Row text = null;
        private int place = 0;

        int faultOf(Row those) {
            text = those;
            place = 0;
            draft.count = 0;
            // an item takes two signs at least, so that there are no more turns than signs
            for (int turn = 0; turn <= ROOM; turn++) {
                skipBlanks();
                if (sign() == END) {
                    return NONE;
                }
                int fault = scanItem();
                if (fault != NONE) {
                    return fault;
                }
            }
            return NONE;
        }

        private int sign() {
            return text != null && place < text.length ? text.places[place] : END;
        }

        private int figure() {
            int sign = sign();
            return sign >= '0' && sign <= '9' ? sign - '0' : NONE;
        }

        private void skipBlanks() {
            for (int k = 0; k < ROOM && sign() == ' '; k++) {
                place++;
            }
        }

        private int scanItem() {
            int name = sign() - 'a';
            if (!within(name, NAMES) || draft.count >= ITEMS) {
                return place;
            }
            place++;
            int sort = sortOf(sign());
            if (sort == NONE) {
                return place;
            }
            place++;
            int choices = 0;
            if (sort == CHOICE) {
                choices = figure();
                if (choices <= 0) {
                    return place;
                }
                place++;
            }
            draft.begin(name, sort, choices);
            int fault = scanMarks(sort);
            if (fault != NONE) {
                return fault;
            }
            if (!draft.lastStands()) {
                return place;
            }
            draft.count++;
            return NONE;
        }

        private int scanMarks(int sort) {
            int told = 0;
            // a fourth mark is one that was told, so that the last turn always returns
            for (int turn = 0; turn <= MARKS; turn++) {
                int mark = markOf(sign());
                if (mark == NONE) {
                    return NONE;
                }
                if ((told & 1 << mark) != 0 || mark == DEFAULT && sort == MANY) {
                    return place;
                }
                told |= 1 << mark;
                place++;
                if (figure() == NONE) {
                    return place;
                }
                takeFigures(mark);
            }
            return NONE;
        }

        private void takeFigures(int mark) {
            int most = mark == DEFAULT ? MOST_FIGURES : 1;
            int number = 0;
            for (int k = 0; k < most && figure() != NONE; k++) {
                number = number * 10 + figure();
                place++;
            }
            if (mark == SINCE) {
                draft.since[draft.count] = number;
            } else if (mark == TILL) {
                draft.till[draft.count] = number;
            } else {
                draft.preset[draft.count] = number;
            }
        }

        private static int sortOf(int sign) {
            switch (sign) {
                case 'B': return BYTE;
                case 'S': return SHORT;
                case 'R': return MANY;
                case 'C': return CHOICE;
                default: return NONE;
            }
        }

        private static int markOf(int sign) {
            switch (sign) {
                case '+': return SINCE;
                case '-': return TILL;
                case '=': return DEFAULT;
                default: return NONE;
            }
        }
    }

    /** Turns the values of a row to the bytes of a version. */
    private static final class Writing {
        final Row bytes = new Row(ITEMS * MOST_BYTES_OF_FIELD);
        private int next = 0;

        /** NONE, or the finding that bars it. */
        int encode(Shape shape, int v, Row row) {
            bytes.length = 0;
            next = 0;
            for (int i = 0; i < shape.count; i++) {
                if (shape.has(v, i)) {
                    int wrong = encodeField(shape, i, row);
                    if (wrong != NONE) {
                        return wrong;
                    }
                }
            }
            return next == row.length ? NONE : SIZE;
        }

        private int encodeField(Shape shape, int i, Row row) {
            if (next >= row.length) {
                return SIZE;
            }
            int number = row.places[next];
            next++;
            if (number < 0 || number > highest(shape, i)) {
                return UNLIKE;
            }
            bytes.add(shape.sort[i] * NAMES + shape.name[i]);
            if (shape.sort[i] == SHORT) {
                bytes.add((byte) (number >> 8));
            }
            bytes.add((byte) number);
            return shape.sort[i] == MANY ? encodeMany(number, row) : NONE;
        }

        private int encodeMany(int many, Row row) {
            if (next + many > row.length) {
                return SIZE;
            }
            for (int k = 0; k < many; k++) {
                int number = row.places[next];
                next++;
                if (number < 0 || number > HIGHEST_BYTE) {
                    return UNLIKE;
                }
                bytes.add((byte) number);
            }
            return NONE;
        }

        private static int highest(Shape shape, int i) {
            switch (shape.sort[i]) {
                case BYTE: return HIGHEST_BYTE;
                case SHORT: return HIGHEST_SHORT;
                case MANY: return MOST_OF_MANY;
                default: return shape.choices[i] - 1;
            }
        }
    }

    /** Turns bytes to the values of a version; keeps what the latest good reading told. */
    private static final class Reading {
        final Row numbers = new Row(ITEMS * (MOST_OF_MANY + 1));
        final Row unread = new Row(ROOM);
        int readNames = 0;
        int unreadNames = 0;
        int defaultNames = 0;

        // of the reading that goes on, which may yet turn out wrong
        private final int[] valuePlace = new int[NAMES];
        private final Row newUnread = new Row(ROOM);
        private int newRead = 0;
        private int newKept = 0;
        private int newDefault = 0;

        /** The first place that is wrong, or NONE. */
        int wrongPlace(Shape shape, int v, Row text) {
            newUnread.length = 0;
            newRead = 0;
            newKept = 0;
            int place = 0;
            for (int turn = 0; turn < ROOM && place < text.length; turn++) {
                int head = text.places[place];
                if (head < 0 || head >= (CHOICE + 1) * NAMES) {
                    return place;
                }
                int sort = head / NAMES;
                int name = head % NAMES;
                if (((newRead | newKept) & 1 << name) != 0) {
                    return place;
                }
                int item = shape.itemLike(v, name, sort);
                int wrong = wrongInField(text, place, sort, choicesOf(shape, item, sort));
                if (wrong != NONE) {
                    return wrong;
                }
                int end = place + widthOf(text, place, sort);
                take(text, place, end, name, item != NONE);
                place = end;
            }
            return lacksNeeded(shape, v) ? text.length : NONE;
        }

        /** How many numbers a field's first byte may be; what is kept unread has no choices to break. */
        private static int choicesOf(Shape shape, int item, int sort) {
            if (sort == MANY) {
                return MOST_OF_MANY + 1;
            }
            return sort == CHOICE && item != NONE ? shape.choices[item] : HIGHEST_BYTE + 1;
        }

        private static int wrongInField(Row text, int place, int sort, int choices) {
            if (text.unsignedAt(place + 1) >= choices) {
                return place + 1;
            }
            return place + widthOf(text, place, sort) > text.length ? text.length : NONE;
        }

        private static int widthOf(Row text, int place, int sort) {
            if (sort == SHORT) {
                return 3;
            }
            return sort == MANY ? 2 + text.unsignedAt(place + 1) : 2;
        }

        private void take(Row text, int place, int end, int name, boolean known) {
            if (known) {
                newRead |= 1 << name;
                valuePlace[name] = place + 1;
                return;
            }
            newKept |= 1 << name;
            for (int k = place; k < end; k++) {
                newUnread.add(text.places[k]);
            }
        }

        private boolean lacksNeeded(Shape shape, int v) {
            for (int i = 0; i < shape.count; i++) {
                if (shape.has(v, i) && shape.isNeeded(i) && (newRead & 1 << shape.name[i]) == 0) {
                    return true;
                }
            }
            return false;
        }

        /** Lays out the values of a text in which no place is wrong. */
        void decode(Shape shape, int v, Row text) {
            numbers.length = 0;
            newDefault = 0;
            for (int i = 0; i < shape.count; i++) {
                if (shape.has(v, i)) {
                    if ((newRead & 1 << shape.name[i]) != 0) {
                        decodeField(shape.sort[i], valuePlace[shape.name[i]], text);
                    } else {
                        newDefault |= 1 << shape.name[i];
                        numbers.add(shape.preset[i]);
                    }
                }
            }
        }

        private void decodeField(int sort, int place, Row text) {
            int first = text.unsignedAt(place);
            numbers.add(sort == SHORT ? first * 256 + text.unsignedAt(place + 1) : first);
            int many = sort == MANY ? first : 0;
            for (int k = 1; k <= many; k++) {
                numbers.add(text.unsignedAt(place + k));
            }
        }

        /** From now on the reading that went well is the latest one. */
        void keep() {
            readNames = newRead;
            unreadNames = newKept;
            defaultNames = newDefault;
            unread.become(newUnread);
        }
    }

    /** A service: its versions, its doors, and how much it does at once. */
    private static final class Service {
        int now = 0;
        int then = 0;
        int hands = 1;
        int mark = 3;
        int keep = 20;
        int waiting = 0;
        int doing = 0;
        final int[] doors = {NONE, NONE, NONE, NONE, NONE, NONE};
    }

    /** Which sets of services (bits) may stand at their new versions, and in what order they come to it. */
    private static final class Rollout {
        private static final int SETS = 1 << SERVICES;

        private final boolean[] allFit = new boolean[SETS];
        private final boolean[] reached = new boolean[SETS];
        private int changing = 0;
        int most = 0;
        int steps = 0;
        final int[] stepAt = new int[SERVICES];

        void survey(Service[] services, Shape[] shapes) {
            changing = 0;
            for (int a = 0; a < SERVICES; a++) {
                changing |= services[a].now != services[a].then ? 1 << a : 0;
            }
            for (int set = 0; set < SETS; set++) {
                allFit[set] = (set & ~changing) == 0;
            }
            for (int a = 0; a < SERVICES; a++) {
                for (int b = 0; b < SERVICES; b++) {
                    int s = services[a].doors[b];
                    if (within(s, SHAPES)) {
                        barSets(shapes[s], services, a, b);
                    }
                }
            }
        }

        private void barSets(Shape shape, Service[] services, int a, int b) {
            Service one = services[a];
            Service other = services[b];
            barUnless(shape.bothFit(one.now, other.now), a, b, 0);
            barUnless(shape.bothFit(one.then, other.now), a, b, 1 << a);
            barUnless(shape.bothFit(one.now, other.then), a, b, 1 << b);
            barUnless(shape.bothFit(one.then, other.then), a, b, 1 << a | 1 << b);
        }

        private void barUnless(boolean fit, int a, int b, int putIn) {
            if (fit) {
                return;
            }
            int both = 1 << a | 1 << b;
            for (int set = 0; set < SETS; set++) {
                allFit[set] = allFit[set] && (set & both) != putIn;
            }
        }

        boolean fitsNow() {
            return allFit[0];
        }

        /** Whether all pairs fit with one service more at its new version. */
        boolean fitsWith(int a) {
            return allFit[1 << a & changing];
        }

        void search() {
            markReached();
            most = mostReached();
            steps = NONE;
            if (reached[changing]) {
                layOutSteps();
            }
        }

        private void markReached() {
            reached[0] = allFit[0];
            for (int set = 1; set < SETS; set++) {
                boolean next = false;
                for (int a = 0; a < SERVICES; a++) {
                    next = next || (set & 1 << a) != 0 && reached[set & ~(1 << a)];
                }
                reached[set] = next && allFit[set];
            }
        }

        private int mostReached() {
            int best = 0;
            for (int set = 1; set < SETS; set++) {
                if (reached[set] && Integer.bitCount(set) > Integer.bitCount(best)) {
                    best = set;
                }
            }
            return best;
        }

        /**
         * The least number that fits can be taken each time: if there is an order, what it puts in first of all
         * that is still left fits, too, for each pair stands as it did in that order, or as it does at its end.
         */
        private void layOutSteps() {
            steps = 0;
            int set = 0;
            for (int turn = 0; turn < SERVICES && set != changing; turn++) {
                int a = firstThatFits(set);
                if (a == NONE) {
                    return;
                }
                stepAt[steps] = a;
                steps++;
                set |= 1 << a;
            }
        }

        private int firstThatFits(int set) {
            for (int a = 0; a < SERVICES; a++) {
                if ((set & 1 << a) == 0 && allFit[set | 1 << a]) {
                    return a;
                }
            }
            return NONE;
        }
    }

    /** A call, both as its caller sees it and as its service does. */
    private static final class Call {
        int from = 0;
        int to = 0;
        int sort = 0;
        int work = 0;
        int purse = 0;
        int toldAt = 0;
        int due = 0;
        int how = OPEN;
        int endedAt = NONE;
        int tries = 0;
        int askedAt = 0;
        int framesUnderWay = 0;
        int place = AWAY;
        int toGo = 0;
        int effects = 0;
        int keptTill = NONE;
        int creditCame = 0;
        int piecesSent = 0;
        int piecesCame = 0;
        final int[] shares = new int[SHARES];

        int fact(int what) {
            switch (what) {
                case 0: return how;
                case 1: return tries;
                case 2: return purse;
                case 3: return effects;
                case 4: return toldAt;
                case 5: return endedAt;
                default: return place;
            }
        }

        int streamFact(int what) {
            switch (what) {
                case 0: return creditCame;
                case 1: return piecesSent;
                default: return piecesCame;
            }
        }

        /** Which share a tick that begins now belongs to. */
        int share() {
            if (place != AWAY) {
                return place;
            }
            return framesUnderWay > 0 ? UNDER_WAY : TO_TRY_AGAIN;
        }
    }

    /** All frames that were ever sent. */
    private static final class Frames {
        int count = 0;
        int lost = 0;
        // a frame goes for one tick, so that those under way are the last ones
        int firstUnderWay = 0;
        final int[] kind = new int[FRAMES];
        final int[] from = new int[FRAMES];
        final int[] to = new int[FRAMES];
        final int[] sentAt = new int[FRAMES];
        final int[] how = new int[FRAMES];
        final int[] call = new int[FRAMES];
        final int[] detail = new int[FRAMES];

        int add(int itsKind, int a, int b, int tick, int itsCall, int itsDetail) {
            if (count >= FRAMES) {
                return FULL;
            }
            int f = count;
            kind[f] = itsKind;
            from[f] = a;
            to[f] = b;
            sentAt[f] = tick;
            how[f] = GOES;
            call[f] = itsCall;
            detail[f] = itsDetail;
            count++;
            return f;
        }

        int fact(int f, int what) {
            switch (what) {
                case 0: return kind[f];
                case 1: return from[f];
                case 2: return to[f];
                case 3: return sentAt[f];
                default: return how[f];
            }
        }

        boolean isOf(int f, int asKind) {
            int own = kind[f];
            return own == asKind || own == REFUSAL && asKind == ANSWER || own == CANCEL && asKind == ASK;
        }

        int tells(int f, int asKind) {
            return asKind == ASK || asKind == ANSWER ? call[f] : detail[f];
        }
    }

    /** When the lines of two services are broken. */
    private static final class Lines {
        int count = 0;
        private final int[] line = new int[BREAKS];
        private final int[] from = new int[BREAKS];
        private final int[] till = new int[BREAKS];

        void breakLine(int a, int b, int first, int last) {
            if (count < BREAKS) {
                line[count] = lineOf(a, b);
                from[count] = first;
                till[count] = last;
                count++;
            }
        }

        boolean isBroken(int a, int b, int tick) {
            int wanted = lineOf(a, b);
            for (int k = 0; k < count; k++) {
                if (line[k] == wanted && from[k] <= tick && tick <= till[k]) {
                    return true;
                }
            }
            return false;
        }

        private static int lineOf(int a, int b) {
            return Math.min(a, b) * SERVICES + Math.max(a, b);
        }
    }

    /** The calls and frames among the services, tick by tick. */
    private static final class Net {
        final Service[] services = new Service[SERVICES];
        final Call[] calls = new Call[CALLS];
        final Frames frames = new Frames();
        final Lines lines = new Lines();
        int tick = 0;
        int callCount = 0;
        int openCount = 0;
        int pings = 0;
        int streamFrames = 0;

        Net() {
            for (int a = 0; a < SERVICES; a++) {
                services[a] = new Service();
            }
            for (int c = 0; c < CALLS; c++) {
                calls[c] = new Call();
            }
        }

        int open(int from, int to, int sort, int work, int hour, int purse) {
            int c = callCount;
            Call call = calls[c];
            call.from = from;
            call.to = to;
            call.sort = sort;
            call.work = work;
            call.purse = purse;
            call.toldAt = tick;
            call.due = tick + hour;
            callCount++;
            openCount++;
            ask(c);
            return c;
        }

        int send(int kind, int c, int detail) {
            Call call = calls[c];
            boolean byCaller = kind == ASK || kind == CANCEL || kind == CREDIT;
            call.framesUnderWay++;
            return frames.add(kind, byCaller ? call.from : call.to, byCaller ? call.to : call.from, tick, c, detail);
        }

        private void ask(int c) {
            calls[c].askedAt = tick;
            send(ASK, c, 0);
        }

        private void end(int c, int how) {
            if (calls[c].how == OPEN) {
                calls[c].how = how;
                calls[c].endedAt = tick;
                openCount--;
            }
        }

        /** The caller waits no longer, and tells the service so. */
        void giveUp(int c, int how) {
            end(c, how);
            send(CANCEL, c, how);
        }

        int pass() {
            shareOut();
            tick++;
            int came = deliver();
            for (int a = 0; a < SERVICES; a++) {
                finishWork(a);
            }
            for (int a = 0; a < SERVICES; a++) {
                beginWork(a);
            }
            watchCalls();
            return came;
        }

        private void shareOut() {
            for (int c = 0; c < callCount && openCount > 0; c++) {
                if (calls[c].how == OPEN) {
                    calls[c].shares[calls[c].share()]++;
                }
            }
        }

        private int deliver() {
            int came = 0;
            int end = frames.count;
            for (int f = frames.firstUnderWay; f < end; f++) {
                int c = frames.call[f];
                if (within(c, callCount)) {
                    calls[c].framesUnderWay--;
                }
                if (lines.isBroken(frames.from[f], frames.to[f], tick)) {
                    frames.how[f] = LOST;
                    frames.lost++;
                } else {
                    frames.how[f] = CAME;
                    came++;
                    take(f);
                }
            }
            frames.firstUnderWay = end;
            return came;
        }

        private void take(int f) {
            int c = frames.call[f];
            if (!within(c, callCount)) {
                return;
            }
            switch (frames.kind[f]) {
                case ASK: takeAsk(c); break;
                case ANSWER: end(c, ANSWERED); break;
                case REFUSAL: end(c, frames.detail[f]); break;
                case PIECE: calls[c].piecesCame++; break;
                case CREDIT: calls[c].creditCame += frames.detail[f]; break;
                case CANCEL: takeCancel(c); break;
                default: break;
            }
        }

        private void takeAsk(int c) {
            Call call = calls[c];
            Service service = services[call.to];
            if (call.place != AWAY) {
                return;
            }
            boolean handFree = service.doing + service.waiting < service.hands;
            if (isKept(call)) {
                send(ANSWER, c, 0);
            } else if (call.sort == ONCE && call.tries > 0) {
                send(REFUSAL, c, UNKNOWN);
            } else if (tick + call.work > call.due) {
                send(REFUSAL, c, LATE);
            } else if (!handFree && service.waiting >= service.mark) {
                send(REFUSAL, c, REFUSED);
            } else {
                call.place = WAITS;
                service.waiting++;
            }
        }

        private void takeCancel(int c) {
            if (calls[c].place == WAITS) {
                calls[c].place = AWAY;
                services[calls[c].to].waiting--;
            }
        }

        private void finishWork(int a) {
            for (int c = 0; c < callCount && services[a].doing > 0; c++) {
                Call call = calls[c];
                if (call.to == a && call.place == DOING) {
                    call.toGo--;
                    if (call.toGo <= 0) {
                        finish(c);
                    }
                }
            }
        }

        private void finish(int c) {
            Call call = calls[c];
            Service service = services[call.to];
            service.doing--;
            call.place = AWAY;
            call.effects += call.sort == READ_SORT ? 0 : 1;
            call.keptTill = tick + service.keep;
            send(ANSWER, c, 0);
        }

        private void beginWork(int a) {
            Service service = services[a];
            // the queue is in order of the calls' numbers, so that one way through them takes the first each time
            for (int c = 0; c < callCount && service.waiting > 0 && service.doing < service.hands; c++) {
                if (calls[c].to == a && calls[c].place == WAITS) {
                    service.waiting--;
                    begin(c);
                }
            }
        }

        private void begin(int c) {
            Call call = calls[c];
            if (tick + call.work > call.due) {
                call.place = AWAY;
                send(REFUSAL, c, LATE);
            } else {
                call.place = DOING;
                call.toGo = call.work;
                services[call.to].doing++;
            }
        }

        private void watchCalls() {
            for (int c = 0; c < callCount && openCount > 0; c++) {
                if (calls[c].how == OPEN) {
                    watch(c);
                }
            }
        }

        private void watch(int c) {
            Call call = calls[c];
            if (tick > call.due) {
                giveUp(c, LATE);
            } else if (tick - call.askedAt >= call.work + 4 + (1 << call.tries)) {
                if (call.purse > 0) {
                    call.purse--;
                    call.tries++;
                    ask(c);
                } else {
                    end(c, BROKEN);
                }
            }
        }

        private boolean isKept(Call call) {
            return call.keptTill >= tick;
        }

        int namesKept(int a) {
            int n = 0;
            for (int c = 0; c < callCount; c++) {
                n += calls[c].to == a && isKept(calls[c]) ? 1 : 0;
            }
            return n;
        }

        int answeredCount() {
            int n = 0;
            for (int c = 0; c < callCount; c++) {
                n += calls[c].how == ANSWERED ? 1 : 0;
            }
            return n;
        }

        long answeredTicks() {
            long sum = 0;
            for (int c = 0; c < callCount; c++) {
                sum += calls[c].how == ANSWERED ? calls[c].endedAt - calls[c].toldAt : 0;
            }
            return sum;
        }
    }
}
