/** The digest as the document's words tell it, of what the calls answer and of what can't be asked. */
final class DigestByWords {
    /** How many items each shape has; -1: it is missing. */
    final int[] items = {-1, -1, -1, -1};
    /** Of each service both versions, hands, mark, keep, and its doors. */
    final int[][] settings = new int[6][];
    final int[][] rows = new int[6][];
    final int[][] texts = new int[6][];
    private long h;

    DigestByWords() {
        int none = DoorCalls.NONE;
        for (int a = 0; a < 6; a++) {
            settings[a] = new int[] {0, 0, 1, 3, 20, none, none, none, none, none, none};
        }
    }

    private void mix(long v) {
        h = 31 * h + v;
    }

    private void mixAsked(DoorCalls x, int answer) {
        mix(answer == 1 ? x.asked() : answer);
    }

    long of(DoorCalls x) {
        h = 17;
        for (int what = 0; what <= 8; what++) {
            mix(x.count(what));
        }
        mixShapes(x);
        mixServices(x);
        mixCalls(x);
        for (int f = 0; f < x.count(3); f++) {
            for (int what = 0; what <= 4; what++) {
                mixAsked(x, x.frame(f, what));
            }
        }
        mixRows(rows);
        mixRows(texts);
        return h;
    }

    private void mixShapes(DoorCalls x) {
        for (int s = 0; s < 4; s++) {
            mix(items[s]);
            for (int i = 0; i < items[s]; i++) {
                for (int what = 0; what <= 5; what++) {
                    mixAsked(x, x.item(s, i, what));
                }
            }
        }
    }

    private void mixServices(DoorCalls x) {
        for (int a = 0; a < 6; a++) {
            for (int v : settings[a]) {
                mix(v);
            }
            mix(x.queue(a));
            mix(x.asked());
            mix(x.kept(a));
        }
    }

    private void mixCalls(DoorCalls x) {
        for (int c = 0; c < x.count(1); c++) {
            for (int what = 0; what <= 6; what++) {
                mixAsked(x, x.told(c, what));
            }
            for (int what = 0; what <= 3; what++) {
                mix(x.where(c, what));
            }
            for (int what = 0; what <= 2; what++) {
                mix(x.stream(c, what));
            }
        }
    }

    private void mixRows(int[][] those) {
        for (int[] row : those) {
            mix(row == null ? -1 : row.length);
            for (int i = 0; row != null && i < row.length; i++) {
                mix(row[i]);
            }
        }
    }
}
