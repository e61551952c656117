/** What the tests share: counting answers that are not as due, and putting bytes and texts on a desk's tape. */
final class Check {
    private static int answers = 0;
    private static int wrong = 0;

    private Check() {
    }

    static void due(String call, long got, long want) {
        answers++;
        if (got != want) {
            wrong++;
            System.out.println(call + " answered " + got + ", due is " + want);
        }
    }

    static void due(String call, boolean got, boolean want) {
        due(call, got ? 1 : 0, want ? 1 : 0);
    }

    static void finish(String test) {
        System.out.println(test + ": " + answers + " answers, " + wrong + " not as due");
        if (wrong != 0 || answers == 0) {
            System.exit(1);
        }
    }

    /** Feeds the bytes by twenties, and cuts what is too much. */
    static void tape(LocationDesk desk, int... bytes) {
        desk.end(0);
        int[] twenty = new int[5];
        for (int at = 0; at < bytes.length; at += 20) {
            for (int i = 0; i < 5; i++) {
                twenty[i] = 0;
                for (int j = 0; j < 4; j++) {
                    int k = at + 4 * i + j;
                    twenty[i] = twenty[i] << 8 | (k < bytes.length ? bytes[k] & 255 : 0);
                }
            }
            desk.feed(twenty[0], twenty[1], twenty[2], twenty[3], twenty[4]);
        }
        desk.end(bytes.length);
    }

    static void text(LocationDesk desk, String text) {
        int[] bytes = new int[text.length()];
        for (int i = 0; i < bytes.length; i++) {
            bytes[i] = text.charAt(i);
        }
        tape(desk, bytes);
    }

    static int compile(LocationDesk desk, String text) {
        text(desk, text);
        return desk.compile();
    }

    static void expression(LocationDesk desk, int k, int... bytes) {
        tape(desk, bytes);
        due("expression(" + k + ")", desk.expression(k), bytes.length);
    }

    static int[] join(int[]... rows) {
        int size = 0;
        for (int[] row : rows) {
            size += row.length;
        }
        int[] all = new int[size];
        int at = 0;
        for (int[] row : rows) {
            System.arraycopy(row, 0, all, at, row.length);
            at += row.length;
        }
        return all;
    }

    static int[] times(int count, int... bytes) {
        int[] all = new int[count * bytes.length];
        for (int i = 0; i < all.length; i++) {
            all[i] = bytes[i % bytes.length];
        }
        return all;
    }

    static int[] lowFirst(long v, int count) {
        int[] bytes = new int[count];
        for (int i = 0; i < count; i++) {
            bytes[i] = (int) (v >>> 8 * i) & 255;
        }
        return bytes;
    }
}
