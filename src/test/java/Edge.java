/** What the tests of bounds share: bytes that are run at once, their results, and parts of expressions and lists. */
final class Edge {
    static final long MIN = Long.MIN_VALUE;
    static final long MAX = Long.MAX_VALUE;

    static final int[] LAST = new int[16];

    private Edge() {
    }

    static int[] entry(long begin, long end, int... bytes) {
        return Check.join(Check.lowFirst(begin, 8), Check.lowFirst(end, 8), Check.lowFirst(bytes.length, 2), bytes);
    }

    static int[] base(long base) {
        return Check.join(Check.lowFirst(-1, 8), Check.lowFirst(base, 8));
    }

    static int[] wide(long v) {
        return Check.join(new int[] {15}, Check.lowFirst(v, 8));
    }

    static int run(LocationDesk desk, int... bytes) {
        Check.tape(desk, bytes);
        desk.expression(8);
        return desk.run(8, 1000);
    }

    static void is(LocationDesk desk, String what, long kind, long number) {
        Check.due(what + ": kind", desk.part(0, 0), kind);
        Check.due(what + ": number", desk.part(0, 1), number);
    }

    /** The bytes leave this number as t. */
    static void leaves(LocationDesk desk, String what, long want, int... bytes) {
        Check.due(what, run(desk, bytes), 0);
        is(desk, what, 1, want);
    }

    static void leaves(String what, long want, int... bytes) {
        leaves(new LocationDesk(), what, want, bytes);
    }

    /** A fault is told with its place, and the RESULT of before, a register, stays. */
    static void fails(LocationDesk desk, String what, int fault, int place, int... bytes) {
        run(desk, 85);
        Check.due(what, run(desk, bytes), fault);
        Check.due(what + ": told(0)", desk.told(0), fault);
        Check.due(what + ": told(1)", desk.told(1), place);
        is(desk, what + ", the RESULT of before", 2, 5);
    }

    static void fails(String what, int fault, int place, int... bytes) {
        fails(new LocationDesk(), what, fault, place, bytes);
    }

    static void goes(LocationDesk desk, String what, int... bytes) {
        Check.due(what, run(desk, bytes), 0);
        Check.due(what + ": told(0)", desk.told(0), 0);
        Check.due(what + ": told(1)", desk.told(1), -1);
    }

    static void goes(String what, int... bytes) {
        goes(new LocationDesk(), what, bytes);
    }

    static int[] leb(long n) {
        int[] bytes = new int[10];
        int size = 0;
        long rest = n;
        do {
            bytes[size] = (int) (rest & 127) | 128;
            rest >>>= 7;
            size++;
        } while (rest != 0);
        bytes[size - 1] &= 127;
        return java.util.Arrays.copyOf(bytes, size);
    }

    static int[] with(int op, int[]... operands) {
        return Check.join(new int[] {op}, Check.join(operands));
    }
}
