/** Promise 13 without faults: what every operation does, and the results of runs. */
public final class OperationTest {
    private static final long MIN = Long.MIN_VALUE;
    private static final long MAX = Long.MAX_VALUE;

    public static void main(String[] args) {
        arguments();
        constants();
        lebs();
        registersAndMemory();
        stackOrder();
        oneNumber();
        twoNumbers();
        jumps();
        asks();
        calls();
        holds();
        pieces();
        frames();
        Check.finish("OperationTest");
    }

    private static void arguments() {
        LocationDesk desk = new LocationDesk();
        Check.expression(desk, 0, 0x35);
        int[] noSuch = {-1, 16, Integer.MIN_VALUE, Integer.MAX_VALUE};
        for (int k : noSuch) {
            Check.due("run(" + k + ")", desk.run(k, 5), -1);
        }
        int[] noFuel = {-1, 0, 1001, Integer.MIN_VALUE, Integer.MAX_VALUE};
        for (int fuel : noFuel) {
            Check.due("fuel " + fuel, desk.run(0, fuel), -1);
        }
        Check.due("nothing was told", desk.told(0), -1);
        Check.due("no new RESULT", desk.part(0, 0), 0);
        Check.due("fuel 1", desk.run(0, 1), 0);
        Check.due("fuel 1000", desk.run(0, 1000), 0);
        Check.due("an ADDRESS", desk.part(0, 0), 1);
        Check.due("run(16)", desk.run(16, 5), -1);
        Check.due("the RESULT stays", desk.part(0, 1), 5);
        Check.expression(desk, 1, 0x35, 0);
        Check.due("a fault", desk.run(1, 5), 2);
        Check.due("the RESULT stays", desk.part(0, 1), 5);
    }

    /** What the bytes leave as t. */
    private static void top(String what, long want, int... bytes) {
        top(new LocationDesk(), what, want, bytes);
    }

    private static void top(LocationDesk desk, String what, long want, int... bytes) {
        Check.expression(desk, 9, bytes);
        Check.due(what + " runs", desk.run(9, 1000), 0);
        Check.due(what + " is an ADDRESS", desk.part(0, 0), 1);
        Check.due(what, desk.part(0, 1), want);
    }

    private static void constants() {
        for (int n = 0; n < 32; n++) {
            top("lit" + n, n, 48 + n);
        }
        top("u1", 255, 8, 255);
        top("s1", -1, 9, 255);
        top("s1", 127, 9, 127);
        top("u2", 0xFE01, 10, 1, 0xFE);
        top("s2", (short) 0xFE01, 11, 1, 0xFE);
        top("u4", 0xFE030201L, 12, 1, 2, 3, 0xFE);
        top("s4", 0xFE030201, 13, 1, 2, 3, 0xFE);
        top("u8", 0xF807060504030201L, 14, 1, 2, 3, 4, 5, 6, 7, 0xF8);
        top("s8", 0xF807060504030201L, 15, 1, 2, 3, 4, 5, 6, 7, 0xF8);
        top("addr", 0x0807060504030201L, 3, 1, 2, 3, 4, 5, 6, 7, 8);
    }

    private static void lebs() {
        top("U of one", 127, 16, 127);
        top("U of two", 128, 16, 128, 1);
        top("U, long zero", 0, 16, 128, 128, 128, 0);
        top("U of ten", -1, 16, 255, 255, 255, 255, 255, 255, 255, 255, 255, 1);
        top("U of ten, more goes", -1, 16, 255, 255, 255, 255, 255, 255, 255, 255, 255, 127);
        top("U of ten, bit 63 is 0", MAX, 16, 255, 255, 255, 255, 255, 255, 255, 255, 255, 126);
        top("U of nine", MAX, 16, 255, 255, 255, 255, 255, 255, 255, 255, 127);
        top("S", 63, 17, 63);
        top("S", -64, 17, 64);
        top("S", 64, 17, 192, 0);
        top("S", -1, 17, 127);
        top("S", -1, 17, 255, 127);
        top("S of nine, bit 63 too", -1, 17, 255, 255, 255, 255, 255, 255, 255, 255, 127);
        top("S of nine", MAX >>> 1, 17, 255, 255, 255, 255, 255, 255, 255, 255, 63);
        top("S of ten tells all", MAX, 17, 255, 255, 255, 255, 255, 255, 255, 255, 255, 64);
        top("S of ten tells all", MIN, 17, 128, 128, 128, 128, 128, 128, 128, 128, 128, 1);
        top("S of ten, 0", 0, 17, 128, 128, 128, 128, 128, 128, 128, 128, 128, 126);
    }

    private static void registersAndMemory() {
        LocationDesk desk = new LocationDesk();
        desk.load(0, 1000);
        desk.load(31, MAX);
        top(desk, "breg0", 990, 112, 118);
        top(desk, "breg31 wraps", MIN, 143, 1);
        top(desk, "bregx", 1001, 146, 0, 1);
        top(desk, "bregx 31", MAX - 1, 146, 31, 127);
        for (int i = 0; i < 8; i++) {
            desk.poke(4088 + i, 0x81 + i);
        }
        top(desk, "8 bytes", 0x8887868584838281L, 10, 0xF8, 0x0F, 6);
        for (int n = 1; n <= 8; n++) {
            long want = n == 8 ? 0x8887868584838281L : 0x8887868584838281L & (1L << 8 * n) - 1;
            top(desk, n + " bytes", want, 10, 0xF8, 0x0F, 148, n);
        }
        top(desk, "the last byte", 0x88, 10, 0xFF, 0x0F, 148, 1);
        desk.poke(0, 9);
        top(desk, "the first byte", 9, 48, 148, 1);
    }

    private static void stackOrder() {
        top("dup", 10, 0x35, 18, 34);
        top("drop", 5, 0x35, 0x36, 19);
        top("over", 5, 0x35, 0x36, 20);
        top("over keeps", 11, 0x35, 0x36, 20, 19, 34);
        top("pick 0", 7, 0x35, 0x36, 0x37, 21, 0);
        top("pick 2", 5, 0x35, 0x36, 0x37, 21, 2);
        top("swap", 5, 0x35, 0x36, 22);
        top("swap keeps", 1, 0x35, 0x36, 22, 28);
        top("rot: t", 6, 0x35, 0x36, 0x37, 23);
        top("rot: s", 5, 0x35, 0x36, 0x37, 23, 19);
        top("rot: below", 7, 0x35, 0x36, 0x37, 23, 19, 19);
        int[] full = Check.join(Check.times(128, 0x35), new int[] {22, 19});
        top("swap of a full stack", 5, full);
        top("rot of a full stack", 5, Check.join(Check.times(128, 0x35), new int[] {23}));
        LocationDesk desk = new LocationDesk();
        Check.expression(desk, 0, Check.join(new int[] {0x31}, Check.times(127, 0x35), Check.times(127, 19)));
        desk.run(0, 1000);
        Check.due("the lowest of 128", desk.part(0, 1), 1);
        top("pick 127", 1, Check.join(new int[] {0x31}, Check.times(126, 0x35), new int[] {21, 126}));
    }

    private static void one(int op, long t, long want, int... operand) {
        top("op " + op + " of " + t, want, Check.join(new int[] {15}, Check.lowFirst(t, 8), new int[] {op}, operand));
    }

    private static void oneNumber() {
        one(25, -5, 5);
        one(25, 5, 5);
        one(25, MIN, MIN);
        one(31, 5, -5);
        one(31, MIN, MIN);
        one(32, 0, -1);
        one(32, 5, -6);
        one(35, 5, 133, 128, 1);
        one(35, MAX, MIN, 1);
        one(35, 5, 4, 255, 255, 255, 255, 255, 255, 255, 255, 255, 1);
    }

    private static void two(int op, long s, long t, long want) {
        top(s + " op " + op + " " + t, want,
            Check.join(new int[] {15}, Check.lowFirst(s, 8), new int[] {15}, Check.lowFirst(t, 8), new int[] {op}));
    }

    private static void twoNumbers() {
        two(26, 12, 10, 8);
        two(33, 12, 10, 14);
        two(39, 12, 10, 6);
        two(34, MAX, 1, MIN);
        two(28, 5, 7, -2);
        two(28, MIN, 1, MAX);
        two(30, 6, -7, -42);
        two(30, MIN, -1, MIN);
        two(27, 7, 2, 3);
        two(27, -7, 2, -3);
        two(27, 7, -2, -3);
        two(27, MIN, -1, MIN);
        long[] some = {0, 1, 2, 3, 7, 10, 63, 64, MAX, MIN, MIN + 1, -1, -2, -7, 1L << 62, 3L << 62, 0x123456789ABCDEFL};
        for (long s : some) {
            for (long t : some) {
                if (t != 0) {
                    two(29, s, t, Long.remainderUnsigned(s, t));
                    two(27, s, t, s / t);
                }
                boolean far = t < 0 || t > 63;
                two(36, s, t, far ? 0 : s << t);
                two(37, s, t, far ? 0 : s >>> t);
                two(38, s, t, far ? s < 0 ? -1 : 0 : s >> t);
                two(41, s, t, s == t ? 1 : 0);
                two(42, s, t, s >= t ? 1 : 0);
                two(43, s, t, s > t ? 1 : 0);
                two(44, s, t, s <= t ? 1 : 0);
                two(45, s, t, s < t ? 1 : 0);
                two(46, s, t, s != t ? 1 : 0);
            }
        }
    }

    private static void jumps() {
        top("skip", 5, 0x35, 47, 1, 0, 0x36);
        top("skip nothing", 6, 0x35, 47, 0, 0, 0x36);
        top("branch", 5, 0x35, 0x31, 40, 1, 0, 0x36);
        top("no branch", 6, 0x35, 0x30, 40, 1, 0, 0x36);
        top("branch that is not taken may tell any place", 5, 0x35, 0x30, 40, 255, 127);
        top("skip to the end", 5, 0x35, 47, 1, 0, 0);
        top("back to the first", 0, 0x33, 47, 1, 0, 0, 49, 28, 18, 40, 0xFA, 0xFF);
        LocationDesk desk = new LocationDesk();
        Check.expression(desk, 0, 47, 0xFD, 0xFF);
        Check.due("for ever", desk.run(0, 1000), 12);
        Check.due("steps", desk.told(2), 1000);
        Check.due("place", desk.told(1), 0);
        top("nothing", 5, 150, 0x35, 150);
    }

    private static void asks() {
        LocationDesk desk = new LocationDesk();
        desk.set(0, -3, true);
        desk.set(1, MAX, true);
        desk.cfa(4, 16);
        desk.load(4, 100);
        top(desk, "OBJECT", -3, 151);
        top(desk, "TLS wraps", MIN + 4, 0x35, 155);
        top(desk, "CFA", 116, 156);
    }

    private static void calls() {
        LocationDesk desk = new LocationDesk();
        Check.expression(desk, 15, 34);
        Check.expression(desk, 1, 0x35, 0x36, 152, 15, 0, 18);
        Check.due("call2", desk.run(1, 5), 0);
        Check.due("on this stack", desk.part(0, 1), 11);
        Check.due("steps", desk.told(2), 5);
        Check.due("most", desk.told(3), 2);
        top(desk, "call4", 11, 0x35, 0x36, 153, 15, 0, 0, 0);
        Check.expression(desk, 2);
        top(desk, "call of nothing", 5, 0x35, 152, 2, 0);
        Check.expression(desk, 3, 80, 147, 1);
        Check.expression(desk, 4, 152, 3, 0, 0x35, 147, 2);
        Check.due("pieces of a call", desk.run(4, 9), 0);
        Check.due("parts", desk.parts(), 2);
        Check.due("of the call", desk.part(0, 0), 2);
        Check.due("behind it", desk.part(1, 1), 5);
        Check.expression(desk, 3, 83);
        Check.expression(desk, 4, 152, 3, 0);
        Check.due("a hold of a call", desk.run(4, 9), 0);
        Check.due("register", desk.part(0, 0), 2);
        Check.due("3", desk.part(0, 1), 3);
        Check.expression(desk, 3, 147, 1);
        Check.expression(desk, 4, 84, 152, 3, 0);
        Check.due("a piece of a hold of before", desk.run(4, 9), 0);
        Check.due("register 4", desk.part(0, 1), 4);
        for (int k = 5; k < 13; k++) {
            Check.expression(desk, k, 152, k + 1, 0);
        }
        Check.expression(desk, 13, 0x37);
        Check.due("eight calls", desk.run(5, 9), 0);
        Check.due("steps of eight calls", desk.told(2), 9);
        Check.due("7", desk.part(0, 1), 7);
        Check.expression(desk, 4, 152, 5, 0);
        Check.due("nine calls", desk.run(4, 20), 8);
        Check.due("place of the outermost", desk.told(1), 0);
        Check.due("steps of nine calls", desk.told(2), 9);
        Check.expression(desk, 0, 0x33);
        top(desk, "a call of 0", 3, 0x35, 152, 0, 0);
        Check.expression(desk, 3, 47, 0, 0, 0x31);
        top(desk, "jumps inside of a call", 1, 0x35, 152, 3, 0);
    }

    private static void only(LocationDesk desk, String what, int kind, long number, int... bytes) {
        Check.expression(desk, 9, bytes);
        Check.due(what + " runs", desk.run(9, 1000), 0);
        Check.due(what + " is one", desk.parts(), 1);
        Check.due(what + ": kind", desk.part(0, 0), kind);
        Check.due(what + ": number", desk.part(0, 1), number);
        Check.due(what + ": bits", desk.part(0, 2), 0);
        Check.due(what + ": first", desk.part(0, 3), 0);
    }

    private static void holds() {
        LocationDesk desk = new LocationDesk();
        for (int r = 0; r < 32; r++) {
            only(desk, "reg" + r, 2, r, 80 + r);
        }
        LocationDesk other = new LocationDesk();
        only(other, "regx", 2, 31, 144, 31);
        only(other, "regx, long", 2, 0, 144, 128, 0);
        only(other, "a number", 3, 5, 0x35, 159);
        only(other, "a number, more on the stack", 3, 6, 0x35, 0x36, 159);
        only(other, "a register, more on the stack", 2, 3, 0x35, 83);
        only(other, "a block", 4, 3, 158, 3, 9, 8, 7);
        Check.due("byte 0", other.part(0, 100), 9);
        Check.due("byte 2", other.part(0, 102), 7);
        Check.due("byte 3", other.part(0, 103), -1);
        only(other, "an empty block", 4, 0, 158, 0);
        Check.due("its byte 0", other.part(0, 100), -1);
        only(other, "nothing", 0, 0);
        only(other, "nothing by 150", 0, 0, 150);
        only(other, "nothing is left", 0, 0, 0x35, 19);
        only(other, "an address, more below", 1, 6, 0x35, 0x36);
        only(other, "150, 47 behind a hold", 2, 3, 83, 150, 47, 0, 0);
    }

    private static void pieces() {
        LocationDesk desk = new LocationDesk();
        Check.expression(desk, 0, 83, 147, 4, 0x35, 0x36, 147, 2, 147, 1, 158, 1, 77, 157, 5, 3, 0x39, 159, 157, 0, 128, 32);
        Check.due("pieces", desk.run(0, 50), 0);
        long[][] want = {{2, 3, 32, 0, -1}, {1, 6, 16, 0, -1}, {0, 0, 8, 0, -1}, {4, 1, 5, 3, 77}, {3, 9, 0, 4096, -1}};
        int[] whats = {0, 1, 2, 3, 100};
        Check.due("parts", desk.parts(), 5);
        for (int i = 0; i < want.length; i++) {
            for (int j = 0; j < whats.length; j++) {
                Check.due("part(" + i + ", " + whats[j] + ")", desk.part(i, whats[j]), want[i][j]);
            }
        }
        Check.expression(desk, 0, Check.times(16, 147, 32));
        Check.due("16 pieces, 4096 bits", desk.run(0, 50), 0);
        Check.due("parts", desk.parts(), 16);
        Check.expression(desk, 0, 147, 128, 4);
        Check.due("a piece of 512 bytes", desk.run(0, 50), 0);
        Check.due("bits", desk.part(0, 2), 4096);
        Check.expression(desk, 0, 157, 128, 32, 128, 32);
        Check.due("4096 bits from bit 4096 on", desk.run(0, 50), 0);
        Check.due("first", desk.part(0, 3), 4096);
        Check.expression(desk, 0, 147, 0);
        Check.due("a piece of 0 bits", desk.run(0, 50), 0);
        Check.due("it is a piece", desk.parts(), 1);
    }

    private static void frames() {
        LocationDesk desk = new LocationDesk();
        desk.frame(1);
        desk.load(6, 500);
        Check.expression(desk, 1, 0x35, 0x36, 0x37);
        top(desk, "of an address", 7 - 8, 145, 120);
        Check.due("steps", desk.told(2), 4);
        Check.due("most of both", desk.told(3), 3);
        Check.expression(desk, 1, 86);
        top(desk, "of a register", 508, 145, 8);
        Check.expression(desk, 1, 0x35, 159);
        top(desk, "of a number", 5, 145, 0);
        top(desk, "on a stack of its own", 9, 0x34, 145, 0, 34);
        Check.due("most", desk.told(3), 2);
        Check.expression(desk, 2, 145, 1);
        top(desk, "by a call", 6, 152, 2, 0);
        Check.expression(desk, 1, 152, 3, 0);
        Check.expression(desk, 3, 0x3A);
        top(desk, "a call in a FRAME", 11, 145, 1);
        Check.expression(desk, 1, 0x35);
        Check.expression(desk, 0, 145, 0, 147, 1, 145, 1, 147, 2);
        Check.due("pieces around FRAMES", desk.run(0, 50), 0);
        Check.due("parts", desk.parts(), 2);
        Check.due("part 1", desk.part(1, 1), 6);
        Check.expression(desk, 0, 145, 0);
        Check.due("enough fuel", desk.run(0, 2), 0);
        Check.due("not enough", desk.run(0, 1), 12);
        Check.due("place", desk.told(1), 0);
        Check.due("steps", desk.told(2), 1);
    }
}
