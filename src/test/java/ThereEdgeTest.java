/**
 * The document's part III with promises 14 to 20, sentence by sentence: of each bound the last case that is still taken and the
 * first that is not. That refused calls change nothing is RefusedTest's.
 */
public final class ThereEdgeTest {
    private static final int[] NO_BYTES = {};

    public static void main(String[] args) {
        bitsOfOneThing();
        bitsOfPieces();
        storedBits();
        fetchedBits();
        storeArguments();
        entries();
        rangesThatWrap();
        cutLists();
        toldOfEach();
        partsAndWhats();
        Check.finish("ThereEdgeTest");
    }

    // ---- III. WHAT IS THERE

    private static void there(LocationDesk desk, String what, int n, int want) {
        Check.due(what + ": fetch(" + n + ")", desk.fetch(n), want);
    }

    /** "of an ADDRESS .. of a REGISTER, a NUMBER bit i (0 .. 63); of a BLOCK ..; others are NOWHERE". */
    private static void bitsOfOneThing() {
        LocationDesk desk = new LocationDesk();
        desk.load(5, -1);
        Edge.run(desk, 85);
        there(desk, "a register", 63, 63);
        there(desk, "a register", 64, 64);
        there(desk, "a register", 65, 64);
        there(desk, "a register", 512, 64);
        Check.due("bit 63", desk.out(7), 255);
        Check.due("bit 64 is 0", desk.out(8), 0);
        Edge.run(desk, 9, 255, 159);
        there(desk, "a number", 64, 64);
        there(desk, "a number", 65, 64);
        Check.due("bit 64 is 0", desk.out(8), 0);
        Edge.run(desk, 158, 2, 255, 255);
        there(desk, "a block", 15, 15);
        there(desk, "a block", 16, 16);
        there(desk, "a block", 17, 16);
        Check.due("bit 16 is 0", desk.out(2), 0);
        Edge.run(desk, 158, 0);
        there(desk, "an empty block", 1, 0);
        Edge.run(desk, NO_BYTES);
        there(desk, "EMPTY", 512, 0);
        desk.poke(4095, 255);
        desk.poke(0, 255);
        Edge.run(desk, Edge.wide(4095));
        there(desk, "the last address", 8, 8);
        there(desk, "the last address", 9, 8);
        Check.due("bit 8 is 0", desk.out(1), 0);
        Edge.run(desk, Edge.wide(4096));
        there(desk, "behind the memory", 512, 0);
        Edge.run(desk, Edge.wide(4096 - 64));
        there(desk, "512 up to the end", 512, 512);
        Check.due("its last byte", desk.out(63), 255);
        Edge.run(desk, Edge.wide(4097 - 64));
        there(desk, "one byte too far", 512, 504);
        Edge.run(desk, Edge.wide(-1));
        there(desk, "from -1 on", 8, 0);
        there(desk, "from -1 on, into the memory", 9, 1);
        Check.due("bit 8", desk.out(1), 1);
        Edge.run(desk, Edge.wide(-64));
        there(desk, "64 below 0", 512, 0);
        Edge.run(desk, Edge.wide(-63));
        there(desk, "63 below 0", 512, 8);
        Edge.run(desk, Edge.wide(Edge.MAX));
        there(desk, "MAX", 512, 0);
        Edge.run(desk, Edge.wide(Edge.MIN));
        there(desk, "MIN", 512, 0);
        Edge.run(desk, Edge.wide(1L << 32));
        there(desk, "2^32", 512, 0);
    }

    /** "The bits of PIECES follow one another, each PIECE's from its first bit on; those behind the last PIECE are NOWHERE." */
    private static void bitsOfPieces() {
        LocationDesk desk = new LocationDesk();
        desk.load(5, -1);
        desk.poke(4095, 255);
        desk.poke(0, 255);
        // of what, its first bit, how many of 2 bits are there
        int[][] things = {{85}, {85}, {85}, {9, 255, 159}, {9, 255, 159}, {9, 255, 159}, {158, 1, 255}, {158, 1, 255}, {158, 1, 255},
            Edge.wide(4095), Edge.wide(4095), Edge.wide(4095), Edge.wide(-1), Edge.wide(-1), Edge.wide(-1), Edge.wide(-512), {}};
        int[] firsts = {62, 63, 64, 62, 63, 64, 6, 7, 8, 6, 7, 8, 6, 7, 8, 4096, 0};
        int[] wants = {2, 1, 0, 2, 1, 0, 2, 1, 0, 2, 1, 0, 0, 1, 2, 2, 0};
        int[] values = {3, 1, 0, 3, 1, 0, 3, 1, 0, 3, 1, 0, 0, 2, 3, 3, 0};
        for (int i = 0; i < things.length; i++) {
            String what = "piece " + i;
            Check.due(what, Edge.run(desk, Check.join(things[i], Edge.with(157, Edge.leb(2), Edge.leb(firsts[i])))), 0);
            there(desk, what, 2, wants[i]);
            Check.due(what + ": its bits", desk.out(0), values[i]);
            there(desk, what + ", behind the last", 512, wants[i]);
        }
        LocationDesk other = new LocationDesk();
        other.load(5, -1);
        Edge.run(other, 85, 157, 3, 0, 157, 2, 0, 85, 157, 0, 0, 85, 157, 4, 1);
        there(other, "three pieces", 3, 3);
        there(other, "the second is of nothing", 5, 3);
        there(other, "the third", 9, 7);
        there(other, "behind the last", 10, 7);
        Check.due("low byte", other.out(0), 0xE7);
        Check.due("high byte", other.out(1), 1);
        Edge.run(other, 147, 0);
        there(other, "a piece of no bits", 1, 0);
        Edge.run(other, 85, 147, 8);
        there(other, "64 bits and more", 65, 64);
        Edge.run(other, Check.join(new int[] {85}, Edge.with(157, Edge.leb(4096), Edge.leb(0))));
        there(other, "a piece beyond its register", 512, 64);
    }

    /** "STORE: likewise, of ADDRESSES and REGISTERS alone, from the first bit to the last". */
    private static void storedBits() {
        int[][] things = {{85}, {85}, {85}, {48, 159}, {158, 1, 0}, {}, Edge.wide(4095), Edge.wide(4095), Edge.wide(4095), Edge.wide(-1), Edge.wide(-1), Edge.wide(-1)};
        int[] firsts = {62, 63, 64, 0, 0, 0, 6, 7, 8, 6, 7, 8};
        int[] wants = {2, 1, 0, 0, 0, 0, 2, 1, 0, 0, 1, 2};
        long[] registers = {3L << 62, 1L << 63, 0, 0, 0, 0, 0, 0, 0, 0, 0, 0};
        int[] lasts = {0, 0, 0, 0, 0, 0, 0xC0, 0x80, 0, 0, 0, 0};
        int[] zeros = {0, 0, 0, 0, 0, 0, 0, 0, 0, 0, 1, 3};
        for (int i = 0; i < things.length; i++) {
            LocationDesk desk = new LocationDesk();
            Check.due("run", Edge.run(desk, Check.join(things[i], Edge.with(157, Edge.leb(2), Edge.leb(firsts[i])))), 0);
            Check.tape(desk, 255);
            Check.due("stored in " + i, desk.store(8), wants[i]);
            Check.due("register 5 of " + i, desk.register(5), registers[i]);
            Check.due("4095 of " + i, desk.peek(4095), lasts[i]);
            Check.due("0 of " + i, desk.peek(0), zeros[i]);
            Check.due("the tape is empty", desk.end(1), -1);
        }
        LocationDesk desk = new LocationDesk();
        Edge.run(desk, 85, 147, 1, 85, 157, 4, 0);
        Check.tape(desk, 0xFF, 0x0A);
        Check.due("the later of two holds", desk.store(12), 12);
        Check.due("register 5", desk.register(5), 0xFA);
        Edge.run(desk, 85);
        Check.tape(desk, Check.times(64, 255));
        Check.due("64 of 512", desk.store(512), 64);
        Check.due("all bits", desk.register(5), -1);
    }

    /** Promise 18: "FETCH of n bits, 1 .. 512"; promise 20: "NONE if there is none". */
    private static void fetchedBits() {
        LocationDesk desk = new LocationDesk();
        desk.load(5, -1);
        Edge.run(desk, 85);
        Check.due("out(0) ahead of any fetch", desk.out(0), -1);
        for (int n : new int[] {1, 7, 8, 9, 16, 17, 504, 505, 511, 512}) {
            Check.due("fetch(" + n + ")", desk.fetch(n), Math.min(n, 64));
            int bytes = (n + 7) / 8;
            Check.due("out(-1)", desk.out(-1), -1);
            Check.due("the last of " + n, desk.out(bytes - 1), n > 64 ? 0 : n % 8 == 0 ? 255 : (1 << n % 8) - 1);
            Check.due("none behind it", desk.out(bytes), -1);
        }
        desk.fetch(9);
        for (int n : new int[] {0, -1, 513, Integer.MIN_VALUE, Integer.MAX_VALUE}) {
            Check.due("fetch(" + n + ")", desk.fetch(n), -1);
            Check.due("OUT stays", desk.out(0), 255);
            Check.due("OUT stays", desk.out(1), 1);
            Check.due("OUT stays", desk.out(2), -1);
        }
    }

    /** Promise 19: "STORE of n bits, 1 .. 512 .. NONE, and nothing is done, for another n, or if the TAPE has fewer". */
    private static void storeArguments() {
        for (int size : new int[] {0, 1, 2, 63, 64, 65, 1000}) {
            LocationDesk desk = new LocationDesk();
            Edge.run(desk, 85);
            Check.tape(desk, Check.times(size, 255));
            int most = Math.min(512, 8 * size);
            Check.due("store(0) of " + size, desk.store(0), -1);
            Check.due("store(-1) of " + size, desk.store(-1), -1);
            Check.due("store(513) of " + size, desk.store(513), -1);
            Check.due("one more than " + most, desk.store(most + 1), -1);
            Check.due("nothing is stored", desk.register(5), 0);
            Check.due("the tape stays", desk.end(size), size);
            if (most > 0) {
                Check.due("all of " + size, desk.store(most), Math.min(64, most));
                Check.due("the tape is empty", desk.end(1), -1);
                Check.due("again", desk.store(1), -1);
            }
        }
        LocationDesk desk = new LocationDesk();
        Edge.run(desk, 85);
        Check.tape(desk, 254);
        Check.due("one bit of eight", desk.store(1), 1);
        Check.due("bit 0 was 0", desk.register(5), 0);
        Check.tape(desk, 255);
        Check.due("one bit of eight", desk.store(1), 1);
        Check.due("bit 0 alone", desk.register(5), 1);
    }

    // ---- LISTS

    private static LocationDesk listed(int[]... entries) {
        LocationDesk desk = new LocationDesk();
        int[] bytes = Check.join(entries);
        Check.tape(desk, bytes);
        Check.due("list", desk.list(2), bytes.length);
        return desk;
    }

    /** The register that is found, or none. */
    private static void finds(LocationDesk desk, long base, long pc, int want) {
        Edge.run(desk, 111);
        String what = "base " + base + ", pc " + pc;
        Check.due(what, desk.find(2, base, pc, 1), 0);
        Edge.is(desk, what, want < 0 ? 0 : 2, Math.max(want, 0));
        Check.due(what + ": steps", desk.told(2), want < 0 ? 0 : 1);
    }

    /** "which hold for pc if BASE + begin is not above pc, and pc below BASE + end"; "if both are 0, it ends there"; "if begin is -1". */
    private static void entries() {
        LocationDesk desk = listed(Edge.entry(10, 20, 81), Edge.entry(20, 21, 82), Edge.entry(15, 30, 83), Edge.LAST, Edge.entry(0, 99, 84), Edge.LAST);
        long[][] want = {{9, -1}, {10, 1}, {19, 1}, {20, 2}, {21, 3}, {29, 3}, {30, -1}, {0, -1}, {98, -1}};
        for (long[] w : want) {
            finds(desk, 0, w[0], (int) w[1]);
            finds(desk, 7, w[0] + 7, (int) w[1]);
        }
        finds(listed(Edge.entry(0, 1, 81), Edge.LAST), 0, 0, 1);
        finds(listed(Edge.entry(1, 0, 81), Edge.entry(0, 9, 82), Edge.LAST), 0, 1, 2);
        finds(listed(Edge.entry(-2, -1, 81), Edge.LAST), 0, -2, 1);
        finds(listed(Edge.entry(0, -1, 81), Edge.LAST), 0, -2, 1);
        finds(listed(Edge.entry(0, -1, 81), Edge.LAST), 0, -1, -1);
        finds(listed(Edge.base(0), Edge.entry(3, 4, 81), Edge.LAST), 50, 3, 1);
        finds(listed(Edge.base(0), Edge.entry(3, 4, 81), Edge.LAST), 50, 53, -1);
        finds(listed(Edge.base(-1), Edge.entry(4, 5, 81), Edge.LAST), 50, 3, 1);
        finds(listed(Edge.base(7), Edge.base(8), Edge.entry(4, 5, 81), Edge.LAST), 50, 12, 1);
        finds(listed(Edge.entry(4, 5, 82), Edge.base(8), Edge.entry(4, 5, 81), Edge.LAST), 50, 54, 2);
        finds(listed(Edge.entry(4, 5, 82), Edge.base(8), Edge.entry(4, 5, 81), Edge.LAST), 50, 12, 1);
        finds(listed(Edge.entry(5, 5, 81), Edge.entry(6, 5, 82), Edge.LAST), 0, 5, -1);
        finds(listed(Edge.LAST), 0, 0, -1);
        finds(listed(Edge.base(0), Edge.LAST), 0, 0, -1);
    }

    /** "(sums that wrap, compared without sign)". */
    private static void rangesThatWrap() {
        LocationDesk desk = listed(Edge.entry(5, 15, 81), Edge.LAST);
        finds(desk, -5, 0, 1);
        finds(desk, -5, 9, 1);
        finds(desk, -5, 10, -1);
        finds(desk, -5, -1, -1);
        finds(desk, -10, 0, -1);
        finds(desk, -10, -5, -1);
        finds(desk, -16, -11, 1);
        finds(desk, -16, -2, 1);
        finds(desk, -16, -1, -1);
        finds(desk, Edge.MAX - 9, Edge.MAX - 5, -1);
        finds(desk, Edge.MAX - 9, Edge.MAX - 4, 1);
        finds(desk, Edge.MAX - 9, Edge.MAX, 1);
        finds(desk, Edge.MAX - 9, Edge.MIN, 1);
        finds(desk, Edge.MAX - 9, Edge.MIN + 4, 1);
        finds(desk, Edge.MAX - 9, Edge.MIN + 5, -1);
        finds(desk, Edge.MIN, Edge.MIN + 5, 1);
        finds(desk, Edge.MIN, Edge.MIN + 4, -1);
        LocationDesk wide = listed(Edge.entry(1, Edge.MIN, 81), Edge.entry(Edge.MIN, -1, 82), Edge.LAST);
        finds(wide, 0, 0, -1);
        finds(wide, 0, 1, 1);
        finds(wide, 0, Edge.MAX, 1);
        finds(wide, 0, Edge.MIN, 2);
        finds(wide, 0, -2, 2);
        finds(wide, 0, -1, -1);
    }

    private static void isCut(int place, int[]... entries) {
        LocationDesk desk = listed(entries);
        Edge.run(desk, 111);
        Check.due("a cut list", desk.find(2, 0, 50, 9), 1);
        int[] want = {1, place, 0, 0};
        for (int what = 0; what < 4; what++) {
            Check.due("a cut list: told(" + what + ")", desk.told(what), want[what]);
        }
        Edge.is(desk, "the RESULT stays", 2, 31);
    }

    /** "FAULT 1, at an ENTRY's first BYTE (or the LIST's end, where one should be): it does not end within the LIST." */
    private static void cutLists() {
        int[] first = Edge.entry(1, 2, 81, 82, 83);
        int[][] aheads = {{}, first, Edge.base(9), Check.join(Edge.base(9), first), Check.times(560, 255)};
        int[][] cuts = {Edge.entry(1, 2, 81), Edge.entry(50, 60, 81), Edge.base(5), Edge.LAST};
        for (int[] ahead : aheads) {
            for (int[] cut : cuts) {
                for (int size = 0; size < cut.length; size++) {
                    isCut(ahead.length, ahead, java.util.Arrays.copyOf(cut, size));
                }
            }
            Check.due("not cut", listed(ahead, Edge.LAST).find(2, 0, 50, 9), 0);
        }
        isCut(0, Check.lowFirst(50, 8), Check.lowFirst(60, 8), new int[] {255, 255}, Check.times(582, 1));
        isCut(0, Check.lowFirst(50, 8), Check.lowFirst(60, 8), Check.lowFirst(583, 2), Check.times(582, 150));
        LocationDesk full = listed(Check.lowFirst(50, 8), Check.lowFirst(60, 8), Check.lowFirst(582, 2), Check.times(582, 150));
        Check.due("600 bytes, one entry", full.find(2, 0, 50, 1000), 0);
        Check.due("its steps", full.told(2), 582);
        Check.due("it does not hold, and none is behind it", full.find(2, 0, 60, 1000), 1);
        Check.due("place", full.told(1), 600);
        LocationDesk behind = listed(Edge.entry(50, 60, 81), new int[] {1, 2, 3});
        Check.due("what is cut behind the entry that holds", behind.find(2, 0, 50, 9), 0);
        LocationDesk places = listed(Edge.entry(1, 2, 81), Edge.entry(50, 60, 150, 150, 0), Edge.LAST);
        Check.due("a fault in an entry", places.find(2, 0, 50, 9), 2);
        Check.due("from its bytes' first one on", places.told(1), 2);
        LocationDesk inEntry = listed(Edge.entry(50, 60, 150, 47, 0, 0), Edge.entry(60, 70, 150, 47, 1, 0), Edge.entry(70, 80, 150, 47, 0xFB, 0xFF),
            Edge.entry(80, 90, 150, 8), Edge.entry(90, 99, 147, 1, 53), Edge.LAST);
        int[][] want = {{50, 0, -1}, {60, 7, 1}, {70, 7, 1}, {80, 1, 1}, {90, 13, 3}};
        for (int[] w : want) {
            Check.due("in an entry, pc " + w[0], inEntry.find(2, 0, w[0], 9), w[1]);
            Check.due("its place, pc " + w[0], inEntry.told(1), w[2]);
        }
    }

    // ---- promises 15 to 17

    private static void tells(LocationDesk desk, String what, int... want) {
        Check.due(what + ": told(-1)", desk.told(-1), -1);
        for (int i = 0; i < 4; i++) {
            Check.due(what + ": told(" + i + ")", desk.told(i), want[i]);
        }
        Check.due(what + ": told(4)", desk.told(4), -1);
    }

    /** "NONE for another what, and ahead of any"; "both 0 of means(), compile(), and without a RUN". */
    private static void toldOfEach() {
        LocationDesk desk = new LocationDesk();
        tells(desk, "ahead of any", -1, -1, -1, -1);
        desk.run(0, 0);
        desk.run(16, 1);
        desk.find(4, 0, 0, 1);
        desk.find(0, 0, 0, 1001);
        desk.where(0, 0, 1);
        desk.means(0, 0);
        desk.feed(1, 2, 3, 4, 5);
        desk.fetch(8);
        desk.store(8);
        tells(desk, "ahead of any that was not NONE", -1, -1, -1, -1);
        Edge.run(desk, 53, 54, 34);
        tells(desk, "run()", 0, -1, 3, 2);
        Edge.run(desk, 53, 54, 34, 34);
        tells(desk, "run() with a fault", 3, 3, 4, 2);
        desk.find(0, 0, 0, 1);
        tells(desk, "find() with a fault of the list", 1, 0, 0, 0);
        Edge.run(desk, 53, 54, 34);
        Check.tape(desk, Edge.LAST);
        desk.list(0);
        desk.find(0, 0, 0, 1);
        tells(desk, "find() without a run", 0, -1, 0, 0);
        Edge.run(desk, 53, 54, 34);
        Check.compile(desk, "x=5..6:value 1 div 0,6..7:[1+2*3];");
        tells(desk, "compile()", 0, -1, 0, 0);
        desk.where(0, 5, 9);
        tells(desk, "where() with a fault", 6, 2, 3, 2);
        desk.where(0, 6, 9);
        tells(desk, "where()", 0, -1, 5, 3);
        desk.where(0, 7, 9);
        tells(desk, "where() without a run", 0, -1, 0, 0);
        Edge.run(desk, 53, 54, 34);
        desk.means(0, 6);
        tells(desk, "means()", 0, -1, 0, 0);
        Edge.run(desk, 53, 54, 34);
        desk.means(0, 5);
        tells(desk, "means() with a fault", 6, 0, 0, 0);
        Edge.run(desk, 53, 54, 34);
        Check.compile(desk, "x=5..6:value 1 div 0,6..7:[1+2*3]");
        tells(desk, "compile() with a fault", 1, 33, 0, 0);
    }

    /** Promise 17: "NONE if there is none such." */
    private static void partsAndWhats() {
        LocationDesk desk = new LocationDesk();
        Edge.run(desk, 82, 157, 5, 9, 158, 2, 7, 255, 147, 3, 53, 147, 4, 9, 255, 159, 147, 1, 147, 2);
        Check.due("parts", desk.parts(), 5);
        long[][] want = {{2, 2, 5, 9}, {4, 2, 24, 0}, {1, 5, 32, 0}, {3, -1, 8, 0}, {0, 0, 16, 0}};
        for (int i = 0; i < 5; i++) {
            Check.due("part(" + i + ", -1)", desk.part(i, -1), -1);
            for (int what = 0; what < 4; what++) {
                Check.due("part(" + i + ", " + what + ")", desk.part(i, what), want[i][what]);
            }
            Check.due("part(" + i + ", 4)", desk.part(i, 4), -1);
            Check.due("part(" + i + ", 99)", desk.part(i, 99), -1);
            Check.due("part(" + i + ", 100)", desk.part(i, 100), i == 1 ? 7 : -1);
            Check.due("part(" + i + ", 101)", desk.part(i, 101), i == 1 ? 255 : -1);
            Check.due("part(" + i + ", 102)", desk.part(i, 102), -1);
            Check.due("part(" + i + ", MIN)", desk.part(i, Integer.MIN_VALUE), -1);
            Check.due("part(" + i + ", MAX)", desk.part(i, Integer.MAX_VALUE), -1);
        }
        for (int i : new int[] {-1, 5, 15, 16, Integer.MIN_VALUE, Integer.MAX_VALUE}) {
            for (int what : new int[] {0, 1, 2, 3, 100}) {
                Check.due("part(" + i + ", " + what + ")", desk.part(i, what), -1);
            }
        }
        Edge.run(desk, Check.times(16, 147, 1));
        Check.due("part(15, 2)", desk.part(15, 2), 8);
        Check.due("part(16, 2)", desk.part(16, 2), -1);
        Edge.run(desk, 158, 1, 7);
        Check.due("bits of one thing", desk.part(0, 2), 0);
        Check.due("first bit of one thing", desk.part(0, 3), 0);
        Check.due("part(1, 0) of one thing", desk.part(1, 0), -1);
        Check.due("its byte", desk.part(0, 100), 7);
        Check.due("none behind it", desk.part(0, 101), -1);
    }
}
