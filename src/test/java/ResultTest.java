/** Promises 15 to 20: told, parts, part, fetch, store, out. */
public final class ResultTest {
    public static void main(String[] args) {
        told();
        parts();
        fetchOfOneThing();
        fetchOfPieces();
        fetchArguments();
        storeInOneThing();
        storeInPieces();
        storeArguments();
        Check.finish("ResultTest");
    }

    private static void told() {
        LocationDesk desk = new LocationDesk();
        for (int what = 0; what < 4; what++) {
            Check.due("ahead of any", desk.told(what), -1);
        }
        desk.run(-1, 5);
        desk.find(0, 0, 0, 0);
        desk.where(0, 0, 5);
        desk.means(0, 0);
        Check.due("NONE tells nothing", desk.told(0), -1);
        Check.expression(desk, 0, 0x35, 0x36, 19, 0);
        desk.run(0, 100);
        toldAll(desk, "run()", 2, 3, 4, 2);
        int[] none = {-1, 4, 100, Integer.MIN_VALUE, Integer.MAX_VALUE};
        for (int what : none) {
            Check.due("told(" + what + ")", desk.told(what), -1);
        }
        desk.run(16, 5);
        desk.means(3, 0);
        toldAll(desk, "NONE changes nothing", 2, 3, 4, 2);
        desk.run(1, 100);
        toldAll(desk, "an empty run", 0, -1, 0, 0);
        Check.due("compile", Check.compile(desk, "x = @8 5000;"), -1);
        toldAll(desk, "compile() with a fault", 1, 4, 0, 0);
        Check.due("compile", Check.compile(desk, "x = value @8 5000; y = reg 3;"), 2);
        toldAll(desk, "compile()", 0, -1, 0, 0);
        Check.due("where", desk.where(0, 0, 100), 5);
        toldAll(desk, "where() with a fault", 5, 3, 2, 1);
        Check.due("where", desk.where(1, 0, 100), 0);
        toldAll(desk, "where()", 0, -1, 1, 0);
        Check.due("means", desk.means(0, 0), 5);
        toldAll(desk, "means() with a fault", 5, 0, 0, 0);
        Check.due("means", desk.means(1, 0), 0);
        toldAll(desk, "means()", 0, -1, 0, 0);
        Check.due("find", desk.find(0, 0, 0, 5), 1);
        toldAll(desk, "find() with a fault", 1, 0, 0, 0);
    }

    private static void toldAll(LocationDesk desk, String what, int... want) {
        for (int i = 0; i < 4; i++) {
            Check.due(what + ": told(" + i + ")", desk.told(i), want[i]);
        }
    }

    private static void partAll(LocationDesk desk, int i, long... want) {
        for (int what = 0; what < 4; what++) {
            Check.due("part(" + i + ", " + what + ")", desk.part(i, what), want[what]);
        }
    }

    private static void parts() {
        LocationDesk desk = new LocationDesk();
        partAll(desk, 0, 0, 0, 0, 0);
        partAll(desk, 1, -1, -1, -1, -1);
        partAll(desk, -1, -1, -1, -1, -1);
        Check.expression(desk, 0, 158, 3, 1, 2, 255);
        desk.run(0, 9);
        Check.due("one", desk.parts(), 1);
        partAll(desk, 0, 4, 3, 0, 0);
        int[][] bytes = {{100, 1}, {101, 2}, {102, 255}, {103, -1}, {99, -1}, {4, -1}, {-1, -1}, {Integer.MIN_VALUE, -1},
            {Integer.MAX_VALUE, -1}};
        for (int[] b : bytes) {
            Check.due("part(0, " + b[0] + ")", desk.part(0, b[0]), b[1]);
        }
        Check.expression(desk, 0, 0x35);
        Check.due("a block outlives its expression", desk.part(0, 102), 255);
        desk.run(0, 9);
        partAll(desk, 0, 1, 5, 0, 0);
        Check.due("no block", desk.part(0, 100), -1);
        Check.expression(desk, 0, 95);
        desk.run(0, 9);
        partAll(desk, 0, 2, 15, 0, 0);
        Check.expression(desk, 0, 0x35, 31, 159);
        desk.run(0, 9);
        partAll(desk, 0, 3, -5, 0, 0);
        Check.expression(desk, 0, 80, 147, 1, 147, 2);
        desk.run(0, 9);
        Check.due("two", desk.parts(), 2);
        partAll(desk, 0, 2, 0, 8, 0);
        partAll(desk, 1, 0, 0, 16, 0);
        partAll(desk, 2, -1, -1, -1, -1);
        Check.expression(desk, 0, 80, 147, 1, 0);
        Check.due("a fault", desk.run(0, 9), 2);
        Check.due("still two", desk.parts(), 2);
        Check.expression(desk, 0, 80, 157, 7, 9);
        desk.run(0, 9);
        partAll(desk, 0, 2, 0, 7, 9);
        Check.tape(desk, new int[16]);
        desk.list(0);
        desk.find(0, 0, 0, 9);
        partAll(desk, 0, 0, 0, 0, 0);
        desk.run(5, 9);
        Check.due("one again", desk.parts(), 1);
        partAll(desk, 0, 0, 0, 0, 0);
        partAll(desk, 1, -1, -1, -1, -1);
        Check.due("no such part", desk.part(Integer.MAX_VALUE, 0), -1);
        Check.due("no such part", desk.part(Integer.MIN_VALUE, 0), -1);
    }

    private static void outs(LocationDesk desk, String what, int... want) {
        for (int i = 0; i < want.length; i++) {
            Check.due(what + ": out(" + i + ")", desk.out(i), want[i]);
        }
        Check.due(what + ": out ends", desk.out(want.length), -1);
        Check.due(what + ": out(-1)", desk.out(-1), -1);
    }

    private static void fetchOfOneThing() {
        LocationDesk desk = new LocationDesk();
        outs(desk, "at first");
        Check.due("of EMPTY", desk.fetch(9), 0);
        outs(desk, "of EMPTY", 0, 0);
        desk.poke(4094, 0xA5);
        desk.poke(4095, 0xFF);
        Check.expression(desk, 0, 10, 0xFE, 0x0F);
        desk.run(0, 9);
        Check.due("12 bits of an address", desk.fetch(12), 12);
        outs(desk, "12 bits", 0xA5, 0x0F);
        Check.due("1 bit", desk.fetch(1), 1);
        outs(desk, "1 bit", 1);
        Check.due("up to the memory's end", desk.fetch(20), 16);
        outs(desk, "20 bits", 0xA5, 0xFF, 0);
        Check.due("512 bits", desk.fetch(512), 16);
        Check.due("out(63)", desk.out(63), 0);
        Check.due("out(64)", desk.out(64), -1);
        desk.poke(0, 0x77);
        Check.expression(desk, 0, 9, 255);
        desk.run(0, 9);
        Check.due("from -1 on", desk.fetch(16), 8);
        outs(desk, "from -1 on", 0, 0x77);
        Check.expression(desk, 0, 14, 255, 255, 255, 255, 255, 255, 255, 127);
        desk.run(0, 9);
        Check.due("from the greatest on", desk.fetch(512), 0);
        desk.load(3, 0x8877665544332211L);
        Check.expression(desk, 0, 83);
        desk.run(0, 9);
        Check.due("of a register", desk.fetch(72), 64);
        outs(desk, "of a register", 0x11, 0x22, 0x33, 0x44, 0x55, 0x66, 0x77, 0x88, 0);
        desk.load(3, 3);
        Check.due("as it is now", desk.fetch(7), 7);
        outs(desk, "as it is now", 3);
        Check.expression(desk, 0, 0x35, 31, 159);
        desk.run(0, 9);
        Check.due("of a number", desk.fetch(65), 64);
        outs(desk, "of a number", 0xFB, 255, 255, 255, 255, 255, 255, 255, 0);
        Check.expression(desk, 0, 158, 2, 0x12, 0x34);
        desk.run(0, 9);
        Check.due("of a block", desk.fetch(17), 16);
        outs(desk, "of a block", 0x12, 0x34, 0);
    }

    private static void fetchOfPieces() {
        LocationDesk desk = new LocationDesk();
        desk.load(1, 0xABCDL);
        desk.poke(9, 0xF0);
        Check.expression(desk, 0, 81, 157, 4, 4, 0x39, 157, 6, 3, 157, 3, 0, 158, 1, 0xFF, 157, 5, 6, 0x3F, 159, 157, 4, 62);
        Check.due("run", desk.run(0, 50), 0);
        // 4 bits of register 1 from bit 4: 12; 6 bits of byte 9 from bit 3 into byte 10: 30; 3 of nothing; 2 of a block of 8
        // from bit 6 and 3 NOWHERE; 2 of a number from bit 62 and 2 NOWHERE
        long want = 12L | 30L << 4 | 0L << 10 | 3L << 13;
        Check.due("all", desk.fetch(22), 4 + 6 + 2 + 2);
        outs(desk, "all", (int) want & 255, (int) (want >> 8) & 255, (int) (want >> 16) & 255);
        Check.due("more than all", desk.fetch(40), 14);
        outs(desk, "more", (int) want & 255, (int) (want >> 8) & 255, (int) (want >> 16) & 255, 0, 0);
        Check.due("less", desk.fetch(7), 7);
        outs(desk, "less", (int) want & 127);
        Check.expression(desk, 0, 81, 147, 0);
        desk.run(0, 9);
        Check.due("a piece of no bits", desk.fetch(8), 0);
        Check.expression(desk, 0, 81, 157, 8, 128, 32, 81, 157, 8, 60);
        desk.run(0, 9);
        Check.due("from bit 4096 on, and from 60 on", desk.fetch(16), 4);
    }

    private static void fetchArguments() {
        LocationDesk desk = new LocationDesk();
        desk.load(0, 0x55);
        Check.expression(desk, 0, 80);
        desk.run(0, 9);
        desk.fetch(8);
        int[] none = {0, -1, 513, Integer.MIN_VALUE, Integer.MAX_VALUE};
        for (int n : none) {
            Check.due("fetch(" + n + ")", desk.fetch(n), -1);
            outs(desk, "it stays", 0x55);
        }
        Check.due("out(MAX)", desk.out(Integer.MAX_VALUE), -1);
        Check.due("out(MIN)", desk.out(Integer.MIN_VALUE), -1);
        desk.load(0, 0x66);
        outs(desk, "what was fetched stays", 0x55);
        desk.run(1, 9);
        outs(desk, "through a run too", 0x55);
    }

    private static void storeInOneThing() {
        LocationDesk desk = new LocationDesk();
        Check.tape(desk, 0xFF);
        Check.due("in EMPTY", desk.store(8), 0);
        Check.due("the tape is empty", desk.end(1), -1);
        desk.poke(4094, 0xA5);
        Check.expression(desk, 0, 10, 0xFE, 0x0F);
        desk.run(0, 9);
        Check.tape(desk, 0x5A, 0xFF, 0xFF);
        Check.due("12 bits", desk.store(12), 12);
        Check.due("4094", desk.peek(4094), 0x5A);
        Check.due("4095", desk.peek(4095), 0x0F);
        Check.tape(desk, 1, 2, 3);
        Check.due("up to the memory's end", desk.store(24), 16);
        Check.due("4095", desk.peek(4095), 2);
        Check.expression(desk, 0, 83);
        desk.run(0, 9);
        desk.load(3, -1);
        Check.tape(desk, 0, 0);
        Check.due("4 bits of a register", desk.store(4), 4);
        Check.due("register", desk.register(3), -16);
        Check.tape(desk, 1, 2, 3, 4, 5, 6, 7, 0x88, 9);
        Check.due("all of a register", desk.store(72), 64);
        Check.due("register", desk.register(3), 0x8807060504030201L);
        Check.expression(desk, 0, 0x35, 159);
        desk.run(0, 9);
        Check.tape(desk, 255);
        Check.due("in a number", desk.store(8), 0);
        Check.due("it stays", desk.part(0, 1), 5);
        Check.expression(desk, 0, 158, 1, 7);
        desk.run(0, 9);
        Check.tape(desk, 255);
        Check.due("in a block", desk.store(8), 0);
        Check.due("it stays", desk.part(0, 100), 7);
        Check.expression(desk, 0, 9, 255);
        desk.run(0, 9);
        Check.tape(desk, 0x11, 0x22);
        Check.due("from -1 on", desk.store(16), 8);
        Check.due("byte 0", desk.peek(0), 0x22);
    }

    private static void storeInPieces() {
        LocationDesk desk = new LocationDesk();
        desk.poke(9, 0);
        // register 1 from bit 60: 4 bits and 2 NOWHERE; 6 bits from byte 9's bit 5; 3 of nothing; 4 of a number; 8 of register 1
        Check.expression(desk, 0, 81, 157, 6, 60, 0x39, 157, 6, 5, 157, 3, 0, 0x35, 159, 157, 4, 0, 81, 157, 8, 4);
        Check.due("run", desk.run(0, 50), 0);
        Check.tape(desk, 255, 255, 255, 255, 255);
        Check.due("all ones", desk.store(27), 4 + 6 + 8);
        Check.due("register 1", desk.register(1), 0xF000000000000FF0L);
        Check.due("byte 9", desk.peek(9), 0xE0);
        Check.due("byte 10", desk.peek(10), 0x07);
        Check.due("the tape is empty", desk.end(1), -1);
        Check.tape(desk, 0, 0, 0);
        Check.due("zeros, fewer", desk.store(8), 6);
        Check.due("register 1", desk.register(1), 0xFF0L);
        Check.due("byte 9", desk.peek(9), 0x80);
        Check.tape(desk, 0, 0, 0, 0, 0);
        Check.due("behind the last nothing", desk.store(40), 18);
        Check.expression(desk, 0, 81, 147, 1, 81, 147, 1);
        desk.run(0, 9);
        Check.tape(desk, 0x0F, 0xF1);
        Check.due("the same twice", desk.store(16), 16);
        Check.due("the last holds", desk.register(1), 0xF1);
        Check.expression(desk, 0, 81, 147, 1, 82, 147, 1, 83, 147, 1);
        desk.run(0, 9);
        Check.expression(desk, 0, 84, 147, 1, 85, 147, 1);
        desk.run(0, 9);
        Check.tape(desk, 255, 255, 255);
        Check.due("pieces of before are gone", desk.store(24), 16);
        Check.due("register 3", desk.register(3), 0);
        Check.due("fetched likewise", desk.fetch(24), 16);
        Check.expression(desk, 0, Check.times(16, 86, 147, 2));
        desk.run(0, 99);
        Check.tape(desk, Check.times(64, 0x5A));
        Check.due("16 pieces", desk.store(512), 256);
        Check.due("register 6", desk.register(6), 0x5A5A);
        Check.due("16 pieces", desk.fetch(512), 256);
    }

    private static void storeArguments() {
        LocationDesk desk = new LocationDesk();
        Check.expression(desk, 0, 80);
        desk.run(0, 9);
        Check.tape(desk, Check.times(65, 255));
        int[] none = {0, -1, 513, Integer.MIN_VALUE, Integer.MAX_VALUE};
        for (int n : none) {
            Check.due("store(" + n + ")", desk.store(n), -1);
        }
        Check.due("the tape stays", desk.end(65), 65);
        Check.due("nothing was stored", desk.register(0), 0);
        Check.due("store(512)", desk.store(512), 64);
        Check.due("all bits", desk.register(0), -1);
        Check.tape(desk, 0, 0);
        Check.due("17 of 16", desk.store(17), -1);
        Check.due("nothing was stored", desk.register(0), -1);
        Check.due("the tape stays", desk.end(2), 2);
        Check.due("16 of 16", desk.store(16), 16);
        Check.due("stored", desk.register(0), -65536);
        Check.due("1 of none", desk.store(1), -1);
        Check.tape(desk, 0xFF);
        Check.due("1 of 8", desk.store(1), 1);
        Check.due("stored", desk.register(0), -65535);
    }
}
