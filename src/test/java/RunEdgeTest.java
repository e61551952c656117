/**
 * The document's parts I and II with promises 1 to 13, sentence by sentence: of each bound the last case that is still taken and
 * the first that is not. That refused calls change nothing is RefusedTest's.
 */
public final class RunEdgeTest {
    private static final int[] NO_BYTES = {};
    private static final int[] BINARY = {26, 27, 28, 29, 30, 33, 34, 36, 37, 38, 39, 41, 42, 43, 44, 45, 46};

    public static void main(String[] args) {
        numbersWrap();
        registers();
        memory();
        bytesOfMemory();
        rows();
        tape();
        frameAndTheirLike();
        stack();
        fixedOperands();
        signs();
        lebs();
        lebSigns();
        blocks();
        wantedOnTheStack();
        shifts();
        divisions();
        comparisons();
        places();
        branches();
        calls();
        callsAroundFrames();
        holds();
        pieces();
        bases();
        fuel();
        endsOfRuns();
        Check.finish("RunEdgeTest");
    }

    // ---- I. THE MACHINE

    /** "Numbers are longs, which wrap." */
    private static void numbersWrap() {
        LocationDesk desk = new LocationDesk();
        desk.load(0, Edge.MAX);
        desk.load(31, Edge.MIN);
        Edge.leaves(desk, "112: MAX and 1", Edge.MIN, 112, 1);
        Edge.leaves(desk, "143: MIN and -1", Edge.MAX, 143, 127);
        Edge.leaves(desk, "146: MAX and 1", Edge.MIN, 146, 0, 1);
        Edge.leaves(desk, "146: MIN and -1", Edge.MAX, 146, 31, 127);
        Edge.leaves(desk, "34", Edge.MIN, 112, 0, 49, 34);
        Edge.leaves(desk, "28", Edge.MAX, 143, 0, 49, 28);
        Edge.leaves(desk, "30", -2, 112, 0, 50, 30);
        Edge.leaves(desk, "30 of MIN by -1", Edge.MIN, 143, 0, 9, 255, 30);
        Edge.leaves(desk, "31 of MIN", Edge.MIN, 143, 0, 31);
        Edge.leaves(desk, "31 of MAX", Edge.MIN + 1, 112, 0, 31);
        Edge.leaves(desk, "25 of MIN", Edge.MIN, 143, 0, 25);
        Edge.leaves(desk, "25 of MIN + 1", Edge.MAX, 143, 1, 25);
        Edge.leaves(desk, "35", Edge.MIN, 112, 0, 35, 1);
        Edge.leaves(desk, "35 of U without sign", Edge.MAX - 1, Check.join(new int[] {112, 0}, Edge.with(35, Edge.leb(-1))));
        desk.cfa(0, 1);
        Edge.leaves(desk, "156", Edge.MIN, 156);
        desk.cfa(31, -1);
        Edge.leaves(desk, "156", Edge.MAX, 156);
        desk.set(1, Edge.MAX, true);
        Edge.leaves(desk, "155", Edge.MIN, 49, 155);
        Check.tape(desk, 112, 0);
        desk.expression(1);
        desk.frame(1);
        Edge.leaves(desk, "145", Edge.MIN, 145, 1);
    }

    /** "REGISTERS 0 .. 31": load, register, 144, 146, cfa. */
    private static void registers() {
        LocationDesk desk = new LocationDesk();
        Check.due("load(0)", desk.load(0, 7), true);
        Check.due("load(31)", desk.load(31, 8), true);
        Check.due("load(-1)", desk.load(-1, 9), false);
        Check.due("load(32)", desk.load(32, 9), false);
        Check.due("register(0)", desk.register(0), 7);
        Check.due("register(31)", desk.register(31), 8);
        Check.due("register(-1)", desk.register(-1), 0);
        Check.due("register(32)", desk.register(32), 0);
        long[] above = {32, 33, 128, 1L << 31, 1L << 32, 1L << 62, Edge.MAX, Edge.MIN, -1};
        for (long r : above) {
            Edge.fails("144 of " + r, 14, 0, Edge.with(144, Edge.leb(r)));
            Edge.fails("146 of " + r, 14, 0, Edge.with(146, Edge.leb(r), new int[] {0}));
        }
        Edge.leaves(desk, "146 of 31", 9, 146, 31, 1);
        Edge.leaves(desk, "146 of 0", 8, 146, 0, 1);
        Edge.goes(desk, "144 of 31", 144, 31);
        Edge.is(desk, "144 of 31", 2, 31);
        Edge.goes(desk, "144 of 0", 144, 0);
        Edge.is(desk, "144 of 0", 2, 0);
        Check.due("cfa(31)", desk.cfa(31, 1), true);
        Edge.leaves(desk, "CFA of 31", 9, 156);
        Check.due("cfa(0)", desk.cfa(0, 1), true);
        Edge.leaves(desk, "CFA of 0", 8, 156);
        Check.due("cfa(32)", desk.cfa(32, 50), false);
        Check.due("cfa(-2)", desk.cfa(-2, 50), false);
        Edge.leaves(desk, "CFA stays", 8, 156);
        Check.due("cfa(-1)", desk.cfa(-1, 50), true);
        Edge.fails(desk, "CFA is none", 11, 0, 156);
    }

    /** "MEMORY: BYTES at 0 .. 4095": poke, peek; "v modulo 256". */
    private static void memory() {
        LocationDesk desk = new LocationDesk();
        Check.due("poke(0)", desk.poke(0, 255), true);
        Check.due("poke(4095)", desk.poke(4095, 254), true);
        Check.due("poke(-1)", desk.poke(-1, 1), false);
        Check.due("poke(4096)", desk.poke(4096, 1), false);
        Check.due("peek(0)", desk.peek(0), 255);
        Check.due("peek(4095)", desk.peek(4095), 254);
        Check.due("peek(-1)", desk.peek(-1), -1);
        Check.due("peek(4096)", desk.peek(4096), -1);
        int[][] pokes = {{255, 255}, {256, 0}, {257, 1}, {-1, 255}, {-256, 0}, {-255, 1}, {Integer.MAX_VALUE, 255}, {Integer.MIN_VALUE, 0}};
        for (int[] poke : pokes) {
            desk.poke(7, poke[0]);
            Check.due("poke of " + poke[0], desk.peek(7), poke[1]);
        }
    }

    /** "n BYTES at a: .. the lowest first, without sign; all of them must be in the MEMORY": 6 and 148. */
    private static void bytesOfMemory() {
        for (int n = 1; n <= 8; n++) {
            LocationDesk desk = new LocationDesk();
            desk.poke(4096 - n, 0x7F);
            desk.poke(4095, 0xFF);
            long want = n == 1 ? 0xFF : 0x7F | 0xFFL << 8 * n - 8;
            int[] take = n == 8 ? new int[] {6} : new int[] {148, n};
            Edge.leaves(desk, n + " at the last place", want, Check.join(Edge.wide(4096 - n), take));
            Edge.leaves(desk, n + " at the last place by 148", want, Check.join(Edge.wide(4096 - n), new int[] {148, n}));
            Edge.leaves(desk, n + " at the first place", 0, Check.join(Edge.wide(0), take));
            long[] beyond = {4097 - n, 4096, -1, -n, Edge.MAX, Edge.MAX - n, Edge.MIN, 1L << 32, (1L << 32) + 5};
            for (long a : beyond) {
                Edge.fails(desk, n + " at " + a, 5, 9, Check.join(Edge.wide(a), take));
                Edge.fails(desk, n + " at " + a + " by 148", 5, 9, Check.join(Edge.wide(a), new int[] {148, n}));
            }
        }
        int[] widths = {0, 9, 128, 255};
        for (int width : widths) {
            Edge.fails("148 of " + width, 10, 1, 48, 148, width);
        }
        LocationDesk desk = new LocationDesk();
        for (int a = 0; a < 8; a++) {
            desk.poke(a, 255);
        }
        Edge.leaves(desk, "7 without sign", (1L << 56) - 1, 48, 148, 7);
        Edge.leaves(desk, "8 are all bits", -1, 48, 148, 8);
    }

    /** "EXPRESSIONS 0 .. 15 and LISTS 0 .. 3 are rows of BYTES (0 .. 600 of them), empty at first." */
    private static void rows() {
        for (int size : new int[] {0, 1, 599, 600, 601, 602, 999, 1000}) {
            LocationDesk desk = new LocationDesk();
            int[] bytes = Check.times(size, 150);
            boolean fits = size <= 600;
            for (int k : new int[] {0, 15}) {
                Check.tape(desk, bytes);
                Check.due("expression(" + k + ") of " + size, desk.expression(k), fits ? size : -1);
                Check.due("the tape is empty, or as before", desk.end(size), fits && size > 0 ? -1 : size);
                Check.due("run of " + size, desk.run(k, 1000), 0);
                Check.due("steps of " + size, desk.told(2), fits ? size : 0);
            }
        }
        LocationDesk desk = new LocationDesk();
        int[] none = {-1, 16};
        for (int k : none) {
            Check.tape(desk, 53);
            Check.due("expression(" + k + ")", desk.expression(k), -1);
            Check.due("the tape stays", desk.end(1), 1);
        }
        Check.tape(desk, Check.join(Check.lowFirst(-1, 8), Check.lowFirst(5, 8), new int[16], Check.times(568, 7)));
        Check.due("list(-1)", desk.list(-1), -1);
        Check.due("list(4)", desk.list(4), -1);
        Check.due("the tape stays", desk.end(600), 600);
        Check.due("list(3) of 600", desk.list(3), 600);
        Check.due("find", desk.find(3, 0, 0, 1), 0);
        Check.tape(desk, Check.times(601, 0));
        Check.due("list(0) of 601", desk.list(0), -1);
        Check.due("LIST 0 is empty", desk.find(0, 0, 0, 1), 1);
        Check.due("list(0) of 600", desk.end(600) == 600 ? desk.list(0) : -2, 600);
        Check.due("find", desk.find(0, 0, 0, 1), 0);
    }

    /** Promises 2 and 3: "more than 1000"; "if there are not so many, or n is below 0". */
    private static void tape() {
        for (int size = 0; size <= 1000; size += 20) {
            LocationDesk desk = new LocationDesk();
            Check.tape(desk, Check.times(size, 1));
            Check.due("end(size + 1)", desk.end(size + 1), -1);
            Check.due("end(-1)", desk.end(-1), -1);
            Check.due("end(size)", desk.end(size), size);
            Check.due("feed at " + size, desk.feed(1, 2, 3, 4, 5), size <= 980 ? size + 20 : -1);
        }
        for (int size = 979; size <= 982; size++) {
            LocationDesk desk = new LocationDesk();
            Check.tape(desk, Check.times(size, 1));
            Check.due("feed at " + size, desk.feed(1, 2, 3, 4, 5), size <= 980 ? size + 20 : -1);
            Check.due("how many", desk.end(size + 1), size <= 980 ? size + 1 : -1);
        }
        LocationDesk desk = new LocationDesk();
        Check.due("feed", desk.feed(0x9E120102, 0x7F80FF00, 0x80000001, 0x7FFFFFFF, 0xFFFEFDFC), 20);
        desk.expression(0);
        Check.due("run", desk.run(0, 1), 0);
        int[] want = {1, 2, 0x7F, 0x80, 0xFF, 0, 0x80, 0, 0, 1, 0x7F, 0xFF, 0xFF, 0xFF, 0xFF, 0xFE, 0xFD, 0xFC};
        for (int i = 0; i < want.length; i++) {
            Check.due("the highest of each int first: " + i, desk.part(0, 100 + i), want[i]);
        }
    }

    /** "FRAME .. CFA .. OBJECT, TLS .. none of these is there at first"; promises 10 to 12. */
    private static void frameAndTheirLike() {
        int[][] asks = {{145, 0}, {156}, {151}, {48, 155}};
        for (int[] ask : asks) {
            Edge.fails("at first, " + ask[0], 11, ask.length == 2 && ask[0] == 48 ? 1 : 0, ask);
        }
        LocationDesk desk = new LocationDesk();
        Check.tape(desk, 53);
        desk.expression(0);
        Check.tape(desk, 54);
        desk.expression(15);
        Check.due("frame(0)", desk.frame(0), true);
        Edge.leaves(desk, "FRAME 0", 5, 145, 0);
        Check.due("frame(15)", desk.frame(15), true);
        Edge.leaves(desk, "FRAME 15", 6, 145, 0);
        Check.due("frame(16)", desk.frame(16), false);
        Check.due("frame(-2)", desk.frame(-2), false);
        Edge.leaves(desk, "FRAME is 15 still", 6, 145, 0);
        Check.due("frame(-1)", desk.frame(-1), true);
        Edge.fails(desk, "FRAME is none", 11, 0, 145, 0);
        Check.due("set(0)", desk.set(0, 1, true), true);
        Check.due("set(1)", desk.set(1, 2, true), true);
        Check.due("set(2)", desk.set(2, 3, true), false);
        Check.due("set(-1)", desk.set(-1, 3, true), false);
        Check.due("set(2), not there", desk.set(2, 3, false), false);
        Check.due("set(-1), not there", desk.set(-1, 3, false), false);
        Edge.leaves(desk, "OBJECT", 1, 151);
        Edge.leaves(desk, "TLS", 2, 48, 155);
        Check.due("OBJECT is none", desk.set(0, 1, false), true);
        Edge.fails(desk, "OBJECT is none", 11, 0, 151);
        Edge.leaves(desk, "TLS stays", 2, 48, 155);
        Check.due("OBJECT is 0, and there", desk.set(0, 0, true), true);
        Edge.leaves(desk, "OBJECT is 0", 0, 151);
        Check.due("TLS is none", desk.set(1, 1, false), true);
        Edge.fails(desk, "TLS is none", 11, 1, 48, 155);
    }

    // ---- II. RUNS

    /** "a STACK of at most 128 numbers"; "4 a 129th number", by every operation that pushes more than it takes. */
    private static void stack() {
        int[][] pushes = {Edge.with(3, Check.lowFirst(1, 8)), {8, 1}, {9, 1}, {10, 1, 0}, {11, 1, 0}, {12, 1, 0, 0, 0}, {13, 1, 0, 0, 0},
            Edge.with(14, Check.lowFirst(1, 8)), Edge.with(15, Check.lowFirst(1, 8)), {16, 1}, {17, 1}, {48}, {79}, {112, 1}, {143, 1}, {146, 1, 1}, {18},
            {20}, {21, 0}, {21, 125}, {145, 0}, {151}, {156}};
        for (int[] push : pushes) {
            LocationDesk desk = new LocationDesk();
            desk.frame(1);
            desk.cfa(1, 1);
            desk.set(0, 1, true);
            Check.tape(desk, 53);
            desk.expression(1);
            Edge.goes(desk, "the 128th by " + push[0], Check.join(Check.times(127, 53), push));
            Check.due("most", desk.told(3), 128);
            Edge.fails(desk, "the 129th by " + push[0], 4, 128, Check.join(Check.times(128, 53), push));
            Check.due("most", desk.told(3), 128);
        }
        int[][] others = {{6}, {148, 1}, {19}, {22}, {23}, {25}, {31}, {32}, {35, 1}, {155}, {150}, {159}, {40, 0, 0}, {47, 0, 0}, {152, 0, 0}};
        for (int[] other : others) {
            LocationDesk desk = new LocationDesk();
            desk.set(1, 0, true);
            Edge.goes(desk, "a full stack and " + other[0], Check.join(Check.times(128, 53), other));
        }
        for (int op : BINARY) {
            Edge.goes("a full stack and " + op, Check.join(Check.times(128, 53), new int[] {op}));
        }
        LocationDesk desk = new LocationDesk();
        Check.tape(desk, Check.times(64, 53));
        desk.expression(1);
        Edge.goes(desk, "128 by calls", 152, 1, 0, 152, 1, 0);
        Edge.fails(desk, "129 by calls", 4, 4, 53, 152, 1, 0, 152, 1, 0);
    }

    /** "u1, u2, u4, u8 numbers of so many BYTES"; "1 its operands do not end". */
    private static void fixedOperands() {
        int[][] sizes = {{3, 8}, {8, 1}, {9, 1}, {10, 2}, {11, 2}, {12, 4}, {13, 4}, {14, 8}, {15, 8}, {21, 1}, {40, 2}, {47, 2}, {148, 1},
            {152, 2}, {153, 4}};
        for (int[] size : sizes) {
            int[] ahead = {53, 53, size[0]};
            Edge.goes("all operands of " + size[0], Check.join(ahead, Check.times(size[1], size[0] == 148 ? 1 : 0)));
            Edge.fails("one byte less of " + size[0], 1, 2, Check.join(ahead, Check.times(size[1] - 1, 0)));
            Edge.fails("no operands of " + size[0], 1, 2, ahead);
        }
        LocationDesk desk = new LocationDesk();
        Check.tape(desk, 12, 1, 2, 3);
        desk.expression(1);
        Edge.fails(desk, "in a call, with bytes behind the call", 1, 0, 152, 1, 0, 150, 150, 150);
    }

    /** "the lowest first (s: with sign)". */
    private static void signs() {
        Edge.leaves("u1", 255, 8, 255);
        Edge.leaves("u1", 128, 8, 128);
        Edge.leaves("s1", 127, 9, 127);
        Edge.leaves("s1", -128, 9, 128);
        Edge.leaves("s1", -1, 9, 255);
        Edge.leaves("u2", 65535, 10, 255, 255);
        Edge.leaves("s2", 32767, 11, 255, 127);
        Edge.leaves("s2", -32768, 11, 0, 128);
        Edge.leaves("u4", 4294967295L, 12, 255, 255, 255, 255);
        Edge.leaves("s4", Integer.MAX_VALUE, 13, 255, 255, 255, 127);
        Edge.leaves("s4", Integer.MIN_VALUE, 13, 0, 0, 0, 128);
        Edge.leaves("u8", -1, Edge.with(14, Check.lowFirst(-1, 8)));
        Edge.leaves("u8", Edge.MIN, Edge.with(14, Check.lowFirst(Edge.MIN, 8)));
        Edge.leaves("s8", Edge.MAX, Edge.with(15, Check.lowFirst(Edge.MAX, 8)));
        Edge.leaves("3", Edge.MIN + 1, Edge.with(3, Check.lowFirst(Edge.MIN + 1, 8)));
        Edge.leaves("48", 0, 48);
        Edge.leaves("79", 31, 79);
    }

    /** "of BYTES, up to the first below 128, at most ten"; "15 ahead of it: a LEB's tenth BYTE is above 127". */
    private static void lebs() {
        int[][] ahead = {{16}, {17}, {112}, {143}, {145}, {146}, {146, 0}, {53, 35}, {144}, {147}, {157}, {157, 0}, {158}};
        int[][] behind = {{}, {}, {}, {}, {}, {0}, {}, {}, {}, {}, {0}, {}, {}};
        for (int i = 0; i < ahead.length; i++) {
            int place = ahead[i][0] == 53 ? 1 : 0;
            String what = "LEB of " + ahead[i][place] + " (" + i + ")";
            for (int size = 1; size <= 10; size++) {
                LocationDesk desk = new LocationDesk();
                desk.frame(1);
                Check.tape(desk, 53);
                desk.expression(1);
                int[] leb = Check.join(Check.times(size - 1, 128), new int[] {0});
                Edge.goes(desk, what + " of " + size, Check.join(ahead[i], leb, behind[i]));
                Edge.fails(desk, what + " of " + size + " that does not end", size == 10 ? 15 : 1, place, Check.join(ahead[i], Check.times(size, 128)));
            }
            Edge.fails(what + ": the tenth is 128, and an eleventh", 15, place, Check.join(ahead[i], Check.times(10, 128), new int[] {0}, behind[i]));
            Edge.fails(what + " has no byte", 1, place, ahead[i]);
        }
        int[] nine = Check.times(9, 255);
        Edge.leaves("what is above bit 63 goes", -1, Edge.with(16, nine, new int[] {127}));
        Edge.leaves("bit 63 is the tenth's lowest", Edge.MAX, Edge.with(16, nine, new int[] {126}));
        Edge.leaves("bit 63 alone", Edge.MIN, Edge.with(16, Check.times(9, 128), new int[] {1}));
        Edge.leaves("nothing of the tenth", 0, Edge.with(16, Check.times(9, 128), new int[] {126}));
    }

    /** "of S all higher bits are as bit 6 of the last BYTE, if fewer than 64 were told". */
    private static void lebSigns() {
        for (int size = 1; size <= 9; size++) {
            int[] ones = Check.times(size - 1, 255);
            int[] zeros = Check.times(size - 1, 128);
            long bit = 1L << 7 * size - 1;
            Edge.leaves("the highest of " + size, bit - 1, Edge.with(17, ones, new int[] {63}));
            Edge.leaves("the lowest of " + size, -bit, Edge.with(17, zeros, new int[] {64}));
            Edge.leaves("-1 of " + size, -1, Edge.with(17, ones, new int[] {127}));
            Edge.leaves("U of " + size, size == 9 ? Edge.MAX : (1L << 7 * size) - 1, Edge.with(16, ones, new int[] {127}));
        }
        Edge.leaves("ten tell 64 bits: bit 6 of the last is no sign", 0, Edge.with(17, Check.times(9, 128), new int[] {64}));
        Edge.leaves("ten tell 64 bits: bit 0 of the last is bit 63", Edge.MIN, Edge.with(17, Check.times(9, 128), new int[] {1}));
        Edge.leaves("ten tell 64 bits", Edge.MAX, Edge.with(17, Check.times(9, 255), new int[] {126}));
        Edge.leaves("S of 112", -64, 112, 64);
        Edge.leaves("S of 146", -64, 146, 0, 64);
    }

    /** "158 U and so many BYTES". */
    private static void blocks() {
        LocationDesk desk = new LocationDesk();
        Edge.goes(desk, "none", 158, 0);
        Edge.is(desk, "none", 4, 0);
        Edge.goes(desk, "all of 600", Edge.with(158, Edge.leb(597), Check.times(597, 9)));
        Edge.is(desk, "all", 4, 597);
        Check.due("its last byte", desk.part(0, 100 + 596), 9);
        Check.due("none behind it", desk.part(0, 100 + 597), -1);
        Edge.fails("one more than there are", 1, 0, Edge.with(158, Edge.leb(598), Check.times(597, 9)));
        Edge.goes("two of two", 158, 2, 1, 2);
        Edge.fails("three of two", 1, 0, 158, 3, 1, 2);
        long[] many = {1L << 31, 1L << 32, (1L << 32) + 1, 1L << 63, -1};
        for (long n : many) {
            Edge.fails("158 of " + n, 1, 0, Edge.with(158, Edge.leb(n), Check.times(5, 1)));
        }
        Check.tape(desk, 158, 2, 1);
        desk.expression(1);
        Edge.fails(desk, "not beyond a called expression", 1, 0, 152, 1, 0, 7, 7);
    }

    /** "3 fewer on the STACK than it takes or wants (of 18 one, of 20, 22 two, of 23 three, of 21 u1 + 1)". */
    private static void wantedOnTheStack() {
        int[][] ones = {{6}, {148, 1}, {18}, {19}, {25}, {31}, {32}, {35, 0}, {40, 0, 0}, {155}, {159}, {21, 0}};
        int[][] twos = {{20}, {22}, {21, 1}};
        wants(1, ones);
        wants(2, twos);
        for (int op : BINARY) {
            wants(2, new int[][] {{op}});
        }
        wants(3, new int[][] {{23}, {21, 2}});
        wants(100, new int[][] {{21, 99}});
        wants(127, new int[][] {{21, 126}});
        Edge.fails("21 of 127 with 128: a 129th number", 4, 128, Check.join(Check.times(128, 53), new int[] {21, 127}));
        Edge.fails("21 of 128 with 128", 3, 128, Check.join(Check.times(128, 53), new int[] {21, 128}));
        Edge.fails("21 of 255 with 128", 3, 128, Check.join(Check.times(128, 53), new int[] {21, 255}));
        wants(0, new int[][] {{150}, {80}, {158, 0}, {147, 1}, {157, 1, 1}, {47, 0, 0}, {152, 0, 0}, {151}, {156}, {16, 0}, {112, 0}});
        Edge.leaves("what a call left", 10, 53, 152, 0, 0, 18, 34);
    }

    private static void wants(int count, int[][] operations) {
        for (int[] operation : operations) {
            LocationDesk desk = new LocationDesk();
            desk.set(0, 1, true);
            desk.set(1, 1, true);
            desk.cfa(1, 1);
            Edge.goes(desk, operation[0] + " of " + count, Check.join(Check.times(count, 53), operation));
            if (count > 0) {
                Edge.fails(desk, operation[0] + " of " + (count - 1), 3, count - 1, Check.join(Check.times(count - 1, 53), operation));
            }
            if (count > 1) {
                Edge.fails(desk, operation[0] + " of none", 3, 0, operation);
            }
        }
    }

    private static void two(String what, int op, long s, long t, long want) {
        Edge.leaves(what + ": " + s + " " + op + " " + t, want, Check.join(Edge.wide(s), Edge.wide(t), new int[] {op}));
    }

    /** "(t below 0 or above 63: 0; of 38 -1, if s is below 0)". */
    private static void shifts() {
        long[] far = {-1, 64, 65, -63, -64, 128, 1L << 32, (1L << 32) + 1, Edge.MAX, Edge.MIN, Edge.MIN + 1};
        for (long t : far) {
            two("far", 36, 5, t, 0);
            two("far", 36, -5, t, 0);
            two("far", 37, 5, t, 0);
            two("far", 37, -5, t, 0);
            two("far", 38, 5, t, 0);
            two("far", 38, Edge.MAX, t, 0);
            two("far", 38, -5, t, -1);
            two("far", 38, Edge.MIN, t, -1);
            two("far", 38, 0, t, 0);
        }
        two("none", 36, -5, 0, -5);
        two("none", 37, -5, 0, -5);
        two("none", 38, -5, 0, -5);
        two("the most", 36, 3, 63, Edge.MIN);
        two("the most", 37, Edge.MIN, 63, 1);
        two("the most", 38, Edge.MIN, 63, -1);
        two("the most", 38, Edge.MAX, 63, 0);
        two("one less", 36, 1, 62, 1L << 62);
        two("one less", 37, Edge.MIN, 62, 2);
        two("one less", 38, Edge.MIN, 62, -2);
    }

    /** "27 s by t, towards 0; 29 the rest of s by t, both without sign"; "6 by 0 (27, 29)". */
    private static void divisions() {
        Edge.fails("27 by 0", 6, 18, Check.join(Edge.wide(5), Edge.wide(0), new int[] {27}));
        Edge.fails("29 by 0", 6, 18, Check.join(Edge.wide(5), Edge.wide(0), new int[] {29}));
        Edge.fails("0 by 0", 6, 18, Check.join(Edge.wide(0), Edge.wide(0), new int[] {27}));
        Edge.fails("MIN by 0", 6, 18, Check.join(Edge.wide(Edge.MIN), Edge.wide(0), new int[] {29}));
        two("by 1", 27, Edge.MIN, 1, Edge.MIN);
        two("by -1", 27, Edge.MIN, -1, Edge.MIN);
        two("by -1", 27, Edge.MAX, -1, -Edge.MAX);
        two("towards 0", 27, -7, 2, -3);
        two("towards 0", 27, 7, -2, -3);
        two("towards 0", 27, -7, -2, 3);
        two("towards 0", 27, -1, 2, 0);
        two("by 2^32", 27, 1L << 33, 1L << 32, 2);
        two("by 1", 29, -1, 1, 0);
        two("without sign", 29, -1, 2, 1);
        two("without sign", 29, -1, 10, 5);
        two("without sign", 29, Edge.MIN, 10, 8);
        two("without sign", 29, Edge.MIN, Edge.MAX, 1);
        two("without sign", 29, Edge.MAX, Edge.MIN, Edge.MAX);
        two("without sign", 29, -1, Edge.MIN, Edge.MAX);
        two("without sign", 29, Edge.MIN, -1, Edge.MIN);
        two("without sign", 29, -1, -1, 0);
        two("without sign", 29, -2, -1, -2);
        two("without sign", 29, -1, -2, 1);
        two("without sign", 29, -1, Edge.MAX, 1);
        two("without sign", 29, -2, Edge.MAX, 0);
        two("without sign", 29, -3, Edge.MAX, Edge.MAX - 1);
        two("without sign", 29, 5, -7, 5);
    }

    /** "with signs: 41 s = t, 42 not less, 43 above, 44 not above, 45 less, 46 unlike: 1 or 0". */
    private static void comparisons() {
        long[][] pairs = {{5, 5}, {5, 6}, {6, 5}, {-1, 0}, {0, -1}, {Edge.MIN, Edge.MAX}, {Edge.MAX, Edge.MIN}, {Edge.MIN, Edge.MIN}, {Edge.MAX, Edge.MAX}, {1L << 32, 0}, {0, 1L << 32}};
        for (long[] pair : pairs) {
            int order = Long.compare(pair[0], pair[1]);
            two("same", 41, pair[0], pair[1], order == 0 ? 1 : 0);
            two("not less", 42, pair[0], pair[1], order >= 0 ? 1 : 0);
            two("above", 43, pair[0], pair[1], order > 0 ? 1 : 0);
            two("not above", 44, pair[0], pair[1], order <= 0 ? 1 : 0);
            two("less", 45, pair[0], pair[1], order < 0 ? 1 : 0);
            two("unlike", 46, pair[0], pair[1], order != 0 ? 1 : 0);
        }
    }

    /** "7 PLACE would be below 0 or more than there are BYTES". */
    private static void places() {
        Edge.goes("to the end, 0 on", 47, 0, 0);
        Edge.goes("to the end, 2 on", 47, 2, 0, 0, 0);
        Edge.fails("one behind the end", 7, 0, 47, 1, 0);
        Edge.fails("one behind the end, 3 on", 7, 0, 47, 3, 0, 0, 0);
        Edge.fails("32767 on", 7, 0, 47, 255, 127);
        Edge.fails("to the first byte, for ever", 12, 0, 47, 0xFD, 0xFF);
        Edge.fails("one below the first", 7, 0, 47, 0xFC, 0xFF);
        Edge.fails("one below the first, from 2 on", 7, 2, 150, 150, 47, 0xFA, 0xFF);
        Edge.fails("32768 back", 7, 0, 47, 0, 128);
        Edge.goes("40 to the end", 49, 40, 0, 0);
        Edge.fails("40 one behind the end", 7, 1, 49, 40, 1, 0);
        Edge.fails("40 one below the first", 7, 1, 49, 40, 0xFB, 0xFF);
        LocationDesk desk = new LocationDesk();
        Check.tape(desk, 150, 47, 1, 0, 0);
        desk.expression(1);
        Edge.goes(desk, "to the end of a called expression", 150, 150, 152, 1, 0, 150, 150);
        Check.tape(desk, 150, 47, 2, 0, 0);
        desk.expression(1);
        Edge.fails(desk, "behind the end of a called expression", 7, 2, 150, 150, 152, 1, 0, 150, 150);
        Check.tape(desk, 150, 47, 0xFB, 0xFF);
        desk.expression(1);
        Edge.fails(desk, "below a called expression", 7, 2, 150, 150, 152, 1, 0, 150, 150);
        // t is less by one; as long as it is not 0, from the first byte on again
        Check.tape(desk, 49, 28, 18, 40, 0xFA, 0xFF);
        desk.expression(1);
        Edge.leaves(desk, "to the first byte of a called expression", 0, 51, 152, 1, 0);
        Check.tape(desk, 49, 28, 18, 40, 0xF9, 0xFF);
        desk.expression(1);
        Edge.fails(desk, "40 below a called expression", 7, 1, 51, 152, 1, 0);
        Check.tape(desk, 53, 47, 1, 0);
        desk.expression(1);
        desk.frame(1);
        Edge.fails(desk, "behind the end of a FRAME", 7, 1, 150, 145, 0, 150);
    }

    /** "40 s2 t: if t is not 0". */
    private static void branches() {
        long[] taken = {1, -1, 1L << 32, Edge.MIN, Edge.MAX, 256};
        for (long t : taken) {
            Edge.leaves("t is " + t, 5, Check.join(new int[] {53}, Edge.wide(t), new int[] {40, 1, 0, 54}));
            Edge.fails("t is " + t + ", too far", 7, 9, Check.join(Edge.wide(t), new int[] {40, 1, 0}));
        }
        Edge.leaves("t is 0", 6, Check.join(new int[] {53}, Edge.wide(0), new int[] {40, 1, 0, 54}));
        Edge.goes("t is 0, too far", Check.join(Edge.wide(0), new int[] {40, 255, 127}));
        Edge.goes("t is 0, too far back", Check.join(Edge.wide(0), new int[] {40, 0, 128}));
    }

    /** "8 a CALL of an EXPRESSION above 15 (all U, u without sign), or while eight are open". */
    private static void calls() {
        Edge.goes("152 of 15", 152, 15, 0);
        Edge.fails("152 of 16", 8, 0, 152, 16, 0);
        Edge.fails("152 of 256", 8, 0, 152, 0, 1);
        Edge.fails("152 of 32768", 8, 0, 152, 0, 128);
        Edge.fails("152 of 65535", 8, 0, 152, 255, 255);
        Edge.goes("153 of 15", 153, 15, 0, 0, 0);
        Edge.fails("153 of 16", 8, 0, 153, 16, 0, 0, 0);
        Edge.fails("153 of 65536", 8, 0, 153, 0, 0, 1, 0);
        Edge.fails("153 of 2^31", 8, 0, 153, 0, 0, 0, 128);
        Edge.fails("153 of 2^32 - 1", 8, 0, 153, 255, 255, 255, 255);
        LocationDesk desk = new LocationDesk();
        Check.tape(desk, COUNTED_CALL);
        desk.expression(12);
        Edge.goes(desk, "eight calls open", 150, 8, 8, 152, 12, 0);
        Edge.fails(desk, "a ninth one", 8, 3, 150, 8, 9, 152, 12, 0);
        Edge.goes(desk, "calls that are closed do not count", Check.times(5, 8, 8, 152, 12, 0));
    }

    /** EXPRESSION 12: t is less by one; as long as it is not 0, the same is called again. */
    private static final int[] COUNTED_CALL = {49, 28, 18, 40, 3, 0, 47, 3, 0, 152, 12, 0};

    /** "(in a FRAME's RUN those around it count)". */
    private static void callsAroundFrames() {
        for (int around = 0; around <= 8; around++) {
            LocationDesk desk = new LocationDesk();
            Check.tape(desk, COUNTED_CALL);
            desk.expression(12);
            // as EXPRESSION 12, but where t is 0 the FRAME's BASE is asked for
            Check.tape(desk, 49, 28, 18, 40, 5, 0, 145, 0, 47, 3, 0, 152, 10, 0);
            desk.expression(10);
            desk.frame(11);
            int[] outer = around == 0 ? new int[] {145, 0} : new int[] {8, around, 152, 10, 0};
            for (int inside = 0; inside <= 8; inside++) {
                Check.tape(desk, inside == 0 ? new int[] {53} : new int[] {8, inside, 152, 12, 0});
                desk.expression(11);
                String what = around + " calls around a FRAME, " + inside + " in it";
                if (around + inside <= 8) {
                    Edge.goes(desk, what, outer);
                } else {
                    Edge.fails(desk, what, 8, 2, outer);
                }
            }
        }
    }

    /** "9 there is a HOLD, and it is not 147, 157, 150, 47, 152, 153". */
    private static void holds() {
        int[][] holds = {{80}, {111}, {144, 31}, {48, 159}, {158, 0}, {158, 1, 7}};
        int[][] free = {{147, 1}, {157, 1, 0}, {150}, {47, 0, 0}, {152, 0, 0}, {153, 0, 0, 0, 0}};
        for (int[] hold : holds) {
            for (int[] operation : free) {
                Edge.goes("a hold and " + operation[0], Check.join(hold, operation));
            }
            for (int[] other : holds) {
                Edge.fails("a hold and another", 9, hold.length, Check.join(hold, other));
            }
            Edge.fails("a hold and a number", 9, hold.length, Check.join(hold, new int[] {48}));
            Edge.fails("a hold and 40", 9, hold.length, Check.join(hold, new int[] {40, 0, 0}));
            Edge.goes("no hold behind a piece", Check.join(hold, new int[] {147, 1, 48, 147, 1}));
            Edge.goes("no hold behind a piece of bits", Check.join(hold, new int[] {157, 1, 0, 48, 147, 1}));
        }
        LocationDesk desk = new LocationDesk();
        Check.tape(desk, 83);
        desk.expression(1);
        Edge.fails(desk, "a hold of a call", 9, 3, 152, 1, 0, 48);
        Check.tape(desk, 48);
        desk.expression(1);
        Edge.fails(desk, "a hold around a call", 9, 1, 83, 152, 1, 0);
    }

    /** "13 the 17th PIECE, U or V of one above 4096 (of 147 U above 512; without sign), or more than 4096 bits in all". */
    private static void pieces() {
        LocationDesk desk = new LocationDesk();
        Edge.goes(desk, "16 pieces", Check.times(16, 80, 147, 1));
        Check.due("parts", desk.parts(), 16);
        Edge.fails("the 17th by 147", 13, 49, Check.join(Check.times(16, 80, 147, 1), new int[] {80, 147, 1}));
        Edge.fails("the 17th by 147, of no bits", 13, 48, Check.join(Check.times(16, 80, 147, 1), new int[] {147, 0}));
        Edge.fails("the 17th by 157, of no bits", 13, 48, Check.join(Check.times(16, 80, 147, 1), new int[] {157, 0, 0}));
        long[] far = {1L << 31, 1L << 32, 1L << 60, 1L << 61, (1L << 61) + 1, 1L << 62, Edge.MAX, Edge.MIN, -1};
        Edge.goes("147 of 512", Edge.with(147, Edge.leb(512)));
        Edge.fails("147 of 513", 13, 0, Edge.with(147, Edge.leb(513)));
        Edge.goes("157 of 4096", Edge.with(157, Edge.leb(4096), Edge.leb(0)));
        Edge.fails("157 of 4097", 13, 0, Edge.with(157, Edge.leb(4097), Edge.leb(0)));
        Edge.goes("157 from 4096 on", Edge.with(157, Edge.leb(0), Edge.leb(4096)));
        Edge.fails("157 from 4097 on", 13, 0, Edge.with(157, Edge.leb(0), Edge.leb(4097)));
        Edge.goes("157 of 4096 from 4096 on", Edge.with(157, Edge.leb(4096), Edge.leb(4096)));
        for (long n : far) {
            Edge.fails("147 of " + n, 13, 0, Edge.with(147, Edge.leb(n)));
            Edge.fails("157 of " + n, 13, 0, Edge.with(157, Edge.leb(n), Edge.leb(0)));
            Edge.fails("157 from " + n + " on", 13, 0, Edge.with(157, Edge.leb(0), Edge.leb(n)));
        }
        for (int bits = 1; bits <= 4096; bits += 455) {
            int[] first = Edge.with(157, Edge.leb(bits), Edge.leb(0));
            Edge.goes("4096 bits in all", Check.join(first, Edge.with(157, Edge.leb(4096 - bits), Edge.leb(9))));
            Edge.fails("4097 bits in all", 13, first.length, Check.join(first, Edge.with(157, Edge.leb(4097 - bits), Edge.leb(9))));
        }
        Edge.goes("4096 bits in all by 147", Check.join(Edge.with(147, Edge.leb(511)), Edge.with(147, Edge.leb(1))));
        Edge.fails("4104 bits in all by 147", 13, 3, Check.join(Edge.with(147, Edge.leb(511)), Edge.with(147, Edge.leb(2))));
        Edge.fails("4096 bits and one more", 13, 3, Check.join(Edge.with(147, Edge.leb(512)), Edge.with(157, Edge.leb(1), Edge.leb(0))));
        Edge.goes("4096 bits and none more", Check.join(Edge.with(147, Edge.leb(512)), Edge.with(157, Edge.leb(0), Edge.leb(0)), Edge.with(147, Edge.leb(0))));
        Edge.goes("16 pieces of 32 bytes", Check.times(16, 147, 32));
        Edge.fails("16 pieces, the last of 33 bytes", 13, 30, Check.join(Check.times(15, 147, 32), new int[] {147, 33}));
        Check.due("run", Edge.run(desk, 53, 54, 147, 1, 147, 2), 0);
        Edge.is(desk, "a piece is of t", 1, 6);
        Check.due("behind it the stack is empty", desk.part(1, 0), 0);
        Edge.fails("3 behind a piece: the stack is empty", 3, 4, 53, 54, 147, 1, 18);
    }

    /** "FRAME's BASE: .. its RESULT, if that is an ADDRESS or a NUMBER; of a REGISTER what that has"; "11 .. a BASE that is something else". */
    private static void bases() {
        LocationDesk desk = new LocationDesk();
        desk.frame(1);
        desk.load(31, 77);
        int[][] rows = {{53}, {53, 159}, {111}, {}, {158, 0}, {158, 1, 5}, {147, 0}, {53, 147, 8}, {145, 0}, {150}, {53, 19}};
        long[] want = {5, 5, 77, -1, -1, -1, -1, -1, -1, -1, -1};
        for (int i = 0; i < rows.length; i++) {
            Check.tape(desk, rows[i]);
            desk.expression(1);
            if (want[i] >= 0) {
                Edge.leaves(desk, "BASE " + i, want[i] + 3, 150, 145, 3);
            } else {
                Edge.fails(desk, "BASE " + i, 11, 1, 150, 145, 3);
            }
        }
        Check.tape(desk, 53, 34);
        desk.expression(1);
        Edge.fails(desk, "a fault of a BASE", 3, 2, 53, 53, 145, 0);
        Check.tape(desk, Check.times(128, 53));
        desk.expression(1);
        Edge.leaves(desk, "a stack of its own", 5, Check.join(Check.times(127, 54), new int[] {145, 0}));
        Check.due("most", desk.told(3), 128);
        Check.tape(desk, Check.times(129, 53));
        desk.expression(1);
        Edge.fails(desk, "a 129th number in a FRAME", 4, 0, 145, 0);
    }

    /** "12 there is no FUEL (each OPERATION takes 1 as it begins, also one with a FAULT: a STEP)"; promise 13: "FUEL 1 .. 1000". */
    private static void fuel() {
        LocationDesk desk = new LocationDesk();
        Check.tape(desk, Check.join(Check.times(599, 150), new int[] {150}));
        desk.expression(1);
        Check.tape(desk, Check.times(397, 150));
        desk.expression(2);
        // 600 and 397 steps, and the two calls
        Check.tape(desk, 152, 1, 0, 152, 2, 0, 150);
        desk.expression(3);
        Check.due("1000 steps", desk.run(3, 1000), 0);
        Check.due("told(2)", desk.told(2), 1000);
        Check.due("999 are too few", desk.run(3, 999), 12);
        Check.due("told(2)", desk.told(2), 999);
        Check.due("told(1)", desk.told(1), 6);
        Check.tape(desk, 152, 1, 0, 152, 2, 0, 150, 150);
        desk.expression(3);
        Check.due("1001 steps", desk.run(3, 1000), 12);
        Check.due("told(2)", desk.told(2), 1000);
        Check.due("told(1)", desk.told(1), 7);
        for (int fuel : new int[] {0, 1001, -1, Integer.MIN_VALUE, Integer.MAX_VALUE}) {
            Check.due("run with " + fuel, desk.run(3, fuel), -1);
            Check.due("find with " + fuel, desk.find(0, 0, 0, fuel), -1);
            Check.due("told(2) stays", desk.told(2), 1000);
        }
        Check.due("no bytes take no fuel", desk.run(0, 1), 0);
        Check.due("told(2)", desk.told(2), 0);
        Check.tape(desk, 150, 0);
        desk.expression(3);
        Check.due("with one the fault is 12", desk.run(3, 1), 12);
        Check.due("told(2)", desk.told(2), 1);
        Check.due("with two it is that of the code", desk.run(3, 2), 2);
        Check.due("told(2), the fault's step too", desk.told(2), 2);
        int[][] faulty = {{8}, {80, 80}, {144, 32}, {148, 0}, {147, 255, 127}, {34}, {152, 99, 0}, {151}, {9, 255, 6}, {48, 48, 27}, {47, 9, 0}};
        int[] steps = {1, 2, 1, 1, 1, 1, 1, 1, 2, 3, 1};
        for (int i = 0; i < faulty.length; i++) {
            Check.due("a fault", Edge.run(desk, faulty[i]) > 0, true);
            Check.due("steps with fault " + desk.told(0), desk.told(2), steps[i]);
            if (steps[i] > 1) {
                Check.due("one fuel less", desk.run(8, steps[i] - 1), 12);
            }
        }
    }

    /** "The RUN ends where PLACE is behind the last BYTE"; "At the end (place: how many BYTES there are): 13". */
    private static void endsOfRuns() {
        Edge.fails("pieces and a number", 13, 3, 147, 1, 53);
        Edge.fails("pieces and a hold", 13, 3, 147, 1, 80);
        Edge.fails("a piece of no bits and a number", 13, 4, 147, 0, 53, 150);
        Edge.fails("pieces and an empty block", 13, 4, 147, 1, 158, 0);
        Edge.goes("pieces, and the number goes", 147, 1, 53, 19);
        Edge.goes("a number and a hold, no pieces", 53, 80);
        Edge.goes("nothing at all", NO_BYTES);
        LocationDesk desk = new LocationDesk();
        Check.tape(desk, Check.join(Check.times(597, 150), new int[] {147, 1, 53}));
        desk.expression(1);
        Check.due("at 600", desk.run(1, 1000), 13);
        Check.due("place", desk.told(1), 600);
        Edge.fails(desk, "left by a call", 13, 4, 150, 152, 1, 0);
        Edge.goes(desk, "left by a call and taken", 150, 152, 1, 0, 147, 1);
        desk.frame(1);
        Edge.fails(desk, "in a FRAME", 13, 1, 150, 145, 0, 150);
    }
}
