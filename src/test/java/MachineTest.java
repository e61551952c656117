/** Promises 6 to 12: load, register, poke, peek, frame, cfa, set. */
public final class MachineTest {
    public static void main(String[] args) {
        registers();
        memory();
        frame();
        cfa();
        objectAndTls();
        Check.finish("MachineTest");
    }

    private static void registers() {
        LocationDesk desk = new LocationDesk();
        int[] none = {-1, 32, 33, Integer.MIN_VALUE, Integer.MAX_VALUE};
        for (int r : none) {
            Check.due("load " + r, desk.load(r, 5), false);
            Check.due("register " + r, desk.register(r), 0);
        }
        for (int r = 0; r < 32; r++) {
            Check.due("load " + r, desk.load(r, Long.MIN_VALUE + r), true);
        }
        for (int r = 0; r < 32; r++) {
            Check.due("register " + r, desk.register(r), Long.MIN_VALUE + r);
        }
        desk.load(31, 7);
        Check.due("loaded again", desk.register(31), 7);
        Check.due("its neighbour", desk.register(30), Long.MIN_VALUE + 30);
    }

    private static void memory() {
        LocationDesk desk = new LocationDesk();
        int[] none = {-1, 4096, Integer.MIN_VALUE, Integer.MAX_VALUE};
        for (int a : none) {
            Check.due("poke " + a, desk.poke(a, 5), false);
            Check.due("peek " + a, desk.peek(a), -1);
        }
        int[][] pokes = {{0, 0, 0}, {1, 255, 255}, {2, 256, 0}, {3, -1, 255}, {4, -257, 255}, {5, 300, 44}, {4095, 511, 255},
            {6, Integer.MIN_VALUE, 0}, {7, Integer.MAX_VALUE, 255}};
        for (int[] poke : pokes) {
            Check.due("poke " + poke[0], desk.poke(poke[0], poke[1]), true);
            Check.due("peek " + poke[0], desk.peek(poke[0]), poke[2]);
        }
        Check.due("a neighbour", desk.peek(8), 0);
        Check.due("a neighbour", desk.peek(4094), 0);
        desk.poke(1, 3);
        Check.due("poked again", desk.peek(1), 3);
    }

    private static void frame() {
        LocationDesk desk = new LocationDesk();
        Check.expression(desk, 0, 145, 2, 159);
        Check.expression(desk, 15, 0x35);
        Check.expression(desk, 3, 0x39);
        Check.due("frame(15)", desk.frame(15), true);
        Check.due("run", desk.run(0, 5), 0);
        Check.due("5 and 2", desk.part(0, 1), 7);
        int[] none = {-2, 16, Integer.MIN_VALUE, Integer.MAX_VALUE};
        for (int k : none) {
            Check.due("frame " + k, desk.frame(k), false);
        }
        Check.due("run, FRAME stays", desk.run(0, 5), 0);
        Check.due("frame(3)", desk.frame(3), true);
        desk.run(0, 5);
        Check.due("9 and 2", desk.part(0, 1), 11);
        Check.due("frame(NONE)", desk.frame(-1), true);
        Check.due("no FRAME", desk.run(0, 5), 11);
        Check.due("frame(0)", desk.frame(0), true);
        Check.due("145 in the FRAME", desk.run(0, 5), 11);
        Check.expression(desk, 0, 0x37);
        Check.expression(desk, 1, 145, 1);
        Check.due("EXPRESSION 0 as FRAME", desk.run(1, 5), 0);
        Check.due("7 and 1", desk.part(0, 1), 8);
    }

    private static void cfa() {
        LocationDesk desk = new LocationDesk();
        Check.expression(desk, 0, 156);
        Check.due("cfa(0, 5)", desk.cfa(0, 5), true);
        desk.load(0, 100);
        Check.due("run", desk.run(0, 5), 0);
        Check.due("an ADDRESS", desk.part(0, 0), 1);
        Check.due("100 and 5", desk.part(0, 1), 105);
        desk.load(0, Long.MAX_VALUE);
        desk.run(0, 5);
        Check.due("it wraps", desk.part(0, 1), Long.MIN_VALUE + 4);
        int[] none = {-2, 32, Integer.MIN_VALUE, Integer.MAX_VALUE};
        for (int r : none) {
            Check.due("cfa " + r, desk.cfa(r, 77), false);
        }
        desk.load(0, 1);
        desk.run(0, 5);
        Check.due("CFA stays", desk.part(0, 1), 6);
        Check.due("cfa(31, -1)", desk.cfa(31, -1), true);
        desk.run(0, 5);
        Check.due("0 and -1", desk.part(0, 1), -1);
        Check.due("cfa(NONE)", desk.cfa(-1, 5), true);
        Check.due("no CFA", desk.run(0, 5), 11);
    }

    private static void objectAndTls() {
        LocationDesk desk = new LocationDesk();
        Check.expression(desk, 0, 151);
        Check.expression(desk, 1, 0x35, 155);
        Check.due("set OBJECT", desk.set(0, 70, true), true);
        Check.due("OBJECT", desk.run(0, 5), 0);
        Check.due("70", desk.part(0, 1), 70);
        Check.due("no TLS", desk.run(1, 5), 11);
        Check.due("set TLS", desk.set(1, -6, true), true);
        Check.due("TLS", desk.run(1, 5), 0);
        Check.due("-6 and 5", desk.part(0, 1), -1);
        int[] none = {-1, 2, Integer.MIN_VALUE, Integer.MAX_VALUE};
        for (int what : none) {
            Check.due("set " + what, desk.set(what, 1, true), false);
            Check.due("set " + what, desk.set(what, 1, false), false);
        }
        desk.run(0, 5);
        Check.due("OBJECT stays", desk.part(0, 1), 70);
        Check.due("OBJECT is none", desk.set(0, 70, false), true);
        Check.due("no OBJECT", desk.run(0, 5), 11);
        Check.due("TLS stays", desk.run(1, 5), 0);
        Check.due("TLS is none", desk.set(1, 70, false), true);
        Check.due("no TLS", desk.run(1, 5), 11);
    }
}
