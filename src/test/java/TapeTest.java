/** Promises 1 to 5: a new object, feed, end, expression, list. */
public final class TapeTest {
    public static void main(String[] args) {
        newObject();
        feed();
        end();
        expression();
        list();
        Check.finish("TapeTest");
    }

    private static void newObject() {
        LocationDesk desk = new LocationDesk();
        Check.due("NONE", LocationDesk.NONE, -1);
        for (int r = 0; r < 32; r++) {
            Check.due("register " + r + " at first", desk.register(r), 0);
        }
        for (int a = 0; a < 4096; a += 31) {
            Check.due("peek " + a + " at first", desk.peek(a), 0);
        }
        Check.due("peek(4095) at first", desk.peek(4095), 0);
        for (int what = -1; what < 5; what++) {
            Check.due("told(" + what + ") at first", desk.told(what), -1);
        }
        Check.due("parts() at first", desk.parts(), 1);
        Check.due("part(0, 0) at first", desk.part(0, 0), 0);
        Check.due("out(0) at first", desk.out(0), -1);
        Check.due("variable(0, 0) at first", desk.variable(0, 0), -1);
        Check.due("end(0) at first", desk.end(0), 0);
        Check.due("end(1) at first", desk.end(1), -1);
        for (int k = 0; k < 16; k++) {
            Check.due("run(" + k + ") at first", desk.run(k, 1), 0);
        }
        for (int k = 0; k < 4; k++) {
            Check.due("find(" + k + ") at first", desk.find(k, 0, 0, 1), 1);
            Check.due("place of an empty list", desk.told(1), 0);
        }
        int[] asks = {151, 156};
        for (int ask : asks) {
            Check.expression(desk, 0, ask);
            Check.due("run of " + ask + " at first", desk.run(0, 5), 11);
        }
        Check.expression(desk, 0, 48, 155);
        Check.due("TLS at first", desk.run(0, 5), 11);
        Check.expression(desk, 0, 145, 0);
        Check.due("FRAME at first", desk.run(0, 5), 11);
    }

    private static void feed() {
        LocationDesk desk = new LocationDesk();
        Check.due("feed", desk.feed(0x9E0A0102, 0x03FF8005, 0x06070809, -1, 0), 20);
        Check.due("end(12)", desk.end(12), 12);
        Check.due("expression(0)", desk.expression(0), 12);
        Check.due("run", desk.run(0, 5), 0);
        int[] block = {1, 2, 3, 255, 128, 5, 6, 7, 8, 9};
        for (int i = 0; i < block.length; i++) {
            Check.due("fed byte " + i, desk.part(0, 100 + i), block[i]);
        }
        for (int i = 1; i <= 50; i++) {
            Check.due("feed " + i, desk.feed(i, i, i, i, i), 20 * i);
        }
        Check.due("a full tape", desk.feed(1, 2, 3, 4, 5), -1);
        Check.due("still 1000", desk.end(1000), 1000);
        Check.due("not 1001", desk.end(1001), -1);
        Check.due("end(981)", desk.end(981), 981);
        Check.due("no twenty fit", desk.feed(1, 2, 3, 4, 5), -1);
        Check.due("none came", desk.end(982), -1);
        Check.due("end(980)", desk.end(980), 980);
        Check.due("twenty fit", desk.feed(1, 2, 3, 4, 5), 1000);
    }

    private static void end() {
        LocationDesk desk = new LocationDesk();
        desk.feed(0x30313233, 0x34353637, 0, 0, 0);
        Check.due("end(-1)", desk.end(-1), -1);
        Check.due("end(21)", desk.end(21), -1);
        Check.due("end(MIN)", desk.end(Integer.MIN_VALUE), -1);
        Check.due("end(MAX)", desk.end(Integer.MAX_VALUE), -1);
        Check.due("end(20)", desk.end(20), 20);
        Check.due("end(3)", desk.end(3), 3);
        Check.due("end(4) behind it", desk.end(4), -1);
        Check.due("the first three", desk.expression(2), 3);
        desk.run(2, 10);
        Check.due("the third", desk.part(0, 1), 2);
        desk.feed(0x30313233, 0x34353637, 0, 0, 0);
        desk.end(1);
        Check.due("behind the first", desk.feed(0x35000000, 0, 0, 0, 0), 21);
        desk.end(2);
        desk.expression(2);
        desk.run(2, 10);
        Check.due("fed behind it", desk.part(0, 1), 5);
        Check.due("most", desk.told(3), 2);
    }

    private static void expression() {
        LocationDesk desk = new LocationDesk();
        Check.due("empty", desk.expression(0), 0);
        Check.tape(desk, 0x31);
        Check.due("expression(-1)", desk.expression(-1), -1);
        Check.due("expression(16)", desk.expression(16), -1);
        Check.due("the tape stays", desk.end(1), 1);
        Check.due("expression(15)", desk.expression(15), 1);
        Check.due("the tape is empty", desk.end(1), -1);
        desk.run(15, 5);
        Check.due("15 is told", desk.part(0, 1), 1);
        desk.run(14, 5);
        Check.due("14 is not", desk.part(0, 0), 0);
        Check.tape(desk, Check.times(601, 150));
        Check.due("601 bytes", desk.expression(15), -1);
        Check.due("nothing was done", desk.end(601), 601);
        desk.run(15, 5);
        Check.due("15 stays", desk.part(0, 1), 1);
        Check.due("end(600)", desk.end(600), 600);
        Check.due("600 bytes", desk.expression(15), 600);
        Check.due("run of 600", desk.run(15, 600), 0);
        Check.due("steps of 600", desk.told(2), 600);
        Check.due("empty again", desk.expression(15), 0);
        Check.due("run of none", desk.run(15, 1), 0);
        Check.due("steps of none", desk.told(2), 0);
    }

    private static void list() {
        LocationDesk desk = new LocationDesk();
        Check.tape(desk, Check.times(16, 0));
        Check.due("list(-1)", desk.list(-1), -1);
        Check.due("list(4)", desk.list(4), -1);
        Check.due("the tape stays", desk.end(16), 16);
        Check.due("list(3)", desk.list(3), 16);
        Check.due("the tape is empty", desk.end(1), -1);
        Check.due("find in 3", desk.find(3, 0, 0, 1), 0);
        Check.due("find in 2", desk.find(2, 0, 0, 1), 1);
        Check.tape(desk, Check.times(601, 1));
        Check.due("601 bytes", desk.list(3), -1);
        Check.due("3 stays", desk.find(3, 0, 0, 1), 0);
        Check.due("600 bytes", desk.end(600), 600);
        Check.due("list of 600", desk.list(3), 600);
        Check.due("find in 600 ones", desk.find(3, 0, 0, 1), 1);
        Check.due("expressions stay", desk.run(3, 1), 0);
    }
}
