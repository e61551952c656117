/** Promise 14: find, and what told() says of it. */
public final class FindTest {
    public static void main(String[] args) {
        arguments();
        ranges();
        bases();
        endless();
        runs();
        Check.finish("FindTest");
    }

    private static int[] entry(long begin, long end, int... bytes) {
        return Check.join(Check.lowFirst(begin, 8), Check.lowFirst(end, 8), Check.lowFirst(bytes.length, 2), bytes);
    }

    private static int[] base(long base) {
        return Check.join(Check.lowFirst(-1, 8), Check.lowFirst(base, 8));
    }

    private static final int[] LAST = new int[16];

    private static void list(LocationDesk desk, int k, int[]... entries) {
        int[] bytes = Check.join(entries);
        Check.tape(desk, bytes);
        Check.due("list(" + k + ")", desk.list(k), bytes.length);
    }

    /** want: the address, or -1 for EMPTY. */
    private static void found(LocationDesk desk, String what, long base, long pc, long want) {
        Check.due(what, desk.find(0, base, pc, 100), 0);
        Check.due(what + ": told(0)", desk.told(0), 0);
        Check.due(what + ": told(1)", desk.told(1), -1);
        Check.due(what + ": parts", desk.parts(), 1);
        if (want < 0) {
            Check.due(what + ": EMPTY", desk.part(0, 0), 0);
            Check.due(what + ": steps", desk.told(2), 0);
            Check.due(what + ": most", desk.told(3), 0);
        } else {
            Check.due(what + ": ADDRESS", desk.part(0, 0), 1);
            Check.due(what + ": which", desk.part(0, 1), want);
            Check.due(what + ": steps", desk.told(2), 1);
            Check.due(what + ": most", desk.told(3), 1);
        }
    }

    private static void arguments() {
        LocationDesk desk = new LocationDesk();
        list(desk, 0, entry(0, 10, 0x35), LAST);
        int[] noSuch = {-1, 4, Integer.MIN_VALUE, Integer.MAX_VALUE};
        for (int k : noSuch) {
            Check.due("find(" + k + ")", desk.find(k, 0, 0, 5), -1);
        }
        int[] noFuel = {-1, 0, 1001, Integer.MIN_VALUE};
        for (int fuel : noFuel) {
            Check.due("fuel " + fuel, desk.find(0, 0, 0, fuel), -1);
        }
        Check.due("nothing told", desk.told(0), -1);
        Check.due("fuel 1", desk.find(0, 0, 0, 1), 0);
        Check.due("fuel 1000", desk.find(0, 0, 0, 1000), 0);
        list(desk, 3, entry(0, 10, 0x36), LAST);
        Check.due("list 3", desk.find(3, 0, 0, 1), 0);
        Check.due("6", desk.part(0, 1), 6);
        Check.due("a wrong k", desk.find(4, 0, 0, 1), -1);
        Check.due("the RESULT stays", desk.part(0, 1), 6);
        Check.due("none holds", desk.find(3, 0, 10, 1), 0);
        Check.due("EMPTY", desk.part(0, 0), 0);
    }

    private static void ranges() {
        LocationDesk desk = new LocationDesk();
        list(desk, 0, entry(10, 20, 0x31), entry(15, 30, 0x32), entry(40, 40, 0x33), entry(50, 45, 0x34), LAST);
        found(desk, "below", 0, 9, -1);
        found(desk, "the first", 0, 10, 1);
        found(desk, "the last", 0, 19, 1);
        found(desk, "of two the first", 0, 15, 1);
        found(desk, "the second", 0, 20, 2);
        found(desk, "its last", 0, 29, 2);
        found(desk, "its end", 0, 30, -1);
        found(desk, "an empty range", 0, 40, -1);
        found(desk, "a turned range", 0, 47, -1);
        found(desk, "without sign", 0, -1, -1);
        found(desk, "with a base", 1000, 1010, 1);
        found(desk, "with a base, below", 1000, 1009, -1);
        found(desk, "a base below 0 wraps", -5, 5, 1);
        list(desk, 0, entry(10, -2, 0x31), LAST);
        found(desk, "up to the highest", 0, -3, 1);
        found(desk, "its end", 0, -2, -1);
        found(desk, "across the sign", 0, Long.MIN_VALUE, 1);
        list(desk, 0, entry(0, 10, 0x31), LAST);
        found(desk, "begin 0 alone does not end it", 0, 5, 1);
        list(desk, 0, entry(10, 0, 0x31), entry(5, 6, 0x32), LAST);
        found(desk, "end 0 alone does not end it", 0, 5, 2);
        found(desk, "an end that wraps", -5, 5, 1);
        list(desk, 0, LAST, entry(0, 10, 0x31), LAST);
        found(desk, "behind the end", 0, 5, -1);
        list(desk, 0, LAST, new int[] {1, 2, 3});
        found(desk, "more bytes behind the end", 0, 5, -1);
    }

    private static void bases() {
        LocationDesk desk = new LocationDesk();
        list(desk, 0, entry(0, 10, 0x31), base(100), entry(0, 10, 0x32), base(0), entry(20, 30, 0x33), base(-1), entry(1, 2, 0x34), LAST);
        found(desk, "ahead", 1000, 1005, 1);
        found(desk, "base 100", 1000, 105, 2);
        found(desk, "base 0", 1000, 25, 3);
        found(desk, "base -1", 1000, 0, 4);
        found(desk, "its end", 1000, 1, -1);
        found(desk, "not by the first base", 1000, 1025, -1);
    }

    private static void fails(LocationDesk desk, String what, int place, long pc) {
        Check.due(what, desk.find(0, 0, pc, 100), 1);
        Check.due(what + ": told(0)", desk.told(0), 1);
        Check.due(what + ": told(1)", desk.told(1), place);
        Check.due(what + ": told(2)", desk.told(2), 0);
        Check.due(what + ": told(3)", desk.told(3), 0);
    }

    private static void endless() {
        LocationDesk desk = new LocationDesk();
        Check.expression(desk, 0, 0x37);
        desk.run(0, 5);
        fails(desk, "an empty list", 0, 5);
        int[] first = entry(0, 10, 0x35, 0x36);
        int[] whole = Check.join(first, LAST);
        for (int size = 1; size < whole.length; size++) {
            Check.tape(desk, java.util.Arrays.copyOf(whole, size));
            desk.list(0);
            fails(desk, "the first " + size, size < first.length ? 0 : first.length, 50);
        }
        Check.due("the RESULT stays", desk.part(0, 1), 7);
        LocationDesk other = new LocationDesk();
        list(other, 0, first);
        Check.due("the entry holds, though none is behind it", other.find(0, 0, 5, 9), 0);
        list(other, 0, base(7));
        fails(other, "behind a base", 16, 5);
        list(other, 0, Check.times(592, 255));
        fails(other, "37 bases and no more", 592, 5);
        list(other, 0, Check.times(576, 255), LAST);
        Check.due("36 bases and the end", other.find(0, 0, 5, 9), 0);
        list(other, 0, entry(0, 10));
        Check.due("an entry without bytes, and nothing behind it", other.find(0, 0, 5, 9), 0);
        list(other, 0, base(7), java.util.Arrays.copyOf(first, 17));
        fails(other, "behind a base", 16, 5);
        list(other, 0, java.util.Arrays.copyOf(first, first.length - 1));
        fails(other, "the entry that holds is cut", 0, 5);
        list(other, 0, Check.join(Check.lowFirst(0, 8), Check.lowFirst(10, 8), new int[] {255, 255}), Check.times(500, 150));
        fails(other, "65535 bytes", 0, 5);
        list(other, 0, entry(0, 10, Check.times(300, 150)), entry(20, 30, Check.times(200, 150)), LAST);
        Check.due("u2 above 255", other.find(0, 0, 25, 1000), 0);
        Check.due("its steps", other.told(2), 200);
    }

    private static void runs() {
        LocationDesk desk = new LocationDesk();
        list(desk, 0, entry(0, 10, 150, 150, 0), entry(10, 20, 47, 0xFD, 0xFF), entry(20, 30), entry(30, 40, 0x35, 47, 2, 0),
            entry(40, 50, 158, 2, 7, 8), entry(50, 60, 152, 3, 0), LAST);
        Check.due("a fault", desk.find(0, 0, 5, 50), 2);
        Check.due("its place from the entry's first byte on", desk.told(1), 2);
        Check.due("its steps", desk.told(2), 3);
        Check.due("for ever", desk.find(0, 0, 15, 50), 12);
        Check.due("steps", desk.told(2), 50);
        Check.due("no bytes", desk.find(0, 0, 25, 50), 0);
        Check.due("EMPTY", desk.part(0, 0), 0);
        Check.due("a jump out of the entry", desk.find(0, 0, 35, 50), 7);
        Check.due("its place", desk.told(1), 1);
        Check.due("a block", desk.find(0, 0, 45, 50), 0);
        Check.due("its bytes", desk.part(0, 1), 2);
        Check.due("byte 0", desk.part(0, 100), 7);
        Check.due("byte 1", desk.part(0, 101), 8);
        Check.due("byte 2", desk.part(0, 102), -1);
        list(desk, 0, LAST);
        Check.due("the block stays", desk.part(0, 101), 8);
        list(desk, 0, entry(0, 10, 0x35), entry(10, 20, 80, 147, 1, 0x35), LAST);
        Check.due("a fault at the entry's end", desk.find(0, 0, 15, 50), 13);
        Check.due("its place", desk.told(1), 4);
        list(desk, 0, entry(0, 10, 150, 16, 128), entry(10, 20, 150, 12, 1), entry(20, 30, 158, 5), entry(30, 40, 17), LAST);
        for (int pc = 5; pc < 40; pc += 10) {
            Check.due("operands do not end within the entry", desk.find(0, 0, pc, 50), 1);
            Check.due("their place", desk.told(1), pc < 20 ? 1 : 0);
        }
        list(desk, 0, entry(0, 10, 152, 3, 0, 34), LAST);
        Check.expression(desk, 3, 0x35, 0x36);
        Check.due("a call", desk.find(0, 0, 5, 50), 0);
        Check.due("11", desk.part(0, 1), 11);
        Check.due("one fuel less", desk.find(0, 0, 5, 3), 12);
        Check.due("place", desk.told(1), 3);
    }
}
