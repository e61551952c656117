/** Promise 13 and 15: the faults of runs, which comes first, and where. */
public final class FaultTest {
    public static void main(String[] args) {
        codes();
        operands();
        held();
        registersAndWidths();
        pieces();
        tooFew();
        calls();
        notThere();
        memoryAndZero();
        targets();
        tooMany();
        fuel();
        atTheEnd();
        insideOfCallsAndFrames();
        order();
        Check.finish("FaultTest");
    }

    private static void fault(LocationDesk desk, String what, int fault, int place, int... bytes) {
        Check.expression(desk, 9, bytes);
        Check.due(what, desk.run(9, 1000), fault);
        Check.due(what + ": told(0)", desk.told(0), fault);
        Check.due(what + ": told(1)", desk.told(1), place);
    }

    private static void fault(String what, int fault, int place, int... bytes) {
        fault(new LocationDesk(), what, fault, place, bytes);
    }

    /** Which codes are told, written out as ranges. */
    private static boolean isTold(int code) {
        int[][] ranges = {{3, 3}, {6, 6}, {8, 23}, {25, 148}, {150, 153}, {155, 159}};
        for (int[] range : ranges) {
            if (code >= range[0] && code <= range[1]) {
                return true;
            }
        }
        return false;
    }

    private static void codes() {
        for (int code = 0; code < 256; code++) {
            LocationDesk desk = new LocationDesk();
            Check.expression(desk, 0, code, 1, 1, 1, 1, 1, 1, 1, 1, 1, 1);
            int got = desk.run(0, 1);
            boolean untold = got == 2;
            Check.due("code " + code + " is told", !untold, isTold(code));
            Check.due("step of code " + code, desk.told(2), 1);
        }
        fault("an untold code", 2, 1, 0x35, 0);
        fault("24", 2, 0, 24);
        fault("149", 2, 0, 149);
        fault("154", 2, 0, 154);
        fault("160", 2, 0, 160);
        fault("255", 2, 0, 255);
    }

    private static void operands() {
        int[][] sizes = {{3, 8}, {8, 1}, {9, 1}, {10, 2}, {11, 2}, {12, 4}, {13, 4}, {14, 8}, {15, 8}, {21, 1}, {40, 2}, {47, 2},
            {148, 1}, {152, 2}, {153, 4}};
        for (int[] size : sizes) {
            for (int n = 0; n < size[1]; n++) {
                fault("code " + size[0] + " with " + n, 1, 1, Check.join(new int[] {0x35, size[0]}, Check.times(n, 0)));
            }
        }
        int[] lebs = {16, 17, 35, 112, 143, 144, 145, 146, 147, 157, 158};
        for (int code : lebs) {
            fault("LEB of " + code + " has none", 1, 1, 0x35, code);
            fault("LEB of " + code + " does not end", 1, 1, 0x35, code, 128);
            fault("LEB of " + code + " has nine", 1, 1, Check.join(new int[] {0x35, code}, Check.times(9, 128)));
            fault("LEB of " + code + " has ten", 15, 1, Check.join(new int[] {0x35, code}, Check.times(10, 128)));
            fault("LEB of " + code + " has eleven", 15, 1, Check.join(new int[] {0x35, code}, Check.times(10, 255), new int[] {0}));
        }
        fault("146 without S", 1, 0, 146, 0);
        fault("157 without V", 1, 0, 157, 0);
        fault("146, S has ten", 15, 0, Check.join(new int[] {146, 0}, Check.times(10, 128)));
        fault("157, V has ten", 15, 0, Check.join(new int[] {157, 0}, Check.times(10, 128)));
        fault("158 with too few", 1, 0, 158, 3, 1, 2);
        fault("158 without sign", 1, 0, 158, 255, 255, 255, 255, 255, 255, 255, 255, 255, 1);
        fault("158 with enough", 0, -1, 158, 2, 1, 2);
    }

    private static void held() {
        int[][] holds = {{80}, {144, 3}, {0x35, 159}, {158, 1, 7}};
        for (int[] hold : holds) {
            for (int code = 0; code < 256; code++) {
                boolean free = code == 147 || code == 157 || code == 150 || code == 47 || code == 152 || code == 153;
                if (isTold(code) && !free) {
                    fault("code " + code + " with a hold", 9, hold.length,
                        Check.join(hold, new int[] {code, 1, 1, 1, 1, 1, 1, 1, 1}));
                }
            }
            fault("147 with a hold", 0, -1, Check.join(hold, new int[] {147, 1}));
            fault("157 with a hold", 0, -1, Check.join(hold, new int[] {157, 1, 1}));
            fault("152 with a hold", 0, -1, Check.join(hold, new int[] {152, 1, 0}));
            fault("153 with a hold", 0, -1, Check.join(hold, new int[] {153, 1, 0, 0, 0}));
        }
        fault("behind a piece", 0, -1, 80, 147, 1, 81, 147, 1);
    }

    private static void registersAndWidths() {
        fault("144 of 32", 14, 0, 144, 32);
        fault("144 of -1", 14, 0, 144, 255, 255, 255, 255, 255, 255, 255, 255, 255, 1);
        fault("144 of 2^32", 14, 0, 144, 128, 128, 128, 128, 16);
        fault("146 of 32", 14, 0, 146, 32, 0);
        fault("146 of 31", 0, -1, 146, 31, 0);
        fault("148 of 0", 10, 1, 0x35, 148, 0);
        fault("148 of 9", 10, 1, 0x35, 148, 9);
        fault("148 of 255", 10, 1, 0x35, 148, 255);
        fault("148 of 8", 0, -1, 0x35, 148, 8);
    }

    private static void pieces() {
        int[] minusOne = {255, 255, 255, 255, 255, 255, 255, 255, 255, 1};
        fault("the 17th piece", 13, 32, Check.times(17, 147, 0));
        fault("16 pieces", 0, -1, Check.times(16, 147, 0));
        fault("147 of 513", 13, 0, 147, 129, 4);
        fault("147 of 512", 0, -1, 147, 128, 4);
        fault("147 of -1", 13, 0, Check.join(new int[] {147}, minusOne));
        fault("147 of 2^61", 13, 0, 147, 128, 128, 128, 128, 128, 128, 128, 128, 32);
        fault("157 of 4097", 13, 0, 157, 129, 32, 0);
        fault("157 from 4097 on", 13, 0, 157, 0, 129, 32);
        fault("157 of -1", 13, 0, Check.join(new int[] {157}, minusOne, new int[] {0}));
        fault("157 from -1 on", 13, 0, Check.join(new int[] {157, 0}, minusOne));
        fault("4097 bits in all", 13, 3, 147, 128, 4, 157, 1, 0);
        fault("4096 bits in all", 0, -1, 157, 255, 31, 0, 157, 1, 0);
        fault("4096 bits and 0 more", 0, -1, 147, 128, 4, 147, 0);
    }

    private static void tooFew() {
        int[] one = {6, 18, 19, 25, 31, 32, 155, 159};
        for (int code : one) {
            fault("code " + code + " of none", 3, 1, 150, code);
        }
        fault("35 of none", 3, 0, 35, 1);
        fault("40 of none", 3, 0, 40, 0, 0);
        fault("148 of none", 3, 0, 148, 1);
        int[] two = {20, 22, 26, 27, 28, 29, 30, 33, 34, 36, 37, 38, 39, 41, 42, 43, 44, 45, 46};
        for (int code : two) {
            fault("code " + code + " of none", 3, 0, code);
            fault("code " + code + " of one", 3, 1, 0x35, code);
            fault("code " + code + " of two", 0, -1, 0x35, 0x35, code);
        }
        fault("23 of two", 3, 2, 0x35, 0x35, 23);
        fault("23 of three", 0, -1, 0x35, 0x35, 0x35, 23);
        fault("21 0 of none", 3, 0, 21, 0);
        fault("21 1 of one", 3, 1, 0x35, 21, 1);
        fault("21 255", 3, 128, Check.join(Check.times(128, 0x35), new int[] {21, 255}));
        fault("21 128", 3, 128, Check.join(Check.times(128, 0x35), new int[] {21, 128}));
    }

    private static void calls() {
        fault("152 of 16", 8, 1, 0x35, 152, 16, 0);
        fault("152 of 65535", 8, 0, 152, 255, 255);
        fault("152 of 256", 8, 0, 152, 0, 1);
        fault("152 of 15", 0, -1, 152, 15, 0);
        fault("153 of 16", 8, 0, 153, 16, 0, 0, 0);
        fault("153 of 2^32 - 1", 8, 0, 153, 255, 255, 255, 255);
        fault("153 of 2^31", 8, 0, 153, 0, 0, 0, 128);
        fault("itself", 8, 1, 150, 152, 9, 0);
        LocationDesk desk = new LocationDesk();
        desk.frame(1);
        Check.expression(desk, 1, 152, 2, 0);
        Check.expression(desk, 2, 0x35);
        for (int k = 3; k < 9; k++) {
            Check.expression(desk, k, 152, k + 1, 0);
        }
        fault(desk, "145, a call in the FRAME", 0, -1, 145, 0);
        Check.due("run(3): six calls around", desk.run(3, 50), 0);
        Check.expression(desk, 10, 152, 3, 0);
        Check.due("seven calls around", desk.run(10, 50), 0);
        Check.expression(desk, 11, 152, 10, 0);
        Check.due("eight calls around, one in the FRAME", desk.run(11, 50), 8);
        Check.due("place", desk.told(1), 0);
        Check.expression(desk, 1, 0x35);
        Check.due("eight calls around, none in the FRAME", desk.run(11, 50), 0);
    }

    private static void notThere() {
        fault("no OBJECT", 11, 1, 0x35, 151);
        fault("no TLS", 11, 1, 0x35, 155);
        fault("no CFA", 11, 1, 0x35, 156);
        fault("no FRAME", 11, 1, 0x35, 145, 0);
        LocationDesk desk = new LocationDesk();
        desk.frame(1);
        fault(desk, "an EMPTY BASE", 11, 1, 0x35, 145, 0);
        Check.due("steps", desk.told(2), 2);
        Check.expression(desk, 1, 158, 1, 7);
        fault(desk, "a BLOCK as BASE", 11, 0, 145, 0);
        Check.expression(desk, 1, 80, 147, 8);
        fault(desk, "a piece as BASE", 11, 0, 145, 0);
        Check.expression(desk, 1, 145, 0);
        fault(desk, "145 in a FRAME", 11, 0, 145, 0);
        Check.due("its steps", desk.told(2), 2);
        Check.expression(desk, 1, 152, 2, 0);
        Check.expression(desk, 2, 145, 0);
        fault(desk, "145 in a call in a FRAME", 11, 0, 145, 0);
        Check.due("run of the FRAME's own bytes", desk.run(1, 50), 11);
    }

    private static void memoryAndZero() {
        fault("6 at 4088", 0, -1, 10, 0xF8, 0x0F, 6);
        fault("6 at 4089", 5, 3, 10, 0xF9, 0x0F, 6);
        fault("148 1 at 4095", 0, -1, 10, 0xFF, 0x0F, 148, 1);
        fault("148 1 at 4096", 5, 3, 10, 0, 0x10, 148, 1);
        fault("148 2 at 4095", 5, 3, 10, 0xFF, 0x0F, 148, 2);
        fault("6 at -1", 5, 2, 9, 255, 6);
        fault("6 at -8", 5, 2, 9, 248, 6);
        fault("148 1 at the greatest", 5, 9, 14, 255, 255, 255, 255, 255, 255, 255, 127, 148, 8);
        fault("148 1 at the least", 5, 9, 14, 0, 0, 0, 0, 0, 0, 0, 128, 148, 1);
        fault("27 by 0", 6, 2, 0x35, 0x30, 27);
        fault("29 by 0", 6, 2, 0x35, 0x30, 29);
        fault("0 by 5", 0, -1, 0x30, 0x35, 27);
    }

    private static void targets() {
        fault("47 to the end", 0, -1, 47, 0, 0);
        fault("47 behind the end", 7, 0, 47, 1, 0);
        fault("47 below 0", 7, 1, 150, 47, 0xFB, 0xFF);
        fault("47 to 0, for ever", 12, 0, 150, 47, 0xFC, 0xFF);
        fault("47 far", 7, 0, 47, 255, 127);
        fault("47 far back", 7, 0, 47, 0, 128);
        fault("40 behind the end", 7, 1, 0x31, 40, 1, 0);
        fault("40 below 0", 7, 1, 0x31, 40, 0xFB, 0xFF);
        fault("40 of 0", 0, -1, 0x30, 40, 1, 0);
        LocationDesk desk = new LocationDesk();
        Check.expression(desk, 1, 47, 1, 0);
        fault(desk, "47 out of a call", 7, 1, 0x35, 152, 1, 0, 150, 150);
        Check.expression(desk, 1, 150, 47, 0xFB, 0xFF);
        fault(desk, "47 out of a call, back", 7, 2, 150, 150, 152, 1, 0);
    }

    private static void tooMany() {
        int[] full = Check.times(128, 0x35);
        fault("128 numbers", 0, -1, full);
        int[][] pushes = {{0x35}, {8, 1}, {18}, {20}, {21, 0}, {112, 0}, {146, 1, 1}, {16, 1}, {17, 1}, {3, 0, 0, 0, 0, 0, 0, 0, 0}};
        for (int[] push : pushes) {
            fault("a 129th number by " + push[0], 4, 128, Check.join(full, push));
        }
        LocationDesk desk = new LocationDesk();
        fault(desk, "11 ahead of 4", 11, 128, Check.join(full, new int[] {151}));
        desk.set(0, 1, true);
        desk.cfa(1, 1);
        desk.frame(1);
        Check.expression(desk, 1, 0x35);
        fault(desk, "OBJECT", 4, 128, Check.join(full, new int[] {151}));
        fault(desk, "CFA", 4, 128, Check.join(full, new int[] {156}));
        fault(desk, "FRAME", 4, 128, Check.join(full, new int[] {145, 0}));
        Check.due("steps of both", desk.told(2), 130);
        Check.due("most", desk.told(3), 128);
        fault(desk, "taken and pushed again", 0, -1, Check.join(full, new int[] {31, 31, 148, 1, 34}));
        Check.expression(desk, 1, Check.times(129, 0x35));
        fault(desk, "in a FRAME", 4, 1, 0x35, 145, 0);
        Check.due("most of a FRAME", desk.told(3), 128);
    }

    private static void fuel() {
        LocationDesk desk = new LocationDesk();
        Check.expression(desk, 0, 0x35, 0x36, 34);
        Check.due("just enough", desk.run(0, 3), 0);
        Check.due("steps", desk.told(2), 3);
        Check.due("no place", desk.told(1), -1);
        Check.due("one less", desk.run(0, 2), 12);
        Check.due("place", desk.told(1), 2);
        Check.due("steps", desk.told(2), 2);
        Check.due("most", desk.told(3), 2);
        Check.expression(desk, 0, 0x35, 0);
        Check.due("no fuel ahead of no code", desk.run(0, 1), 12);
        Check.due("a fault takes fuel", desk.run(0, 2), 2);
        Check.due("steps", desk.told(2), 2);
        Check.expression(desk, 1, 0x31, 0x32);
        Check.expression(desk, 0, 0x35, 152, 1, 0, 0x36);
        Check.due("a call takes one", desk.run(0, 5), 0);
        Check.due("fuel ends behind the call", desk.run(0, 4), 12);
        Check.due("place", desk.told(1), 4);
        Check.due("fuel ends in the call", desk.run(0, 3), 12);
        Check.due("place", desk.told(1), 1);
        Check.due("steps", desk.told(2), 3);
        Check.due("fuel ends at the call's first", desk.run(0, 2), 12);
        Check.due("place", desk.told(1), 1);
        Check.due("fuel ends at the call", desk.run(0, 1), 12);
        Check.due("place", desk.told(1), 1);
        desk.frame(1);
        Check.expression(desk, 0, 0x35, 145, 0, 34);
        Check.due("a FRAME takes its own", desk.run(0, 5), 0);
        Check.due("steps", desk.told(2), 5);
        Check.due("fuel ends behind the FRAME", desk.run(0, 4), 12);
        Check.due("place", desk.told(1), 3);
        Check.due("fuel ends in the FRAME", desk.run(0, 3), 12);
        Check.due("place", desk.told(1), 1);
        Check.due("steps", desk.told(2), 3);
    }

    private static void atTheEnd() {
        fault("pieces and a number", 13, 4, 80, 147, 1, 0x35);
        fault("pieces and a hold", 13, 4, 80, 147, 1, 80);
        fault("pieces and a number that goes", 0, -1, 80, 147, 1, 0x35, 19);
        fault("a piece of no bits and a number", 13, 3, 147, 0, 0x35);
        LocationDesk desk = new LocationDesk();
        Check.expression(desk, 1, 147, 1, 0x35);
        fault(desk, "behind a call", 13, 3, 152, 1, 0);
        fault(desk, "a call may leave it", 0, -1, 152, 1, 0, 147, 1);
        desk.frame(1);
        fault(desk, "in a FRAME: at the 145", 13, 1, 150, 145, 0, 150);
    }

    private static void insideOfCallsAndFrames() {
        LocationDesk desk = new LocationDesk();
        Check.expression(desk, 1, 150, 150, 0);
        Check.expression(desk, 2, 150, 152, 1, 0);
        Check.expression(desk, 3, 150, 145, 0);
        fault(desk, "in a call", 2, 3, 150, 150, 150, 152, 1, 0);
        fault(desk, "in two calls", 2, 2, 150, 150, 152, 2, 0);
        desk.frame(1);
        fault(desk, "in a FRAME", 2, 4, 150, 150, 150, 150, 145, 0);
        Check.due("its steps", desk.told(2), 8);
        fault(desk, "in a FRAME in a call", 2, 1, 150, 152, 3, 0);
        desk.frame(2);
        fault(desk, "in a call in a FRAME in a call", 2, 2, 150, 150, 152, 3, 0);
        Check.expression(desk, 1, 12, 0);
        fault(desk, "operands do not end in a call, though bytes follow it", 1, 0, 152, 1, 0, 0, 0, 0, 0);
    }

    private static void order() {
        fault("2 ahead of 9", 2, 1, 80, 0);
        fault("1 ahead of 9", 1, 1, 80, 8);
        fault("15 ahead of 9", 15, 1, Check.join(new int[] {80, 16}, Check.times(10, 255)));
        fault("1 ahead of 3", 1, 0, 148);
        fault("9 ahead of 14", 9, 1, 80, 144, 32);
        fault("9 ahead of 10", 9, 1, 80, 148, 0);
        fault("9 ahead of 3", 9, 1, 80, 34);
        fault("10 ahead of 3", 10, 0, 148, 0);
        fault("14 ahead of 4", 14, 128, Check.join(Check.times(128, 0x35), new int[] {146, 32, 0}));
        fault("3 ahead of 11", 3, 0, 155);
        fault("3 ahead of 7", 3, 0, 40, 255, 127);
        fault("3 ahead of 6", 3, 1, 0x30, 27);
        fault("15 of 157's U ahead of the missing V", 15, 0, Check.join(new int[] {157}, Check.times(10, 255)));
        fault("1 of 146 ahead of 14", 1, 0, 146, 32);
        fault("1 of 157 ahead of 13", 1, 0, 157, 129, 32);
        LocationDesk desk = new LocationDesk();
        Check.expression(desk, 0, Check.join(Check.times(16, 147, 0), new int[] {80, 147, 0}));
        Check.due("17th piece with a hold", desk.run(0, 50), 13);
        Check.due("fuel ahead of it", desk.run(0, 17), 12);
    }
}
