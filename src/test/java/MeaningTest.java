/** Promises 23 and 24: where and means, alone and against one another. */
public final class MeaningTest {
    private static final long MIN = Long.MIN_VALUE;

    public static void main(String[] args) {
        arguments();
        values();
        faults();
        bases();
        places();
        rows();
        resultsStay();
        deepest();
        Check.finish("MeaningTest");
    }

    private static LocationDesk desk() {
        LocationDesk desk = new LocationDesk();
        desk.load(1, 100);
        desk.load(2, -7);
        desk.load(31, MIN);
        for (int i = 0; i < 8; i++) {
            desk.poke(100 + i, 0xF1 + i);
        }
        desk.cfa(1, 16);
        desk.set(0, 77, true);
        desk.set(1, 1000, true);
        Check.expression(desk, 5, 0x3F, 0x3F, 30);
        desk.frame(5);
        return desk;
    }

    private static void arguments() {
        LocationDesk desk = desk();
        Check.compile(desk, "x=reg 3;y=1..2:reg 4;");
        int[] none = {-1, 2, Integer.MIN_VALUE, Integer.MAX_VALUE};
        for (int i : none) {
            Check.due("where(" + i + ")", desk.where(i, 1, 5), -1);
            Check.due("means(" + i + ")", desk.means(i, 1), -1);
        }
        int[] noFuel = {-1, 0, 1001, Integer.MIN_VALUE, Integer.MAX_VALUE};
        for (int fuel : noFuel) {
            Check.due("fuel " + fuel, desk.where(0, 1, fuel), -1);
            Check.due("fuel " + fuel, desk.where(1, 1, fuel), -1);
        }
        Check.due("no RESULT yet", desk.part(0, 0), 0);
        Check.due("compile() was the latest", desk.told(2), 0);
        Check.due("where(0)", desk.where(0, 1, 1), 0);
        Check.due("reg 3", desk.part(0, 1), 3);
        Check.due("steps", desk.told(2), 1);
        Check.due("where(1)", desk.where(1, 1, 1000), 0);
        Check.due("reg 4", desk.part(0, 1), 4);
        Check.due("means(0)", desk.means(0, 1), 0);
        Check.due("reg 3", desk.part(0, 1), 3);
        Check.due("steps", desk.told(2), 0);
    }

    private static void value(String e, long want) {
        LocationDesk desk = desk();
        Check.due("compile " + e, Check.compile(desk, "x=value " + e + ";"), 1);
        Check.due("means " + e, desk.means(0, 0), 0);
        Check.due(e + " means a number", desk.part(0, 0), 3);
        Check.due(e + " means", desk.part(0, 1), want);
        Check.due("empty", desk.run(0, 1), 0);
        Check.due("where " + e, desk.where(0, 0, 1000), 0);
        Check.due(e + " is a number", desk.part(0, 0), 3);
        Check.due(e + " is", desk.part(0, 1), want);
    }

    private static void values() {
        value("5", 5);
        value("999999999999999999", 999999999999999999L);
        value("%1", 100);
        value("%31-1", Long.MAX_VALUE);
        value("%1-101", -1);
        value("fb", 225);
        value("fb-225", 0);
        value("cfa", 116);
        value("obj", 77);
        value("tls 5", 1005);
        value("tls-1", 999);
        value("@1 %1", 0xF1);
        value("@2 %1", 0xF2F1);
        value("@4 %1", 0xF4F3F2F1L);
        value("@7 %1", 0xF7F6F5F4F3F2F1L);
        value("@8 %1", 0xF8F7F6F5F4F3F2F1L);
        value("@8 4088", 0);
        value("@1 4095", 0);
        value("-5", -5);
        value("~5", -6);
        value("-%31", MIN);
        value("1+2*3", 7);
        value("(1+2)*3", 9);
        value("10-3-2", 5);
        value("10-(3-2)", 9);
        value("%2 div 2", -3);
        value("7 div -2", -3);
        value("%31 div -1", MIN);
        value("%2 mod 10", Long.remainderUnsigned(-7, 10));
        value("7 mod -2", 7);
        value("-1 mod -2", 1);
        value("100 div 5 div 2", 10);
        value("100 mod 7*3", 6);
        value("1<<4", 16);
        value("1<<64", 0);
        value("1<<-1", 0);
        value("-16>>2", -4);
        value("-16>>>60", 15);
        value("-16>>64", -1);
        value("-16>>-1", -1);
        value("16>>64", 0);
        value("-16>>>64", 0);
        value("1<<2<<3", 32);
        value("3==3", 1);
        value("3!=3", 0);
        value("-1<0", 1);
        value("0<=0", 1);
        value("-1>0", 0);
        value("0>=1", 0);
        value("12&10", 8);
        value("12^10", 6);
        value("12|10", 14);
        value("1|2^3&1", 3);
        value("1+1==2&1", 1);
        value("1?2:3", 2);
        value("0?2:3", 3);
        value("-1?2:3", 2);
        value("0?2:0?4:5", 5);
        value("0?2:1?4:5", 4);
        value("1?0?6:7:5", 7);
        value("1?2:1 div 0", 2);
        value("0?@8 5000:3", 3);
        value("(0?1:2)+(1?3:4)", 5);
        value("1<2?%1+1:0", 101);
        value("%1+5-6+7", 106);
        value("%1-5+6-7", 94);
    }

    private static void fault(LocationDesk desk, String e, int fault) {
        Check.due("compile " + e, Check.compile(desk, "x=value " + e + ";"), 1);
        Check.due("means " + e, desk.means(0, 0), fault);
        Check.due(e + ": told(0)", desk.told(0), fault);
        Check.due(e + ": told(1)", desk.told(1), 0);
        Check.due("where " + e, desk.where(0, 0, 1000), fault);
        Check.due(e + ": told(0)", desk.told(0), fault);
    }

    private static void faults() {
        LocationDesk desk = desk();
        fault(desk, "@8 4089", 5);
        fault(desk, "@1 4096", 5);
        fault(desk, "@1-1", 5);
        fault(desk, "@2 4095", 5);
        fault(desk, "1 div 0", 6);
        fault(desk, "1 mod 0", 6);
        fault(desk, "1 div(5-5)", 6);
        fault(desk, "1 div 0+@8 5000", 6);
        fault(desk, "@8 5000+1 div 0", 5);
        fault(desk, "0*(1 div 0)", 6);
        fault(desk, "1 div 0?2:3", 6);
        fault(desk, "1?1 div 0:3", 6);
        fault(desk, "0?3:@8 5000", 5);
        fault(desk, "@8 5000 mod 0", 5);
        desk = new LocationDesk();
        fault(desk, "cfa", 11);
        fault(desk, "obj", 11);
        fault(desk, "tls 5", 11);
        fault(desk, "tls(1 div 0)", 6);
        fault(desk, "fb", 11);
        fault(desk, "fb+5", 11);
        fault(desk, "1 div 0+obj", 6);
        fault(desk, "obj+1 div 0", 11);
    }

    private static void bases() {
        LocationDesk desk = desk();
        Check.expression(desk, 5, 0);
        fault(desk, "fb", 2);
        Check.expression(desk, 5, 34);
        fault(desk, "1+fb*2", 3);
        Check.expression(desk, 5);
        fault(desk, "fb", 11);
        Check.expression(desk, 5, 145, 0);
        fault(desk, "fb", 11);
        Check.expression(desk, 5, 158, 0);
        fault(desk, "fb", 11);
        Check.expression(desk, 5, 80, 147, 1);
        fault(desk, "fb", 11);
        Check.expression(desk, 5, 80, 147, 1, 0x35);
        fault(desk, "fb", 13);
        Check.expression(desk, 5, 47, 0xFD, 0xFF);
        fault(desk, "fb", 12);
        Check.expression(desk, 5, Check.times(129, 0x35));
        fault(desk, "fb", 4);
        for (int k = 6; k < 14; k++) {
            Check.expression(desk, k, 152, k + 1, 0);
        }
        Check.expression(desk, 14, 0x37);
        Check.expression(desk, 5, 152, 7, 0);
        Check.compile(desk, "x=[fb+1];");
        Check.due("eight calls in a FRAME", desk.means(0, 0), 0);
        Check.due("8", desk.part(0, 1), 8);
        Check.due("where() too", desk.where(0, 0, 50), 0);
        Check.expression(desk, 5, 152, 6, 0);
        Check.due("nine calls in a FRAME", desk.means(0, 0), 8);
        Check.due("where() too", desk.where(0, 0, 50), 8);
        Check.expression(desk, 5, 81);
        Check.due("of a register", desk.means(0, 0), 0);
        Check.due("101", desk.part(0, 1), 101);
        Check.expression(desk, 5, 0x35, 159);
        Check.due("of a number", desk.means(0, 0), 0);
        Check.due("6", desk.part(0, 1), 6);
        // 2 and 249 rounds of 4 steps: 998 steps
        Check.expression(desk, 5, 8, 249, 150, 49, 28, 18, 40, 0xFA, 0xFF);
        Check.compile(desk, "x=value fb+fb;");
        Check.due("each fb has fuel 1000", desk.means(0, 0), 0);
        Check.due("where() has it once", desk.where(0, 0, 1000), 12);
        Check.expression(desk, 5, 150, 150, 8, 249, 150, 49, 28, 18, 40, 0xFA, 0xFF);
        Check.due("fb of 1000 steps", desk.means(0, 0), 0);
        Check.expression(desk, 5, 150, 150, 150, 8, 249, 150, 49, 28, 18, 40, 0xFA, 0xFF);
        Check.due("fb of 1001 steps", desk.means(0, 0), 12);
        Check.expression(desk, 5, 8, 249, 150, 49, 28, 18, 40, 0xFA, 0xFF);
        Check.compile(desk, "x=value fb;");
        Check.due("where() with just enough", desk.where(0, 0, 1000), 0);
        Check.due("its steps", desk.told(2), 1000);
        Check.due("one less", desk.where(0, 0, 999), 12);
        Check.due("behind the 145", desk.told(1), 2);
    }

    private static void partIs(LocationDesk desk, int i, long kind, long number, long bits) {
        Check.due("kind of " + i, desk.part(i, 0), kind);
        Check.due("number of " + i, desk.part(i, 1), number);
        Check.due("bits of " + i, desk.part(i, 2), bits);
        Check.due("first bit of " + i, desk.part(i, 3), 0);
    }

    private static int say(LocationDesk desk, boolean byMeaning, int i, long pc) {
        return byMeaning ? desk.means(i, pc) : desk.where(i, pc, 1000);
    }

    private static void places() {
        LocationDesk desk = desk();
        Check.compile(desk, "a=reg 31;b=[%1+1];c=value 5;d=bytes 7 8 9;e=none;f={reg 1/4,[fb]/0,value 6/64,bytes 1 2/3,none/2};"
            + "g={reg 5/8};h={none/0};");
        for (int round = 0; round < 2; round++) {
            boolean meaning = round == 0;
            Check.due("a", say(desk, meaning, 0, 0), 0);
            partIs(desk, 0, 2, 31, 0);
            Check.due("b", say(desk, meaning, 1, 0), 0);
            partIs(desk, 0, 1, 101, 0);
            Check.due("fetch", desk.fetch(8), 8);
            Check.due("out", desk.out(0), 0xF2);
            Check.due("c", say(desk, meaning, 2, 0), 0);
            partIs(desk, 0, 3, 5, 0);
            Check.due("d", say(desk, meaning, 3, 0), 0);
            partIs(desk, 0, 4, 3, 0);
            Check.due("byte 2", desk.part(0, 102), 9);
            Check.due("byte 3", desk.part(0, 103), -1);
            Check.due("e", say(desk, meaning, 4, 0), 0);
            partIs(desk, 0, 0, 0, 0);
            Check.due("one", desk.parts(), 1);
            Check.due("f", say(desk, meaning, 5, 0), 0);
            Check.due("five", desk.parts(), 5);
            partIs(desk, 0, 2, 1, 32);
            partIs(desk, 1, 1, 225, 0);
            partIs(desk, 2, 3, 6, 512);
            partIs(desk, 3, 4, 2, 24);
            Check.due("byte 1", desk.part(3, 101), 2);
            partIs(desk, 4, 0, 0, 16);
            Check.due("g", say(desk, meaning, 6, 0), 0);
            Check.due("one", desk.parts(), 1);
            partIs(desk, 0, 2, 5, 64);
            Check.due("h", say(desk, meaning, 7, 0), 0);
            partIs(desk, 0, 0, 0, 0);
        }
        Check.compile(desk, "x={" + "[1]/64,".repeat(7) + "[2]/64};");
        Check.due("4096 bits", desk.where(0, 0, 100), 0);
        Check.due("eight", desk.parts(), 8);
        Check.due("4096 bits", desk.means(0, 0), 0);
        Check.due("eight", desk.parts(), 8);
        partIs(desk, 7, 1, 2, 512);
    }

    private static void rows() {
        LocationDesk desk = desk();
        Check.compile(desk, "x=10..20:reg 1,15..30:[%1],40..50:value 1 div 0,0..999999999999999999:none,5..6:reg 9;");
        long[][] want = {{9, 0, 0}, {10, 2, 1}, {19, 2, 1}, {20, 1, 100}, {29, 1, 100}, {30, 0, 0}, {-1, 0, 0}, {MIN, 0, 0}, {5, 0, 0}};
        for (long[] w : want) {
            for (int round = 0; round < 2; round++) {
                desk.where(0, 10, 5);
                Check.due("pc " + w[0], say(desk, round == 0, 0, w[0]), 0);
                partIs(desk, 0, w[1], w[2], 0);
            }
        }
        Check.due("means 45", desk.means(0, 45), 6);
        Check.due("place", desk.told(1), 0);
        Check.due("where 45", desk.where(0, 45, 5), 6);
        Check.due("place, from the entry's first byte on", desk.told(1), 2);
        Check.due("steps", desk.told(2), 3);
        Check.due("no row: where", desk.where(0, -5, 5), 0);
        Check.due("no run", desk.told(2), 0);
        Check.due("a list of its own", desk.find(0, 0, 10, 5), 1);
    }

    private static void resultsStay() {
        LocationDesk desk = desk();
        Check.compile(desk, "x={reg 1/1,[1 div 0]/1};y=bytes 5 6;z=[1 div 0];");
        desk.means(1, 0);
        Check.due("a fault in the second part", desk.means(0, 0), 6);
        partIs(desk, 0, 4, 2, 0);
        Check.due("a fault in the second part", desk.where(0, 0, 50), 6);
        partIs(desk, 0, 4, 2, 0);
        Check.due("a fault", desk.means(2, 0), 6);
        partIs(desk, 0, 4, 2, 0);
        Check.compile(desk, "q=none;");
        Check.due("the block outlives its text", desk.part(0, 101), 6);
        desk.poke(7, 9);
        Check.compile(desk, "q=[%1];p=value %1;");
        desk.means(0, 0);
        desk.load(1, 7);
        Check.due("the address stays", desk.part(0, 1), 100);
        desk.means(1, 0);
        Check.due("as it is now", desk.part(0, 1), 7);
        Check.tape(desk, 0x33);
        desk.means(0, 0);
        Check.due("store by what it means", desk.store(8), 8);
        Check.due("stored", desk.peek(7), 0x33);
    }

    /** All levels in all brackets that may be open: the deepest tree, and the most on a stack. */
    private static void deepest() {
        LocationDesk desk = desk();
        String levels = "1|1^1&1==1<<1+1*";
        Check.due("compile", Check.compile(desk, "x=value " + (levels + "(").repeat(12) + levels + "fb" + ")".repeat(12) + ";"), 1);
        Check.due("means", desk.means(0, 0), 0);
        long meant = desk.part(0, 1);
        Check.due("where", desk.where(0, 0, 1000), 0);
        Check.due("the same", desk.part(0, 1), meant);
        Check.due("most", desk.told(3), 13 * 7 + 1);
        Check.due("compile", Check.compile(desk, "x=value 1" + "-1".repeat(70) + "*1".repeat(70) + ";"), 1);
        Check.due("a long chain", desk.means(0, 0), 0);
        Check.due("means", desk.part(0, 1), 1 - 70);
    }
}
