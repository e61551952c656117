import java.util.Random;

/** Many calls with made-up bytes and texts, the same ones each time: nothing throws, and what two ways tell is the same. */
public final class FuzzTest {
    private static final String[] SCRAPS = {"x", "y1", "abcdefgh", "=", ";", ",", ":", "..", "{", "}", "[", "]", "(", ")", "/", "%", "?",
        "|", "^", "&", "==", "!=", "<", "<=", ">", ">=", "<<", ">>", ">>>", "+", "-", "*", "~", "@1 ", "@8 ", "@", "1", "31", "32", "64",
        "65", "255", "256", "999999999999999999", "1234567890123456789", " reg ", " value ", " bytes ", " none ", " fb ", " cfa ",
        " obj ", " tls ", " div ", " mod ", " ", "\n", "!", ".", "X", "\t", "x=none;", "y=[", "1..2:", "reg 1/2,"};
    private static final String[] TWO = {"|", "^", "&", "==", "!=", "<", "<=", ">", ">=", "<<", ">>", ">>>", "+", "-", "+", "-", "*", " div ",
        " mod "};

    public static void main(String[] args) {
        bytes();
        calls();
        scraps();
        whereAndMeans();
        Check.finish("FuzzTest");
    }

    private static final int[] LIKELY = {48, 49, 52, 8, 10, 16, 17, 18, 19, 20, 21, 22, 23, 34, 28, 30, 31, 35, 40, 47, 80, 112, 144, 145, 146,
        147, 148, 150, 151, 152, 153, 155, 156, 157, 158, 159, 1, 0, 255, 2, 3};

    private static int[] someBytes(Random random, int most) {
        int[] bytes = new int[random.nextInt(most + 1)];
        for (int i = 0; i < bytes.length; i++) {
            bytes[i] = random.nextInt(3) == 0 ? random.nextInt(256) : LIKELY[random.nextInt(LIKELY.length)];
        }
        return bytes;
    }

    private static void bytes() {
        Random random = new Random(1);
        for (int round = 0; round < 5000; round++) {
            LocationDesk desk = new LocationDesk();
            for (int k = 0; k < 4; k++) {
                Check.tape(desk, someBytes(random, 30));
                desk.expression(k);
            }
            desk.frame(random.nextInt(5) - 1);
            desk.cfa(random.nextInt(3) - 1, random.nextLong());
            desk.set(0, random.nextInt(5000), random.nextBoolean());
            desk.set(1, random.nextLong(), random.nextBoolean());
            for (int k = 0; k < 2; k++) {
                int fuel = 1 + random.nextInt(1000);
                int fault = desk.run(k, fuel);
                Check.due("a fault that is told", fault >= 0 && fault <= 15, true);
                Check.due("told(0)", desk.told(0), fault);
                Check.due("a place with a fault alone", desk.told(1) >= 0, fault != 0);
                Check.due("steps", desk.told(2) <= fuel, true);
                Check.due("most", desk.told(3) >= 0 && desk.told(3) <= 128, true);
                Check.due("parts", desk.parts() >= 1 && desk.parts() <= 16, true);
                int there = desk.fetch(512);
                Check.due("fetched", there >= 0 && there <= 512, true);
                again(desk, there);
            }
        }
    }

    /** What was fetched and is stored again changes nothing. */
    private static void again(LocationDesk desk, int there) {
        int[] first = new int[64];
        for (int i = 0; i < 64; i++) {
            first[i] = desk.out(i);
        }
        if (desk.parts() == 1) {
            Check.tape(desk, first);
            Check.due("stored no more than fetched", desk.store(512) <= there, true);
            desk.fetch(512);
            for (int i = 0; i < 64; i++) {
                if (desk.out(i) != first[i]) {
                    Check.due("fetched again", desk.out(i), first[i]);
                }
            }
        }
    }

    private static int someInt(Random random) {
        switch (random.nextInt(4)) {
            case 0:
                return random.nextInt();
            case 1:
                return random.nextInt(1200) - 100;
            default:
                return random.nextInt(18) - 1;
        }
    }

    /** Any call in any order with any arguments. */
    private static void calls() {
        Random random = new Random(2);
        for (int round = 0; round < 800; round++) {
            LocationDesk desk = new LocationDesk();
            for (int call = 0; call < 330; call++) {
                anyCall(desk, random);
            }
            Check.due("parts", desk.parts() >= 1, true);
        }
    }

    private static void anyCall(LocationDesk desk, Random random) {
        int a = someInt(random);
        int b = someInt(random);
        switch (random.nextInt(24)) {
            case 0: case 1:
                desk.feed(random.nextInt(), a, b, random.nextInt(), LIKELY[random.nextInt(LIKELY.length)]);
                break;
            case 2:
                desk.end(a);
                break;
            case 3:
                desk.expression(a);
                break;
            case 4:
                desk.list(a);
                break;
            case 5:
                desk.load(a, random.nextLong());
                break;
            case 6:
                desk.register(a);
                break;
            case 7:
                desk.poke(a, b);
                break;
            case 8:
                desk.peek(a);
                break;
            case 9:
                desk.frame(a);
                break;
            case 10:
                desk.cfa(a, b);
                break;
            case 11:
                desk.set(a, b, random.nextBoolean());
                break;
            case 12:
                desk.run(a, b);
                break;
            case 13:
                desk.find(a, b, random.nextLong(), 10);
                break;
            case 14:
                desk.told(a);
                break;
            case 15:
                desk.part(a, b);
                break;
            case 16:
                desk.fetch(a);
                break;
            case 17:
                desk.store(a);
                break;
            case 18:
                desk.out(a);
                break;
            case 19:
                desk.compile();
                break;
            case 20:
                desk.variable(a, b);
                break;
            case 21:
                desk.where(a, b, 100);
                break;
            case 22:
                desk.means(a, b);
                break;
            default:
                Check.text(desk, scrapText(random, 12));
                desk.compile();
                break;
        }
    }

    private static String scrapText(Random random, int most) {
        StringBuilder text = new StringBuilder();
        int count = random.nextInt(most + 1);
        for (int i = 0; i < count; i++) {
            text.append(SCRAPS[random.nextInt(SCRAPS.length)]);
        }
        return text.length() > 1000 ? text.substring(0, 1000) : text.toString();
    }

    /** A text of scraps has a fault inside of it, or it goes: then its first part up to a fault's place went on too. */
    private static void scraps() {
        Random random = new Random(3);
        for (int round = 0; round < 20000; round++) {
            LocationDesk desk = new LocationDesk();
            String text = (random.nextBoolean() ? "x=" : "") + scrapText(random, 20);
            int count = Check.compile(desk, text);
            int fault = desk.told(0);
            int place = desk.told(1);
            Check.due(text + ": NONE with a fault", count == -1, fault != 0);
            Check.due(text + ": a fault that is told", fault >= 0 && fault <= 7, true);
            Check.due(text + ": place", fault == 0 ? place == -1 : place >= 0 && place <= text.length(), true);
            if (fault == 1 && place > 0) {
                Check.compile(desk, text.substring(0, place));
                boolean goesOn = desk.told(0) == 0 || desk.told(0) == 1 && desk.told(1) == place || desk.told(0) == 7;
                Check.due(text + ": what is ahead of the fault goes on", goesOn, true);
            }
        }
    }

    private static String someE(Random random, int depth) {
        int kind = depth <= 0 ? random.nextInt(6) : random.nextInt(16);
        switch (kind) {
            case 0: case 1:
                return Integer.toString(random.nextInt(70));
            case 2:
                return "%" + random.nextInt(32);
            case 3:
                return random.nextInt(3) == 0 ? "fb" : "%" + random.nextInt(4);
            case 4:
                return random.nextInt(3) == 0 ? "cfa" : Long.toString(random.nextLong() >>> 5 + random.nextInt(58));
            case 5:
                return random.nextInt(3) == 0 ? "obj" : "1";
            case 6:
                return "-" + unary(random, depth);
            case 7:
                return "~" + unary(random, depth);
            case 8:
                return "@" + (1 + random.nextInt(8)) + " " + unary(random, depth);
            case 9:
                return "tls " + unary(random, depth);
            case 10:
                return "(" + someE(random, depth - 1) + "?" + someE(random, depth - 1) + ":" + someE(random, depth - 1) + ")";
            case 11:
                return "%" + random.nextInt(32) + (random.nextBoolean() ? "+" : "-") + random.nextInt(300);
            default:
                String two = TWO[random.nextInt(TWO.length)];
                return "(" + someE(random, depth - 1) + ")" + two + "(" + someE(random, depth - 1) + ")";
        }
    }

    private static String unary(Random random, int depth) {
        return random.nextBoolean() ? "(" + someE(random, depth - 1) + ")" : Integer.toString(random.nextInt(5000));
    }

    private static String somePlace(Random random) {
        switch (random.nextInt(7)) {
            case 0:
                return "reg " + random.nextInt(32);
            case 1:
                return "none";
            case 2:
                return "bytes 1 2 255";
            case 3: case 4:
                return "[" + someE(random, 3) + "]";
            default:
                return "value " + someE(random, 3);
        }
    }

    private static String someLocation(Random random) {
        if (random.nextInt(3) != 0) {
            return somePlace(random);
        }
        StringBuilder text = new StringBuilder("{");
        int count = 1 + random.nextInt(3);
        for (int i = 0; i < count; i++) {
            text.append(i == 0 ? "" : ",").append(somePlace(random)).append('/').append(random.nextInt(65));
        }
        return text.append('}').toString();
    }

    private static String someText(Random random) {
        if (random.nextInt(3) != 0) {
            return "x=" + someLocation(random) + ";";
        }
        return "x=0..5:" + someLocation(random) + ",3..9:" + someLocation(random) + ";";
    }

    private static long[] result(LocationDesk desk, int fault) {
        long[] all = new long[80];
        all[0] = fault;
        all[1] = desk.parts();
        for (int i = 0; i < desk.parts(); i++) {
            for (int what = 0; what < 4; what++) {
                all[2 + 4 * i + what] = desk.part(i, what);
            }
        }
        return all;
    }

    private static void whereAndMeans() {
        Random random = new Random(4);
        int went = 0;
        for (int round = 0; round < 20000; round++) {
            LocationDesk desk = new LocationDesk();
            for (int r = 0; r < 4; r++) {
                desk.load(r, random.nextInt(3) == 0 ? random.nextLong() : random.nextInt(4000));
            }
            desk.poke(random.nextInt(300), random.nextInt());
            desk.cfa(random.nextInt(4) == 0 ? -1 : 2, 16);
            desk.set(0, random.nextInt(4000), random.nextInt(4) != 0);
            desk.set(1, random.nextInt(4000), random.nextInt(4) != 0);
            Check.expression(desk, 0, random.nextInt(4) == 0 ? 19 : 0x3F, random.nextInt(4) == 0 ? 80 : 150);
            desk.frame(random.nextInt(4) == 0 ? -1 : 0);
            String text = someText(random);
            if (text.length() > 1000 || Check.compile(desk, text) != 1) {
                Check.due(text + " is too long", text.length() > 1000 || desk.told(0) == 7, true);
                continue;
            }
            for (int pc = 0; pc < 10; pc += 3) {
                desk.run(5, 1);
                long[] meant = result(desk, desk.means(0, pc));
                desk.run(5, 1);
                long[] found = result(desk, desk.where(0, pc, 1000));
                Check.due(text + " at " + pc, java.util.Arrays.equals(meant, found), true);
                went += meant[0] == 0 ? 1 : 0;
            }
        }
        Check.due("many went without a fault", went > 10000, true);
    }
}
