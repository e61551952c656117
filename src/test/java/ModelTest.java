import java.util.Random;

/** The class and a second reading of the document (Model, TextModel) take the same made-up calls: every answer is the same. */
public final class ModelTest {
    private static final int MOST_CALLS = 512;
    private static final int[] CODES = {3, 8, 9, 10, 11, 12, 13, 14, 15, 16, 17, 112, 120, 143, 146, 6, 148, 18, 19, 20, 21, 22, 23, 25, 31, 32, 35,
        26, 33, 39, 34, 28, 30, 27, 29, 36, 37, 38, 41, 42, 43, 44, 45, 46, 47, 40, 150, 151, 155, 156, 145, 152, 153, 80, 111, 144, 159, 158, 147,
        157, 48, 49, 50, 60, 79};
    private static final String[] SIGNS = {"|", "^", "&", "==", "!=", "<", "<=", ">", ">=", "<<", ">>", ">>>", "+", "-", "+", "-", "*", " div ",
        " mod "};
    private static final String[] SCRAPS = {"x", "abcdefgh", "=", ";", ",", ":", "..", "{", "}", "[", "]", "(", ")", "/", "%", "?", "|", "^", "&",
        "==", "!=", "<", "<=", ">", ">=", "<<", ">>", ">>>", "+", "-", "*", "~", "@1", "@8", "@9", "@", "0", "31", "32", "64", "65", "255", "256",
        "999999999999999999", "1000000000000000000", " reg ", " value ", " bytes ", " none ", " fb ", " cfa ", " obj ", " tls ", " div ", " mod ",
        " ", "\n", "!", ".", "X", "\t", "9a", "abcdefghi"};

    private final Random random;
    private final LocationDesk desk = new LocationDesk();
    private final TextModel model = new TextModel();
    private final StringBuilder story = new StringBuilder();
    private int calls;

    private ModelTest(long seed) {
        random = new Random(seed);
    }

    public static void main(String[] args) {
        int rounds = args.length > 0 ? Integer.parseInt(args[0]) : 4000;
        int firstSeed = args.length > 1 ? Integer.parseInt(args[1]) : 0;
        for (int seed = firstSeed; seed < firstSeed + rounds; seed++) {
            ModelTest test = new ModelTest(seed);
            if (seed % 3 == 0) {
                test.runs();
            } else if (seed % 3 == 1) {
                test.texts();
            } else {
                test.lists();
            }
            Check.due("within the calls of one object", test.calls <= MOST_CALLS, true);
        }
        Check.finish("ModelTest");
    }

    private boolean goesOn(int more) {
        return calls + more <= MOST_CALLS;
    }

    private long same(String call, long got, long want) {
        calls++;
        story.append(call).append("; ");
        Check.due(got == want ? call : story.toString(), got, want);
        return want;
    }

    private boolean same(String call, boolean got, boolean want) {
        return same(call, got ? 1 : 0, want ? 1 : 0) == 1;
    }

    private int one(int... these) {
        return these[random.nextInt(these.length)];
    }

    private boolean rarely(int in) {
        return random.nextInt(in) == 0;
    }

    private long someNumber() {
        switch (random.nextInt(6)) {
            case 0:
                return random.nextLong();
            case 1:
                return random.nextLong() >> random.nextInt(64);
            case 2:
                return one(0, 1, -1, 63, 64, 127, 128, 4088, 4089, 4095, 4096);
            case 3:
                return rarely(2) ? Long.MIN_VALUE : Long.MAX_VALUE;
            default:
                return random.nextInt(4200) - 50;
        }
    }

    private void tape(int[] bytes) {
        same("end(0)", desk.end(0), model.end(0));
        for (int at = 0; at < bytes.length; at += 20) {
            int[] five = new int[5];
            for (int i = 0; i < 20; i++) {
                five[i / 4] |= (at + i < bytes.length ? bytes[at + i] : 0) << 24 - 8 * (i % 4);
            }
            same("feed(" + five[0] + ", " + five[1] + ", " + five[2] + ", " + five[3] + ", " + five[4] + ")",
                desk.feed(five[0], five[1], five[2], five[3], five[4]), model.feed(five[0], five[1], five[2], five[3], five[4]));
        }
        same("end(" + bytes.length + ")", desk.end(bytes.length), model.end(bytes.length));
    }

    private void expression(int k, int[] bytes) {
        tape(bytes);
        same("expression(" + k + ")", desk.expression(k), model.expression(k));
    }

    private void machine() {
        for (int i = 0; i < 4; i++) {
            int r = rarely(8) ? one(-1, 32, 31) : random.nextInt(32);
            long v = someNumber();
            same("load(" + r + ", " + v + ")", desk.load(r, v), model.load(r, v));
            int a = rarely(8) ? one(-1, 4096, 4095, 0) : random.nextInt(80);
            int b = random.nextInt();
            same("poke(" + a + ", " + b + ")", desk.poke(a, b), model.poke(a, b));
        }
        int k = random.nextInt(5) - 1;
        same("frame(" + k + ")", desk.frame(k), model.frame(k));
        int r = random.nextInt(34) - 1;
        long d = someNumber();
        same("cfa(" + r + ", " + d + ")", desk.cfa(r, d), model.cfa(r, d));
        for (int what = 0; what < 2; what++) {
            long v = someNumber();
            boolean there = !rarely(3);
            same("set(" + what + ", " + v + ", " + there + ")", desk.set(what, v, there), model.set(what, v, there));
        }
    }

    private int[] leb(boolean signed) {
        if (rarely(12)) {
            int[] bytes = new int[1 + random.nextInt(11)];
            for (int i = 0; i < bytes.length; i++) {
                bytes[i] = i < bytes.length - 1 ? 128 + random.nextInt(128) : random.nextInt(rarely(3) ? 256 : 128);
            }
            return bytes;
        }
        return new int[] {signed ? random.nextInt(128) : rarely(4) ? random.nextInt(128) : random.nextInt(24)};
    }

    private int[] someBytes(int count) {
        int[] bytes = new int[count];
        for (int i = 0; i < count; i++) {
            bytes[i] = random.nextInt(256);
        }
        return bytes;
    }

    private int[] operation() {
        int op = rarely(40) ? random.nextInt(256) : CODES[random.nextInt(CODES.length)];
        int[] code = {op};
        switch (op) {
            case 8: case 9:
                return Check.join(code, someBytes(1));
            case 21:
                return Check.join(code, new int[] {random.nextInt(4)});
            case 148:
                return Check.join(code, new int[] {random.nextInt(rarely(5) ? 11 : 8) + (rarely(9) ? 0 : 1)});
            case 10: case 11:
                return Check.join(code, someBytes(2));
            case 12: case 13:
                return Check.join(code, someBytes(4));
            case 3: case 14: case 15:
                return Check.join(code, Check.lowFirst(someNumber(), 8));
            case 40: case 47:
                return Check.join(code, Check.lowFirst(rarely(2) ? random.nextInt(8) : random.nextInt(60) - 30, 2));
            case 152: case 153:
                return Check.join(code, Check.lowFirst(rarely(9) ? one(15, 16, -1, 256) : random.nextInt(4), op == 152 ? 2 : 4));
            case 16: case 35: case 144: case 147:
                return Check.join(code, leb(false));
            case 17: case 145:
                return Check.join(code, leb(true));
            case 146:
                return Check.join(code, leb(false), leb(true));
            case 157:
                return Check.join(code, leb(false), leb(false));
            case 158:
                int count = random.nextInt(5);
                return Check.join(code, new int[] {rarely(9) ? 20 : count}, someBytes(count));
            default:
                return op >= 112 && op <= 143 ? Check.join(code, leb(true)) : code;
        }
    }

    /** Numbers ahead, so that many operations find some; at times a round of numbers that fills the stack. */
    private int[] someCode(int most) {
        int[] code = rarely(3) ? new int[0] : Check.times(1 + random.nextInt(4), 48 + random.nextInt(32));
        if (rarely(25)) {
            code = rarely(2) ? Check.times(120 + random.nextInt(12), 48 + random.nextInt(9)) : new int[] {49, 47, 252, 255};
        }
        int count = random.nextInt(most + 1);
        for (int i = 0; i < count; i++) {
            code = Check.join(code, operation());
        }
        return rarely(20) && code.length > 0 ? java.util.Arrays.copyOf(code, code.length - 1) : code;
    }

    private void told() {
        for (int what = 0; what < 4; what++) {
            same("told(" + what + ")", desk.told(what), model.told(what));
        }
        int parts = (int) same("parts()", desk.parts(), model.parts());
        int i = rarely(9) ? one(-1, parts) : random.nextInt(parts);
        for (int what = 0; what < 4; what++) {
            same("part(" + i + ", " + what + ")", desk.part(i, what), model.part(i, what));
        }
        int k = one(99, 100, 101, 102, 103, 104, -1, 4, 1000);
        same("part(" + i + ", " + k + ")", desk.part(i, k), model.part(i, k));
    }

    private int someBits() {
        return rarely(3) ? one(0, 1, 511, 512, 513, 64, 65) : 1 + random.nextInt(100);
    }

    private void fetchAndStore() {
        int n = someBits();
        same("fetch(" + n + ")", desk.fetch(n), model.fetch(n));
        for (int i = 0; i < 4; i++) {
            int at = rarely(5) ? one(-1, 63, 64) : random.nextInt(1 + n / 8);
            same("out(" + at + ")", desk.out(at), model.out(at));
        }
        if (rarely(2)) {
            int m = someBits();
            tape(someBytes(rarely(9) ? Math.max(0, m / 8 - 1) : (m + 7) / 8));
            same("store(" + m + ")", desk.store(m), model.store(m));
            for (int i = 0; i < 4; i++) {
                int r = random.nextInt(32);
                int a = rarely(2) ? random.nextInt(40) : random.nextInt(4096);
                same("register(" + r + ")", desk.register(r), model.register(r));
                same("peek(" + a + ")", desk.peek(a), model.peek(a));
            }
        }
    }

    private int someFuel() {
        return rarely(3) ? 1 + random.nextInt(30) : rarely(20) ? one(0, -1, 1001) : 1000;
    }

    private void runs() {
        machine();
        for (int k = 0; k < 4; k++) {
            expression(k, someCode(k == 0 ? 12 : 4));
        }
        while (goesOn(150)) {
            int k = rarely(20) ? one(-1, 16, 15) : random.nextInt(4);
            int fuel = someFuel();
            same("run(" + k + ", " + fuel + ")", desk.run(k, fuel), model.run(k, fuel));
            told();
            fetchAndStore();
            expression(random.nextInt(4), someCode(12));
            if (rarely(4)) {
                machine();
            }
        }
    }

    private int[] entry() {
        if (rarely(6)) {
            return Check.join(Check.lowFirst(-1, 8), Check.lowFirst(random.nextInt(30) - 5, 8));
        }
        if (rarely(12)) {
            return new int[16];
        }
        int[] code = someCode(3);
        long begin = rarely(9) ? someNumber() : random.nextInt(20);
        long end = rarely(9) ? someNumber() : begin + random.nextInt(20);
        return Check.join(Check.lowFirst(begin, 8), Check.lowFirst(end, 8), Check.lowFirst(code.length + (rarely(30) ? 100 : 0), 2), code);
    }

    private void lists() {
        machine();
        for (int k = 0; k < 4; k++) {
            expression(k, someCode(3));
        }
        while (goesOn(220)) {
            int[] list = new int[0];
            for (int i = random.nextInt(6); i > 0; i--) {
                list = Check.join(list, entry());
            }
            list = rarely(5) ? list : Check.join(list, new int[16]);
            tape(list.length > 600 ? java.util.Arrays.copyOf(list, 600) : list);
            int k = random.nextInt(4);
            same("list(" + k + ")", desk.list(k), model.list(k));
            for (int i = 0; i < 3; i++) {
                long base = rarely(9) ? someNumber() : random.nextInt(9);
                long pc = rarely(9) ? someNumber() : random.nextInt(40);
                int fuel = someFuel();
                int from = rarely(20) ? one(-1, 4) : rarely(4) ? random.nextInt(4) : k;
                same("find(" + from + ", " + base + ", " + pc + ", " + fuel + ")", desk.find(from, base, pc, fuel),
                    model.find(from, base, pc, fuel));
                told();
            }
            fetchAndStore();
        }
    }

    private String number() {
        return Long.toString(rarely(4) ? random.nextLong() >>> 4 + random.nextInt(60) & 0x7FFFFFFFFFFFFFL : random.nextInt(70));
    }

    private String e(int depth) {
        switch (depth <= 0 ? random.nextInt(5) : random.nextInt(13)) {
            case 0: case 1:
                return number();
            case 2:
                return "%" + (rarely(60) ? 32 : random.nextInt(32));
            case 3:
                return new String[] {"fb", "cfa", "obj", "fb"}[random.nextInt(4)];
            case 4:
                return (rarely(2) ? "fb" : "%" + random.nextInt(32)) + (rarely(2) ? "+" : "-") + number() + (rarely(3) ? "*2" : "");
            case 5:
                return e(depth - 1) + "?" + e(depth - 1) + ":" + e(depth - 1);
            case 6:
                return "(" + e(depth - 1) + ")";
            case 7:
                return new String[] {"-", "~", "@1 ", "@8", "@4", "tls "}[random.nextInt(6)] + (rarely(2) ? number() : "(" + e(depth - 1) + ")");
            default:
                return e(depth - 1) + SIGNS[random.nextInt(SIGNS.length)] + e(depth - 1);
        }
    }

    private String spot(int depth) {
        switch (random.nextInt(6)) {
            case 0:
                return "reg " + (rarely(60) ? 32 : random.nextInt(32));
            case 1:
                return rarely(2) ? "none" : "bytes " + (rarely(30) ? "1 ".repeat(64 + random.nextInt(2)) : "1 2 " + (rarely(40) ? 256 : 255));
            case 2: case 3:
                return "[" + e(depth) + "]";
            default:
                return "value " + e(depth);
        }
    }

    private String location() {
        if (!rarely(3)) {
            return spot(rarely(6) ? 6 : 3);
        }
        StringBuilder text = new StringBuilder("{");
        int count = rarely(9) ? 7 + random.nextInt(3) : 1 + random.nextInt(3);
        for (int i = 0; i < count; i++) {
            text.append(i == 0 ? "" : ",").append(spot(2)).append("/").append(rarely(40) ? 65 : random.nextInt(65));
        }
        return text.append("}").toString();
    }

    private String declaration(String name) {
        StringBuilder text = new StringBuilder(name).append(rarely(2) ? "=" : " = ");
        if (!rarely(3)) {
            return text.append(location()).append(";").toString();
        }
        int rows = rarely(9) ? 7 + random.nextInt(3) : 1 + random.nextInt(3);
        for (int i = 0; i < rows; i++) {
            int from = random.nextInt(20);
            text.append(i == 0 ? "" : ",").append(from).append("..").append(from + random.nextInt(20) + (rarely(30) ? 0 : 1)).append(": ").append(location());
        }
        return text.append(";\n").toString();
    }

    private String text() {
        StringBuilder text = new StringBuilder();
        int count = rarely(12) ? 11 + random.nextInt(3) : 1 + random.nextInt(3);
        for (int i = 0; i < count; i++) {
            String name = rarely(40) ? "v0" : rarely(3) ? "longer" + i : "v" + i;
            text.append(count > 9 ? name + (rarely(20) ? "=" + spot(1) + ";" : "=none;") : declaration(name));
        }
        for (int i = rarely(2) ? random.nextInt(3) : 0; i > 0; i--) {
            int at = random.nextInt(text.length() + 1);
            int to = Math.min(text.length(), at + random.nextInt(3));
            text.replace(at, to, SCRAPS[random.nextInt(SCRAPS.length)]);
        }
        return text.length() > 1000 ? text.substring(0, 1000) : text.toString();
    }

    private String deep() {
        StringBuilder text = new StringBuilder(rarely(2) ? "d=value " : "d=[");
        StringBuilder ends = new StringBuilder(text.charAt(2) == '[' ? "];" : ";");
        for (int i = 9 + random.nextInt(9); i > 0; i--) {
            String opener = new String[] {"(", "-", "~", "@2", "tls ", "1?", "1?2:", "3+(", "1|2^3&4==5<<6+7*("}[random.nextInt(9)];
            text.append(opener);
            ends.insert(0, opener.endsWith("(") ? ")" : opener.equals("1?") ? ":0" : "");
        }
        return text.append("5").append(ends).toString();
    }

    /** Numbers multiplied, of about so many bytes. */
    private String product(int bytes) {
        StringBuilder text = new StringBuilder("value 7");
        for (int size = 2; size < bytes; size += 4) {
            text.append("*").append(1000 + random.nextInt(9000));
        }
        return text.toString();
    }

    /** Near 300 bytes of an expression, or 600 of a list. */
    private String lengthy() {
        if (rarely(2)) {
            return "short=none;long=" + product(290 + random.nextInt(14)) + "+".repeat(random.nextInt(2)) + "1;";
        }
        int rows = 2 + random.nextInt(3);
        StringBuilder text = new StringBuilder("long=");
        for (int i = 0; i < rows; i++) {
            text.append(i == 0 ? "" : ",").append(i).append("..").append(i + 2).append(":").append(product((584 - 18 * rows) / rows - 6 + random.nextInt(12)));
        }
        return text.append(";").toString();
    }

    private void texts() {
        machine();
        for (int k = 0; k < 4; k++) {
            expression(k, someCode(3));
        }
        while (goesOn(250)) {
            String text = rarely(4) ? deep() : rarely(9) ? lengthy() : text();
            tape(text.chars().toArray());
            int count = (int) same("compile() of " + text + " <", desk.compile(), model.compile());
            told();
            variables();
            for (int i = 0; i < 3; i++) {
                int v = rarely(12) ? one(-1, 12, Math.max(count, 0)) : random.nextInt(Math.max(1, count));
                long pc = rarely(9) ? someNumber() : random.nextInt(30);
                int fuel = someFuel();
                same("means(" + v + ", " + pc + ")", desk.means(v, pc), model.means(v, pc));
                told();
                same("where(" + v + ", " + pc + ", " + fuel + ")", desk.where(v, pc, fuel), model.where(v, pc, fuel));
                told();
            }
            fetchAndStore();
            if (rarely(3)) {
                machine();
            }
        }
    }

    private void variables() {
        for (int i = 0; i < 12; i++) {
            int v = rarely(9) ? one(-1, 12) : random.nextInt(3);
            int what = rarely(3) ? one(0, 1, 2) : rarely(4) ? 1000 + random.nextInt(9) : rarely(9) ? one(3, 99, -1, 999, 100) : 100 + random.nextInt(60);
            same("variable(" + v + ", " + what + ")", desk.variable(v, what), model.variable(v, what));
        }
    }
}
