import java.math.BigInteger;
import java.util.ArrayList;
import java.util.HashSet;
import java.util.List;
import java.util.Set;
import java.util.function.LongSupplier;
import java.util.regex.Matcher;
import java.util.regex.Pattern;

/** The document's part IV and its promises, as Model: while a text is read, its bytes and its meaning are made at once. */
final class TextModel extends Model {
    private static final String WORD = "[a-z][a-z0-9]{0,7}";
    private static final String DIGITS = "[0-9]{1,18}(?![0-9A-Za-z])";
    private static final String SIGN = "\\.\\.|>>>|>>|<<|==|!=|<=|>=|[=;,:{}\\[\\]()/%?|^&<>+*~-]";
    private static final Pattern TOKEN = Pattern.compile(WORD + "|" + DIGITS + "|@[1-8]|" + SIGN);
    private static final Set<String> WORDS = Set.of("reg", "value", "bytes", "none", "fb", "cfa", "obj", "tls", "div", "mod");
    private static final String[][] LEVELS = {{"|"}, {"^"}, {"&"}, {"==", "!=", "<", "<=", ">", ">="}, {"<<", ">>", ">>>"}, {"+", "-"},
        {"*", "div", "mod"}};
    private static final int[][] CODES = {{33}, {39}, {26}, {41, 46, 45, 44, 43, 42}, {36, 38, 37}, {34, 28}, {30, 27, 29}};
    private static final int SUMS = 5;

    /** Bytes, and what they mean. */
    private record Meant(List<Integer> bytes, LongSupplier value) {
    }

    /** A PLACE or a PART; bits is -1 of a PLACE alone. */
    private record Spot(List<Integer> bytes, int kind, LongSupplier value, List<Integer> block, int bits) {
    }

    private record Row(long from, long to, List<Spot> spots) {
    }

    private record Var(String name, int place, boolean isList, List<Row> rows, List<Integer> bytes) {
    }

    private List<Var> vars = List.of();
    private final List<String> tokens = new ArrayList<>();
    private final List<Integer> places = new ArrayList<>();
    private int at;
    private int open;

    int compile() {
        StringBuilder text = new StringBuilder();
        for (int one : tape) {
            text.append((char) one);
        }
        tape.clear();
        try {
            vars = read(text.toString());
            told = new int[] {0, NONE, 0, 0};
            return vars.size();
        } catch (Fault fault) {
            told = new int[] {fault.code, fault.place, 0, 0};
            return NONE;
        }
    }

    /** The empty token is the end, "\0" what is none. */
    private void cut(String text) {
        tokens.clear();
        places.clear();
        Matcher matcher = TOKEN.matcher(text);
        int place = 0;
        while (tokens.isEmpty() || !tokens.get(tokens.size() - 1).isEmpty() && !tokens.get(tokens.size() - 1).equals("\0")) {
            while (place < text.length() && (text.charAt(place) == '\n' || text.charAt(place) == ' ')) {
                place++;
            }
            matcher.region(place, text.length()).useTransparentBounds(true);
            boolean isToken = matcher.lookingAt();
            tokens.add(place == text.length() ? "" : isToken ? matcher.group() : "\0");
            places.add(place);
            place = isToken ? matcher.end() : place;
        }
    }

    private String now() {
        return tokens.get(at);
    }

    private String ahead(int by) {
        return at + by < tokens.size() ? tokens.get(at + by) : "";
    }

    private Fault fault(int code) {
        return new Fault(code, places.get(at));
    }

    private static boolean isNumber(String token) {
        return !token.isEmpty() && Character.isDigit(token.charAt(0));
    }

    private static boolean isName(String token) {
        return token.matches(WORD) && !WORDS.contains(token);
    }

    private void want(boolean fits) {
        if (!fits) {
            throw fault(1);
        }
    }

    private void pass(String token) {
        want(now().equals(token));
        at++;
    }

    private long number() {
        want(isNumber(now()));
        return Long.parseLong(now());
    }

    private long number(int code, long bound) {
        long number = number();
        if (number > bound) {
            throw fault(code);
        }
        at++;
        return number;
    }

    private void openOne() {
        if (open == 12) {
            throw fault(5);
        }
        open++;
        at++;
    }

    private void closeOne(String token) {
        pass(token);
        open--;
    }

    private List<Var> read(String text) {
        cut(text);
        at = 0;
        open = 0;
        List<Var> all = new ArrayList<>();
        Set<String> names = new HashSet<>();
        while (!now().isEmpty()) {
            want(isName(now()));
            if (names.contains(now())) {
                throw fault(4);
            }
            if (names.size() == 12) {
                throw fault(6);
            }
            names.add(now());
            all.add(declaration());
        }
        for (Var one : all) {
            boolean isLong = one.isList && one.bytes.size() > 600;
            for (Row row : one.rows) {
                isLong |= bytes(row.spots).size() > 300;
            }
            if (isLong) {
                throw new Fault(7, one.place);
            }
        }
        return all;
    }

    private Var declaration() {
        String name = now();
        int place = places.get(at);
        at++;
        pass("=");
        boolean isList = isNumber(now());
        List<Row> rows = new ArrayList<>();
        do {
            if (!rows.isEmpty()) {
                at++;
                want(isNumber(now()));
                if (rows.size() == 8) {
                    throw fault(6);
                }
            }
            long from = isList ? number(0, Long.MAX_VALUE) : 0;
            long to = 0;
            if (isList) {
                pass("..");
                to = number();
                if (to <= from) {
                    throw fault(3);
                }
                at++;
                pass(":");
            }
            rows.add(new Row(from, to, location()));
        } while (isList && now().equals(","));
        pass(";");
        return new Var(name, place, isList, rows, isList ? list(rows) : bytes(rows.get(0).spots));
    }

    private static List<Integer> bytes(List<Spot> spots) {
        List<Integer> all = new ArrayList<>();
        for (Spot spot : spots) {
            all.addAll(spot.bytes);
        }
        return all;
    }

    private static List<Integer> list(List<Row> rows) {
        List<Integer> all = new ArrayList<>();
        for (Row row : rows) {
            all.addAll(lowFirst(row.from, 8));
            all.addAll(lowFirst(row.to, 8));
            all.addAll(lowFirst(bytes(row.spots).size(), 2));
            all.addAll(bytes(row.spots));
        }
        all.addAll(lowFirst(0, 16));
        return all;
    }

    private static List<Integer> lowFirst(long number, int count) {
        List<Integer> all = new ArrayList<>();
        BigInteger rest = BigInteger.valueOf(number);
        for (int i = 0; i < count; i++) {
            all.add(rest.and(BigInteger.valueOf(255)).intValue());
            rest = rest.shiftRight(8);
        }
        return all;
    }

    private List<Spot> location() {
        if (!now().equals("{")) {
            return List.of(spot());
        }
        List<Spot> all = new ArrayList<>();
        openOne();
        all.add(part());
        while (now().equals(",")) {
            at++;
            want(Set.of("reg", "[", "value", "bytes", "none").contains(now()));
            if (all.size() == 8) {
                throw fault(6);
            }
            all.add(part());
        }
        closeOne("}");
        return all;
    }

    private Spot part() {
        Spot spot = spot();
        pass("/");
        int n = (int) number(3, 64);
        List<Integer> bytes = new ArrayList<>(spot.bytes);
        bytes.add(147);
        bytes.addAll(leb(n, false));
        return new Spot(bytes, spot.kind, spot.value, spot.block, 8 * n);
    }

    private Spot spot() {
        switch (now()) {
            case "reg":
                at++;
                long r = number(2, 31);
                return new Spot(List.of((int) (80 + r)), 2, () -> r, List.of(), -1);
            case "[":
                openOne();
                Meant address = choice();
                closeOne("]");
                return new Spot(address.bytes, 1, address.value, List.of(), -1);
            case "value":
                at++;
                Meant value = choice();
                return new Spot(joined(value.bytes, List.of(159)), 3, value.value, List.of(), -1);
            case "bytes":
                at++;
                List<Integer> block = block();
                return new Spot(joined(List.of(158), leb(block.size(), false), block), 4, null, block, -1);
            default:
                pass("none");
                return new Spot(List.of(), 0, () -> 0, List.of(), -1);
        }
    }

    private List<Integer> block() {
        List<Integer> block = new ArrayList<>();
        do {
            if (number() <= 255 && block.size() == 64) {
                throw fault(6);
            }
            block.add((int) number(3, 255));
        } while (isNumber(now()));
        return block;
    }

    @SafeVarargs
    private static List<Integer> joined(List<Integer>... rows) {
        List<Integer> all = new ArrayList<>();
        for (List<Integer> row : rows) {
            all.addAll(row);
        }
        return all;
    }

    /** As short as can be: the first number of bytes whose bits hold it. */
    private static List<Integer> leb(long number, boolean signed) {
        BigInteger big = BigInteger.valueOf(number);
        int bits = big.bitLength() + (signed ? 1 : 0);
        int size = Math.max(1, (bits + 6) / 7);
        List<Integer> all = new ArrayList<>();
        for (int i = 0; i < size; i++) {
            int seven = big.shiftRight(7 * i).and(BigInteger.valueOf(127)).intValue();
            all.add(i < size - 1 ? seven + 128 : seven);
        }
        return all;
    }

    private Meant choice() {
        Meant when = level(0);
        if (!now().equals("?")) {
            return when;
        }
        openOne();
        Meant yes = choice();
        want(now().equals(":"));
        open--;
        openOne();
        Meant no = choice();
        open--;
        List<Integer> bytes = joined(when.bytes, List.of(40), lowFirst(no.bytes.size() + 3, 2), no.bytes, List.of(47),
            lowFirst(yes.bytes.size(), 2), yes.bytes);
        return new Meant(bytes, () -> when.value.getAsLong() != 0 ? yes.value.getAsLong() : no.value.getAsLong());
    }

    private static int find(String[] signs, String sign) {
        return List.of(signs).indexOf(sign);
    }

    private boolean isProductSign(String token) {
        return find(LEVELS[6], token) >= 0;
    }

    private Meant level(int level) {
        if (level == LEVELS.length) {
            return unary();
        }
        Meant sum = level == SUMS ? based() : null;
        if (sum == null) {
            sum = level(level + 1);
        }
        for (int count = 0; find(LEVELS[level], now()) >= 0 && (level != 3 || count == 0); count++) {
            int code = CODES[level][find(LEVELS[level], now())];
            at++;
            Meant left = sum;
            boolean isAlone = code == 34 && isNumber(now()) && !isProductSign(ahead(1));
            long plain = isAlone ? number() : 0;
            Meant right = level(level + 1);
            List<Integer> bytes = isAlone ? joined(left.bytes, List.of(35), leb(plain, false)) : joined(left.bytes, right.bytes, List.of(code));
            sum = new Meant(bytes, () -> {
                long s = left.value.getAsLong();
                return two(code, s, right.value.getAsLong());
            });
        }
        return sum;
    }

    /** % r or fb with + or - and a NUMBER alone behind it: one OPERATION; null where it does not stand so. */
    private Meant based() {
        int size = now().equals("%") && isNumber(ahead(1)) ? 2 : now().equals("fb") ? 1 : 0;
        boolean isMinus = ahead(size).equals("-");
        if (size == 0 || !isMinus && !ahead(size).equals("+") || !isNumber(ahead(size + 1)) || isProductSign(ahead(size + 2))) {
            return null;
        }
        Meant base = unary();
        at++;
        long plus = isMinus ? -number() : number();
        at++;
        return new Meant(joined(base.bytes.subList(0, 1), leb(plus, true)), () -> base.value.getAsLong() + plus);
    }

    private Meant unary() {
        String token = now();
        if (isNumber(token)) {
            long number = number();
            at++;
            return new Meant(constant(number), () -> number);
        }
        switch (token) {
            case "%":
                at++;
                int r = (int) number(2, 31);
                return new Meant(List.of(112 + r, 0), () -> registers[r]);
            case "fb":
                at++;
                return new Meant(List.of(145, 0), this::baseAlone);
            case "cfa":
                at++;
                return new Meant(List.of(156), this::cfaThere);
            case "obj":
                at++;
                return new Meant(List.of(151), this::objectThere);
            case "(":
                openOne();
                Meant inside = choice();
                closeOne(")");
                return inside;
            default:
                want(token.startsWith("@") || Set.of("-", "~", "tls").contains(token));
                openOne();
                Meant of = unary();
                open--;
                return changed(token, of);
        }
    }

    private Meant changed(String token, Meant of) {
        LongSupplier v = of.value;
        switch (token) {
            case "-":
                return new Meant(joined(of.bytes, List.of(31)), () -> -v.getAsLong());
            case "~":
                return new Meant(joined(of.bytes, List.of(32)), () -> ~v.getAsLong());
            case "tls":
                return new Meant(joined(of.bytes, List.of(155)), () -> {
                    long plus = v.getAsLong();
                    return tlsThere() + plus;
                });
            default:
                int n = token.charAt(1) - '0';
                return new Meant(joined(of.bytes, n == 8 ? List.of(6) : List.of(148, n)), () -> bytesAt(v.getAsLong(), n));
        }
    }

    private static List<Integer> constant(long n) {
        if (n < 32) {
            return List.of(48 + (int) n);
        }
        int count = n < 256 ? 1 : n < 65536 ? 2 : n < 1L << 32 ? 4 : 8;
        return joined(List.of(count == 1 ? 8 : count == 2 ? 10 : count == 4 ? 12 : 14), lowFirst(n, count));
    }

    int variable(int i, int what) {
        if (i < 0 || i >= vars.size()) {
            return NONE;
        }
        Var one = vars.get(i);
        if (what == 0) {
            return one.isList ? one.rows.size() : 0;
        }
        if (what == 1 || what == 2) {
            return what == 1 ? one.bytes.size() : one.name.length();
        }
        if (what >= 1000) {
            return what - 1000 < one.name.length() ? one.name.charAt(what - 1000) : NONE;
        }
        return what >= 100 && what - 100 < one.bytes.size() ? one.bytes.get(what - 100) : NONE;
    }

    int where(int i, long pc, int fuel) {
        if (i < 0 || i >= vars.size() || fuel < 1 || fuel > 1000) {
            return NONE;
        }
        return vars.get(i).isList ? findIn(vars.get(i).bytes, 0, pc, fuel) : tellRun(vars.get(i).bytes, fuel);
    }

    int means(int i, long pc) {
        if (i < 0 || i >= vars.size()) {
            return NONE;
        }
        try {
            result = meant(vars.get(i), pc);
            told = new int[] {0, NONE, 0, 0};
        } catch (Fault fault) {
            told = new int[] {fault.code, 0, 0, 0};
        }
        return told[0];
    }

    private static List<Thing> meant(Var one, long pc) {
        for (Row row : one.rows) {
            if (!one.isList || Long.compareUnsigned(row.from, pc) <= 0 && Long.compareUnsigned(pc, row.to) < 0) {
                List<Thing> things = new ArrayList<>();
                for (Spot spot : row.spots) {
                    Thing thing = spot.kind == 4 ? Thing.block(spot.block) : Thing.of(spot.kind, spot.value.getAsLong());
                    things.add(spot.bits < 0 ? thing : thing.piece(spot.bits, 0));
                }
                return things;
            }
        }
        return List.of(Thing.EMPTY);
    }
}
