import java.math.BigInteger;
import java.util.ArrayList;
import java.util.HashMap;
import java.util.List;
import java.util.Map;

/**
 * The document once more, parts I to III and their promises: written anew, another way than the class, for ModelTest to
 * compare the two. Faults are thrown here, numbers of bytes are BigIntegers, a result is a row of bits. The same reader wrote
 * both: this shows slips, not a sentence that was read wrongly twice.
 */
class Model {
    static final int NONE = -1;

    /** A fault at a place. */
    static final class Fault extends RuntimeException {
        private static final long serialVersionUID = 1;
        final int code;
        final int place;

        Fault(int code, int place) {
            super("fault " + code + " at " + place, null, false, false);
            this.code = code;
            this.place = place;
        }
    }

    /** A thing that a run tells; bits is -1 where it is no piece. */
    record Thing(int kind, long number, List<Integer> block, int bits, int first) {
        static final Thing EMPTY = new Thing(0, 0, List.of(), -1, 0);

        static Thing of(int kind, long number) {
            return new Thing(kind, number, List.of(), -1, 0);
        }

        static Thing block(List<Integer> bytes) {
            return new Thing(4, bytes.size(), List.copyOf(bytes), -1, 0);
        }

        Thing piece(int bits, int first) {
            return new Thing(kind, number, block, bits, first);
        }
    }

    /** A run and those that it calls. */
    private static final class State {
        final List<Long> stack = new ArrayList<>();
        final List<Thing> pieces = new ArrayList<>();
        Thing hold;
        final boolean isFrame;

        State(boolean isFrame) {
            this.isFrame = isFrame;
        }
    }

    private static final Map<Integer, String> OPERANDS = new HashMap<>();
    private static final Map<Integer, Integer> TAKES = new HashMap<>();

    static {
        String told = "3 u8,8 u1,9 s1,10 u2,11 s2,12 u4,13 s4,14 u8,15 s8,16 U,17 S,146 U S,6,148 u1,18,19,20,21 u1,22,23,25,31,32,35 U,"
            + "26,33,39,34,28,30,27,29,36,37,38,41,42,43,44,45,46,47 s2,40 s2,150,151,155,156,145 S,152 u2,153 u4,144 U,159,158 U B,147 U,157 U U";
        for (String one : told.split(",")) {
            String[] words = one.split(" ", 2);
            OPERANDS.put(Integer.parseInt(words[0]), words.length > 1 ? words[1] : "");
        }
        for (int n = 0; n < 32; n++) {
            OPERANDS.put(48 + n, "");
            OPERANDS.put(80 + n, "");
            OPERANDS.put(112 + n, "S");
        }
        int[][] takes = {{1, 6, 148, 18, 19, 25, 31, 32, 35, 40, 155, 159},
            {2, 20, 22, 26, 33, 39, 34, 28, 30, 27, 29, 36, 37, 38, 41, 42, 43, 44, 45, 46}, {3, 23}};
        for (int[] row : takes) {
            for (int i = 1; i < row.length; i++) {
                TAKES.put(row[i], row[0]);
            }
        }
    }

    final List<Integer> tape = new ArrayList<>();
    final long[] registers = new long[32];
    final int[] memory = new int[4096];
    final List<List<Integer>> expressions = new ArrayList<>();
    final List<List<Integer>> lists = new ArrayList<>();
    Integer frame;
    Integer cfaRegister;
    long cfaNumber;
    Long object;
    Long tls;
    List<Thing> result = List.of(Thing.EMPTY);
    List<Integer> out = List.of();
    int[] told = {NONE, NONE, NONE, NONE};
    private int fuelLeft;
    private int steps;
    private int most;

    Model() {
        for (int k = 0; k < 16; k++) {
            expressions.add(List.of());
        }
        for (int k = 0; k < 4; k++) {
            lists.add(List.of());
        }
    }

    int feed(int a, int b, int c, int d, int e) {
        if (tape.size() > 980) {
            return NONE;
        }
        for (int four : new int[] {a, b, c, d, e}) {
            for (byte one : BigInteger.valueOf(four & 0xFFFFFFFFL | 1L << 32).toByteArray()) {
                tape.add(one & 255);
            }
            tape.remove(tape.size() - 5);
        }
        return tape.size();
    }

    int end(int n) {
        if (n < 0 || n > tape.size()) {
            return NONE;
        }
        tape.subList(n, tape.size()).clear();
        return n;
    }

    int expression(int k) {
        return become(expressions, k);
    }

    int list(int k) {
        return become(lists, k);
    }

    private int become(List<List<Integer>> rows, int k) {
        if (k < 0 || k >= rows.size() || tape.size() > 600) {
            return NONE;
        }
        rows.set(k, List.copyOf(tape));
        tape.clear();
        return rows.get(k).size();
    }

    boolean load(int r, long v) {
        if (r < 0 || r > 31) {
            return false;
        }
        registers[r] = v;
        return true;
    }

    long register(int r) {
        return r < 0 || r > 31 ? 0 : registers[r];
    }

    boolean poke(int a, int v) {
        if (a < 0 || a > 4095) {
            return false;
        }
        memory[a] = Math.floorMod(v, 256);
        return true;
    }

    int peek(int a) {
        return a < 0 || a > 4095 ? NONE : memory[a];
    }

    boolean frame(int k) {
        if (k < -1 || k > 15) {
            return false;
        }
        frame = k == NONE ? null : Integer.valueOf(k);
        return true;
    }

    boolean cfa(int r, long d) {
        if (r < -1 || r > 31) {
            return false;
        }
        cfaRegister = r == NONE ? null : Integer.valueOf(r);
        cfaNumber = d;
        return true;
    }

    boolean set(int what, long v, boolean there) {
        Long number = there ? Long.valueOf(v) : null;
        if (what == 0) {
            object = number;
        } else if (what == 1) {
            tls = number;
        }
        return what == 0 || what == 1;
    }

    int run(int k, int fuel) {
        if (k < 0 || k > 15 || fuel < 1 || fuel > 1000) {
            return NONE;
        }
        return tellRun(expressions.get(k), fuel);
    }

    int find(int k, long base, long pc, int fuel) {
        if (k < 0 || k > 3 || fuel < 1 || fuel > 1000) {
            return NONE;
        }
        return findIn(lists.get(k), base, pc, fuel);
    }

    int findIn(List<Integer> list, long base, long pc, int fuel) {
        List<Integer> entry;
        try {
            entry = entryFor(list, base, pc);
        } catch (Fault fault) {
            told = new int[] {fault.code, fault.place, 0, 0};
            return fault.code;
        }
        if (entry == null) {
            result = List.of(Thing.EMPTY);
            told = new int[] {0, NONE, 0, 0};
            return 0;
        }
        return tellRun(entry, fuel);
    }

    private static List<Integer> entryFor(List<Integer> list, long firstBase, long pc) {
        long base = firstBase;
        int at = 0;
        while (true) {
            List<Integer> rest = list.subList(at, list.size());
            if (rest.size() < 16) {
                throw new Fault(1, at);
            }
            long begin = unsigned(rest.subList(0, 8)).longValue();
            long end = unsigned(rest.subList(8, 16)).longValue();
            if (begin == 0 && end == 0) {
                return null;
            }
            if (begin == -1L) {
                base = end;
                at += 16;
                continue;
            }
            if (rest.size() < 18 || rest.size() < 18 + unsigned(rest.subList(16, 18)).intValue()) {
                throw new Fault(1, at);
            }
            int size = unsigned(rest.subList(16, 18)).intValue();
            if (Long.compareUnsigned(base + begin, pc) <= 0 && Long.compareUnsigned(pc, base + end) < 0) {
                return rest.subList(18, 18 + size);
            }
            at += 18 + size;
        }
    }

    int tellRun(List<Integer> bytes, int fuel) {
        fuelLeft = fuel;
        steps = 0;
        most = 0;
        try {
            result = whole(bytes, new State(false), 0);
            told = new int[] {0, NONE, steps, most};
        } catch (Fault fault) {
            told = new int[] {fault.code, fault.place, steps, most};
        }
        return told[0];
    }

    /** A BASE for means(). */
    long baseAlone() {
        fuelLeft = 1000;
        return base(0);
    }

    private long base(int open) {
        if (frame == null) {
            throw new Fault(11, 0);
        }
        List<Thing> things = whole(expressions.get(frame), new State(true), open);
        Thing thing = things.get(0);
        if (thing.bits >= 0 || thing.kind == 0 || thing.kind == 4) {
            throw new Fault(11, 0);
        }
        return thing.kind == 2 ? registers[(int) thing.number] : thing.number;
    }

    private List<Thing> whole(List<Integer> bytes, State state, int open) {
        perform(bytes, state, open);
        boolean isLeft = state.hold != null || !state.stack.isEmpty();
        if (!state.pieces.isEmpty()) {
            if (isLeft) {
                throw new Fault(13, bytes.size());
            }
            return List.copyOf(state.pieces);
        }
        return List.of(thingOf(state));
    }

    private static Thing thingOf(State state) {
        if (state.hold != null) {
            return state.hold;
        }
        return state.stack.isEmpty() ? Thing.EMPTY : Thing.of(1, state.stack.get(state.stack.size() - 1));
    }

    private void perform(List<Integer> bytes, State state, int open) {
        int place = 0;
        while (place < bytes.size()) {
            try {
                place = operation(bytes, place, state, open);
            } catch (Fault fault) {
                throw new Fault(fault.code, place);
            }
        }
    }

    private int operation(List<Integer> bytes, int place, State state, int open) {
        if (fuelLeft == 0) {
            throw new Fault(12, place);
        }
        fuelLeft--;
        steps++;
        int op = bytes.get(place);
        if (!OPERANDS.containsKey(op)) {
            throw new Fault(2, place);
        }
        List<BigInteger> told = new ArrayList<>();
        int behind = operands(bytes, place + 1, OPERANDS.get(op), told);
        BigInteger u = told.isEmpty() ? BigInteger.ZERO : told.get(0);
        BigInteger v = told.size() < 2 ? BigInteger.ZERO : told.get(1);
        refuse(op, u, v, state);
        switch (op) {
            case 47: case 40:
                long next = op == 47 || pop(state) != 0 ? behind + u.longValueExact() : behind;
                if (next < 0 || next > bytes.size()) {
                    throw new Fault(7, place);
                }
                return (int) next;
            case 152: case 153:
                if (u.compareTo(BigInteger.valueOf(15)) > 0 || open == 8) {
                    throw new Fault(8, place);
                }
                perform(expressions.get(u.intValueExact()), state, open + 1);
                return behind;
            case 158:
                state.hold = Thing.block(bytes.subList(behind - u.intValueExact(), behind));
                return behind;
            default:
                simple(op, u.longValue(), v.longValue(), state, open);
                return behind;
        }
    }

    /** Reads operands from at on: where they end. A LEB without sign stays one; the number of bytes of B was told by the LEB ahead. */
    private static int operands(List<Integer> bytes, int from, String shape, List<BigInteger> told) {
        int at = from;
        for (String one : shape.isEmpty() ? new String[0] : shape.split(" ")) {
            if (one.equals("U") || one.equals("S")) {
                int size = lebSize(bytes, at);
                told.add(leb(bytes.subList(at, at + size), one.equals("S")));
                at += size;
            } else if (one.equals("B")) {
                if (told.get(0).compareTo(BigInteger.valueOf(bytes.size() - at)) > 0) {
                    throw new Fault(1, from);
                }
                at += told.get(0).intValueExact();
            } else {
                int size = one.charAt(1) - '0';
                if (at + size > bytes.size()) {
                    throw new Fault(1, from);
                }
                BigInteger number = unsigned(bytes.subList(at, at + size));
                boolean isBelow = one.charAt(0) == 's' && number.testBit(8 * size - 1);
                told.add(isBelow ? number.subtract(BigInteger.ONE.shiftLeft(8 * size)) : number);
                at += size;
            }
        }
        return at;
    }

    private static int lebSize(List<Integer> bytes, int at) {
        for (int size = 1; size <= 10; size++) {
            if (at + size > bytes.size()) {
                throw new Fault(1, at);
            }
            if (bytes.get(at + size - 1) < 128) {
                return size;
            }
        }
        throw new Fault(15, at);
    }

    private static BigInteger leb(List<Integer> bytes, boolean signed) {
        BigInteger number = BigInteger.ZERO;
        for (int i = 0; i < bytes.size(); i++) {
            number = number.add(BigInteger.valueOf(bytes.get(i) % 128).shiftLeft(7 * i));
        }
        number = number.mod(BigInteger.ONE.shiftLeft(64));
        int bits = 7 * bytes.size();
        if (signed && bits < 64 && number.testBit(bits - 1)) {
            return number.subtract(BigInteger.ONE.shiftLeft(bits));
        }
        return signed ? BigInteger.valueOf(number.longValue()) : number;
    }

    static BigInteger unsigned(List<Integer> bytes) {
        BigInteger number = BigInteger.ZERO;
        for (int i = bytes.size() - 1; i >= 0; i--) {
            number = number.shiftLeft(8).or(BigInteger.valueOf(bytes.get(i)));
        }
        return number;
    }

    private static boolean isAbove(BigInteger number, long bound) {
        return number.compareTo(BigInteger.valueOf(bound)) > 0;
    }

    /** 9, 14, 10, 13, 3 in this order. */
    private static void refuse(int op, BigInteger u, BigInteger v, State state) {
        if (state.hold != null && !List.of(147, 157, 150, 47, 152, 153).contains(op)) {
            throw new Fault(9, 0);
        }
        if ((op == 144 || op == 146) && isAbove(u, 31)) {
            throw new Fault(14, 0);
        }
        if (op == 148 && (u.signum() == 0 || isAbove(u, 8))) {
            throw new Fault(10, 0);
        }
        if (op == 147 || op == 157) {
            BigInteger bits = op == 147 ? u.shiftLeft(3) : u;
            for (Thing piece : state.pieces) {
                bits = bits.add(BigInteger.valueOf(piece.bits));
            }
            if (state.pieces.size() == 16 || isAbove(v, 4096) || isAbove(bits, 4096)) {
                throw new Fault(13, 0);
            }
        }
        int takes = op == 21 ? u.intValueExact() + 1 : TAKES.getOrDefault(op, 0);
        if (state.stack.size() < takes) {
            throw new Fault(3, 0);
        }
    }

    private static long pop(State state) {
        return state.stack.remove(state.stack.size() - 1);
    }

    private void push(State state, long v) {
        if (state.stack.size() == 128) {
            throw new Fault(4, 0);
        }
        state.stack.add(v);
        most = Math.max(most, state.stack.size());
    }

    private static long there(Long number) {
        if (number == null) {
            throw new Fault(11, 0);
        }
        return number;
    }

    long cfaThere() {
        return there(cfaRegister == null ? null : Long.valueOf(registers[cfaRegister] + cfaNumber));
    }

    long objectThere() {
        return there(object);
    }

    long tlsThere() {
        return there(tls);
    }

    long bytesAt(long a, int n) {
        List<Integer> bytes = new ArrayList<>();
        for (int i = 0; i < n; i++) {
            if (a < 0 || a > 4095 || a + i > 4095) {
                throw new Fault(5, 0);
            }
            bytes.add(memory[(int) a + i]);
        }
        return unsigned(bytes).longValue();
    }

    private void simple(int op, long u, long v, State state, int open) {
        int size = state.stack.size();
        if (op >= 48 && op < 80) {
            push(state, op - 48);
        } else if (op >= 80 && op < 112) {
            state.hold = Thing.of(2, op - 80);
        } else if (op >= 112 && op < 144) {
            push(state, registers[op - 112] + u);
        } else if (op == 144) {
            state.hold = Thing.of(2, u);
        } else if (op == 146) {
            push(state, registers[(int) u] + v);
        } else if (op == 3 || op >= 8 && op <= 17) {
            push(state, u);
        } else if (op == 18 || op == 20 || op == 21) {
            push(state, state.stack.get(size - 1 - (op == 18 ? 0 : op == 20 ? 1 : (int) u)));
        } else if (op == 22 || op == 23) {
            state.stack.add(size - (op == 22 ? 2 : 3), pop(state));
        } else if (op == 147 || op == 157) {
            state.pieces.add(thingOf(state).piece(op == 147 ? 8 * (int) u : (int) u, (int) v));
            state.hold = null;
            state.stack.clear();
        } else if (op == 145) {
            if (state.isFrame) {
                throw new Fault(11, 0);
            }
            push(state, base(open) + u);
        } else if (op == 151) {
            push(state, objectThere());
        } else if (op == 156) {
            push(state, cfaThere());
        } else if (op == 19) {
            pop(state);
        } else if (op == 159) {
            state.hold = Thing.of(3, pop(state));
        } else if (op != 150) {
            push(state, computed(op, u, state));
        }
    }

    private long computed(int op, long u, State state) {
        long t = pop(state);
        switch (op) {
            case 6:
                return bytesAt(t, 8);
            case 148:
                return bytesAt(t, (int) u);
            case 155:
                return tlsThere() + t;
            case 25:
                return BigInteger.valueOf(t).abs().longValue();
            case 31:
                return BigInteger.valueOf(t).negate().longValue();
            case 32:
                return BigInteger.valueOf(t).not().longValue();
            case 35:
                return t + u;
            default:
                return two(op, pop(state), t);
        }
    }

    static long two(int op, long s, long t) {
        BigInteger big = BigInteger.valueOf(s);
        BigInteger other = BigInteger.valueOf(t);
        BigInteger bare = big.mod(BigInteger.ONE.shiftLeft(64));
        BigInteger otherBare = other.mod(BigInteger.ONE.shiftLeft(64));
        int by = t < 0 || t > 63 ? 64 : (int) t;
        if ((op == 27 || op == 29) && t == 0) {
            throw new Fault(6, 0);
        }
        return switch (op) {
            case 26 -> big.and(other).longValue();
            case 33 -> big.or(other).longValue();
            case 39 -> big.xor(other).longValue();
            case 34 -> big.add(other).longValue();
            case 28 -> big.subtract(other).longValue();
            case 30 -> big.multiply(other).longValue();
            case 27 -> big.divide(other).longValue();
            case 29 -> bare.mod(otherBare).longValue();
            case 36 -> bare.shiftLeft(by).longValue();
            case 37 -> bare.shiftRight(by).longValue();
            case 38 -> big.shiftRight(by).longValue();
            case 41 -> big.compareTo(other) == 0 ? 1 : 0;
            case 42 -> big.compareTo(other) >= 0 ? 1 : 0;
            case 43 -> big.compareTo(other) > 0 ? 1 : 0;
            case 44 -> big.compareTo(other) <= 0 ? 1 : 0;
            case 45 -> big.compareTo(other) < 0 ? 1 : 0;
            case 46 -> big.compareTo(other) != 0 ? 1 : 0;
            default -> throw new IllegalArgumentException("operation " + op);
        };
    }

    int told(int what) {
        return what < 0 || what > 3 ? NONE : told[what];
    }

    int parts() {
        return result.size();
    }

    long part(int i, int what) {
        if (i < 0 || i >= result.size()) {
            return NONE;
        }
        Thing thing = result.get(i);
        switch (what) {
            case 0:
                return thing.kind;
            case 1:
                return thing.number;
            case 2:
                return Math.max(thing.bits, 0);
            case 3:
                return thing.first;
            default:
                return what < 100 || what - 100 >= thing.block.size() ? NONE : thing.block.get(what - 100);
        }
    }

    /** The first n bits: of each its thing and its number there. */
    private List<long[]> bits(int n) {
        List<long[]> all = new ArrayList<>();
        for (int p = 0; p < result.size(); p++) {
            Thing thing = result.get(p);
            int count = thing.bits < 0 ? n : thing.bits;
            for (int i = 0; i < count; i++) {
                all.add(new long[] {p, thing.first + i});
            }
        }
        return all.subList(0, Math.min(n, all.size()));
    }

    private Integer bit(Thing thing, long i) {
        long byteAt = thing.number + i / 8;
        return switch (thing.kind) {
            case 1 -> byteAt < 0 || byteAt > 4095 ? null : Integer.valueOf(memory[(int) byteAt] >> i % 8 & 1);
            case 2 -> i > 63 ? null : Integer.valueOf(BigInteger.valueOf(registers[(int) thing.number]).testBit((int) i) ? 1 : 0);
            case 3 -> i > 63 ? null : Integer.valueOf(BigInteger.valueOf(thing.number).testBit((int) i) ? 1 : 0);
            case 4 -> i / 8 >= thing.block.size() ? null : Integer.valueOf(thing.block.get((int) i / 8) >> i % 8 & 1);
            default -> null;
        };
    }

    int fetch(int n) {
        if (n < 1 || n > 512) {
            return NONE;
        }
        int there = 0;
        Integer[] bytes = new Integer[(n + 7) / 8];
        java.util.Arrays.fill(bytes, 0);
        List<long[]> all = bits(n);
        for (int i = 0; i < all.size(); i++) {
            Integer bit = bit(result.get((int) all.get(i)[0]), all.get(i)[1]);
            there += bit == null ? 0 : 1;
            bytes[i / 8] += bit == null ? 0 : bit << i % 8;
        }
        out = List.of(bytes);
        return there;
    }

    int store(int n) {
        if (n < 1 || n > 512 || 8 * tape.size() < n) {
            return NONE;
        }
        int stored = 0;
        List<long[]> all = bits(n);
        for (int i = 0; i < all.size(); i++) {
            Thing thing = result.get((int) all.get(i)[0]);
            long at = all.get(i)[1];
            if (thing.kind > 2 || bit(thing, at) == null) {
                continue;
            }
            boolean isOne = (tape.get(i / 8) >> i % 8 & 1) == 1;
            if (thing.kind == 1) {
                int a = (int) (thing.number + at / 8);
                memory[a] = changed(BigInteger.valueOf(memory[a]), (int) at % 8, isOne).intValue();
            } else {
                int r = (int) thing.number;
                registers[r] = changed(BigInteger.valueOf(registers[r]), (int) at, isOne).longValue();
            }
            stored++;
        }
        tape.clear();
        return stored;
    }

    private static BigInteger changed(BigInteger number, int bit, boolean isOne) {
        return isOne ? number.setBit(bit) : number.clearBit(bit);
    }

    int out(int i) {
        return i < 0 || i >= out.size() ? NONE : out.get(i);
    }
}
