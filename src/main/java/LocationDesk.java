import java.util.Arrays;

/** A debugger's desk: where variables are, told by DWARF expressions, lists of them, or a small language of places. */
public final class LocationDesk {
    public static final int NONE = -1;

    private static final int TAPE_SIZE = 1000;
    private static final int ROW_SIZE = 600;
    private static final int MOST_FUEL = 1000;
    private static final int MOST_BITS = 512;
    private static final int ENTRY_RANGE = 16;
    private static final int ENTRY_HEAD = 18;

    // What a part is of.
    private static final int EMPTY = 0;
    private static final int ADDRESS = 1;
    private static final int REGISTER = 2;
    private static final int VALUE = 3;
    private static final int BLOCK = 4;

    // The faults of runs; those of texts stand in Parser.
    private static final int ENDLESS = 1;
    private static final int NO_CODE = 2;
    private static final int TOO_FEW = 3;
    private static final int TOO_MANY = 4;
    private static final int NO_MEMORY = 5;
    private static final int BY_ZERO = 6;
    private static final int NO_TARGET = 7;
    private static final int NO_CALL = 8;
    private static final int HELD = 9;
    private static final int NO_WIDTH = 10;
    private static final int NOT_THERE = 11;
    private static final int NO_FUEL = 12;
    private static final int NO_PIECE = 13;
    private static final int NO_REGISTER = 14;
    private static final int LONG_LEB = 15;

    private final Machine machine;
    private final Run runner;
    private final Meaning meaning;
    private final Parser parser;
    private final Coder coder;
    private final Result result = new Result();
    private final int[] tape = new int[TAPE_SIZE];
    private final int[] fetched = new int[MOST_BITS / 8];
    private final int[] report = {NONE, NONE, NONE, NONE};
    private int tapeSize;
    private int fetchedSize;
    private Variable[] variables = new Variable[0];
    private int variableCount;

    public LocationDesk() {
        machine = new Machine();
        runner = new Run(machine, new Run(machine, null));
        meaning = new Meaning(machine, runner);
        parser = new Parser();
        coder = new Coder();
    }

    public int feed(int a, int b, int c, int d, int e) {
        if (tapeSize + 20 > TAPE_SIZE) {
            return NONE;
        }
        feedFour(a);
        feedFour(b);
        feedFour(c);
        feedFour(d);
        feedFour(e);
        return tapeSize;
    }

    private void feedFour(int four) {
        for (int shift = 24; shift >= 0 && tapeSize < TAPE_SIZE; shift -= 8) {
            tape[tapeSize] = four >>> shift & 255;
            tapeSize++;
        }
    }

    public int end(int n) {
        if (n < 0 || n > tapeSize) {
            return NONE;
        }
        tapeSize = n;
        return n;
    }

    public int expression(int k) {
        return tapeInto(machine.expressions, k);
    }

    public int list(int k) {
        return tapeInto(machine.lists, k);
    }

    // A fresh row each time: a BLOCK of the RESULT still refers to the row of before.
    private int tapeInto(int[][] rows, int k) {
        if (k < 0 || k >= rows.length || tapeSize > ROW_SIZE) {
            return NONE;
        }
        int size = tapeSize;
        rows[k] = Arrays.copyOf(tape, size);
        tapeSize = 0;
        return size;
    }

    public boolean load(int r, long v) {
        if (r < 0 || r >= machine.registers.length) {
            return false;
        }
        machine.registers[r] = v;
        return true;
    }

    public long register(int r) {
        return machine.registerValue(r);
    }

    public boolean poke(int a, int v) {
        if (a < 0 || a >= machine.memory.length) {
            return false;
        }
        machine.memory[a] = v & 255;
        return true;
    }

    public int peek(int a) {
        return a < 0 || a >= machine.memory.length ? NONE : machine.memory[a];
    }

    public boolean frame(int k) {
        if (k < NONE || k >= machine.expressions.length) {
            return false;
        }
        machine.frameNumber = k;
        return true;
    }

    public boolean cfa(int r, long d) {
        if (r < NONE || r >= machine.registers.length) {
            return false;
        }
        machine.cfaRegister = r;
        machine.cfaOffset = d;
        return true;
    }

    public boolean set(int what, long v, boolean there) {
        if (what == 0) {
            machine.object = v;
            machine.hasObject = there;
            return true;
        }
        if (what == 1) {
            machine.tls = v;
            machine.hasTls = there;
            return true;
        }
        return false;
    }

    public int run(int k, int fuel) {
        if (k < 0 || k >= machine.expressions.length || !isFuel(fuel)) {
            return NONE;
        }
        int[] code = machine.expressions[k];
        return runBytes(code, 0, code.length, fuel);
    }

    public int find(int k, long base, long pc, int fuel) {
        if (k < 0 || k >= machine.lists.length || !isFuel(fuel)) {
            return NONE;
        }
        return search(machine.lists[k], base, pc, fuel);
    }

    private static boolean isFuel(int fuel) {
        return fuel >= 1 && fuel <= MOST_FUEL;
    }

    private int runBytes(int[] code, int from, int to, int fuel) {
        int fault = runner.start(code, from, to, fuel);
        if (fault == 0) {
            result.take(runner.outcome);
        }
        tell(fault, runner.place, runner.steps, runner.most);
        return fault;
    }

    private int search(int[] entries, long base, long pc, int fuel) {
        long start = base;
        int at = 0;
        for (int entry = 0; entry <= ROW_SIZE / ENTRY_RANGE; entry++) {
            int left = entries.length - at;
            if (left < ENTRY_RANGE) {
                return endless(at);
            }
            long begin = number(entries, at, 8);
            long end = number(entries, at + 8, 8);
            if (begin == 0 && end == 0) {
                break;
            }
            if (begin == -1) {
                start = end;
                at += ENTRY_RANGE;
                continue;
            }
            if (left < ENTRY_HEAD) {
                return endless(at);
            }
            int size = (int) number(entries, at + ENTRY_RANGE, 2);
            if (left - ENTRY_HEAD < size) {
                return endless(at);
            }
            int first = at + ENTRY_HEAD;
            if (!isBelow(pc, start + begin) && isBelow(pc, start + end)) {
                return runBytes(entries, first, first + size, fuel);
            }
            at = first + size;
        }
        result.clear();
        tell(0, NONE, 0, 0);
        return 0;
    }

    private int endless(int place) {
        tell(ENDLESS, place, 0, 0);
        return ENDLESS;
    }

    private void tell(int fault, int place, int steps, int most) {
        report[0] = fault;
        report[1] = fault == 0 ? NONE : place;
        report[2] = steps;
        report[3] = most;
    }

    // Compares without sign.
    private static boolean isBelow(long a, long b) {
        return a + Long.MIN_VALUE < b + Long.MIN_VALUE;
    }

    private static long number(int[] bytes, int at, int count) {
        long value = 0;
        for (int i = 0; i < count && i < 8; i++) {
            if (at + i >= 0 && at + i < bytes.length) {
                value |= (long) bytes[at + i] << 8 * i;
            }
        }
        return value;
    }

    public int told(int what) {
        return what < 0 || what >= report.length ? NONE : report[what];
    }

    public int parts() {
        return result.count();
    }

    public long part(int i, int what) {
        if (i < 0 || i >= result.count()) {
            return NONE;
        }
        Part part = result.things[i];
        switch (what) {
            case 0:
                return part.kind;
            case 1:
                return part.number;
            case 2:
                return part.bits;
            case 3:
                return part.first;
            default:
                return part.blockByte((long) what - 100);
        }
    }

    public int fetch(int n) {
        if (n < 1 || n > MOST_BITS) {
            return NONE;
        }
        Arrays.fill(fetched, 0);
        fetchedSize = (n + 7) / 8;
        int there = 0;
        int at = 0;
        for (int p = 0; p < result.count(); p++) {
            Part part = result.things[p];
            int bits = result.pieces == 0 ? n : part.bits;
            for (int i = 0; i < bits && at < n; i++) {
                int bit = machine.bitOf(part, part.first + i);
                if (bit != NONE) {
                    there++;
                    fetched[at / 8] |= bit << at % 8;
                }
                at++;
            }
        }
        return there;
    }

    public int store(int n) {
        if (n < 1 || n > MOST_BITS || tapeSize * 8 < n) {
            return NONE;
        }
        int stored = 0;
        int at = 0;
        for (int p = 0; p < result.count(); p++) {
            Part part = result.things[p];
            int bits = result.pieces == 0 ? n : part.bits;
            for (int i = 0; i < bits && at < n; i++) {
                int bit = tape[at / 8] >>> at % 8 & 1;
                if (machine.putBit(part, part.first + i, bit)) {
                    stored++;
                }
                at++;
            }
        }
        tapeSize = 0;
        return stored;
    }

    public int out(int i) {
        return i < 0 || i >= fetchedSize ? NONE : fetched[i];
    }

    public int compile() {
        int size = tapeSize;
        tapeSize = 0;
        parser.begin(tape, size);
        for (int i = 0; i <= size && parser.goesOn(); i++) {
            parser.readDeclaration();
        }
        int fault = parser.fault;
        int place = parser.place;
        for (int i = 0; i < parser.count && fault == 0; i++) {
            Variable variable = parser.variables[i];
            variable.code = coder.code(variable);
            if (variable.code == null) {
                fault = Parser.TOO_LONG;
                place = variable.place;
            }
        }
        tell(fault, place, 0, 0);
        if (fault != 0) {
            return NONE;
        }
        variables = parser.variables;
        variableCount = parser.count;
        return variableCount;
    }

    private boolean isVariable(int i) {
        return i >= 0 && i < variableCount && i < variables.length;
    }

    public int variable(int i, int what) {
        if (!isVariable(i)) {
            return NONE;
        }
        Variable variable = variables[i];
        if (what == 0) {
            return variable.rows;
        }
        if (what == 1) {
            return variable.code.length;
        }
        if (what == 2) {
            return variable.name.length;
        }
        return what < 1000 ? byteAt(variable.code, (long) what - 100) : byteAt(variable.name, (long) what - 1000);
    }

    private static int byteAt(int[] bytes, long at) {
        return at < 0 || at >= bytes.length ? NONE : bytes[(int) at];
    }

    public int where(int i, long pc, int fuel) {
        if (!isVariable(i) || !isFuel(fuel)) {
            return NONE;
        }
        int[] code = variables[i].code;
        return variables[i].rows == 0 ? runBytes(code, 0, code.length, fuel) : search(code, 0, pc, fuel);
    }

    public int means(int i, long pc) {
        if (!isVariable(i)) {
            return NONE;
        }
        int fault = meaning.say(variables[i], pc);
        if (fault == 0) {
            result.take(meaning.outcome);
        }
        tell(fault, 0, 0, 0);
        return fault;
    }

    /** Registers, memory, rows of bytes, and what an expression may ask for. */
    private static final class Machine {
        private static final int REGISTERS = 32;
        private static final int MEMORY = 4096;

        private final long[] registers = new long[REGISTERS];
        private final int[] memory = new int[MEMORY];
        private final int[][] expressions = new int[16][0];
        private final int[][] lists = new int[4][0];
        private int frameNumber = NONE;
        private int cfaRegister = NONE;
        private long cfaOffset;
        private boolean hasObject;
        private long object;
        private boolean hasTls;
        private long tls;

        private long registerValue(long r) {
            return r < 0 || r >= registers.length ? 0 : registers[(int) r];
        }

        private long cfaValue() {
            return registerValue(cfaRegister) + cfaOffset;
        }

        private boolean hasBytes(long a, int count) {
            return a >= 0 && a <= memory.length - count;
        }

        private long bytes(long a, int count) {
            return hasBytes(a, count) ? number(memory, (int) a, count) : 0;
        }

        // NONE where the bit is NOWHERE.
        private int bitOf(Part part, int i) {
            switch (part.kind) {
                case ADDRESS:
                    long a = part.number + i / 8;
                    return hasBytes(a, 1) ? memory[(int) a] >>> i % 8 & 1 : NONE;
                case REGISTER:
                    return i < 64 ? (int) (registerValue(part.number) >>> i & 1) : NONE;
                case VALUE:
                    return i < 64 ? (int) (part.number >>> i & 1) : NONE;
                case BLOCK:
                    int b = part.blockByte(i / 8);
                    return b == NONE ? NONE : b >>> i % 8 & 1;
                default:
                    return NONE;
            }
        }

        private boolean putBit(Part part, int i, int bit) {
            if (part.kind == ADDRESS) {
                long a = part.number + i / 8;
                if (!hasBytes(a, 1)) {
                    return false;
                }
                memory[(int) a] = memory[(int) a] & ~(1 << i % 8) | bit << i % 8;
                return true;
            }
            long r = part.number;
            if (part.kind != REGISTER || i >= 64 || r < 0 || r >= registers.length) {
                return false;
            }
            registers[(int) r] = registers[(int) r] & ~(1L << i) | (long) bit << i;
            return true;
        }
    }

    /** One thing that a result tells, or that a run holds. */
    private static final class Part {
        private int kind;
        private long number;
        private int bits;
        private int first;
        private int[] block;
        private int blockFrom;

        private void become(int newKind, long newNumber) {
            kind = newKind;
            number = newNumber;
            bits = 0;
            first = 0;
        }

        private void becomeBlock(int[] bytes, int from, int count) {
            become(BLOCK, count);
            block = bytes;
            blockFrom = from;
        }

        private void take(Part other) {
            kind = other.kind;
            number = other.number;
            bits = other.bits;
            first = other.first;
            block = other.block;
            blockFrom = other.blockFrom;
        }

        private int blockByte(long k) {
            if (kind != BLOCK || block == null || k < 0 || k >= number) {
                return NONE;
            }
            return byteAt(block, blockFrom + k);
        }
    }

    /** What a run tells: one thing (pieces is 0), or pieces. */
    private static final class Result {
        private static final int MOST_PIECES = 16;

        private final Part[] things = new Part[MOST_PIECES];
        private int pieces;
        private int bits;

        private Result() {
            for (int i = 0; i < things.length; i++) {
                things[i] = new Part();
            }
        }

        private int count() {
            return pieces == 0 ? 1 : pieces;
        }

        private Part only() {
            return things[0];
        }

        private void clear() {
            pieces = 0;
            bits = 0;
            only().become(EMPTY, 0);
        }

        private void take(Result other) {
            pieces = other.pieces;
            bits = other.bits;
            for (int i = 0; i < other.count() && i < things.length; i++) {
                things[i].take(other.things[i]);
            }
        }

        private void addPiece(Part thing, int pieceBits, int first) {
            if (pieces >= things.length) {
                return;
            }
            Part piece = things[pieces];
            piece.take(thing);
            piece.bits = pieceBits;
            piece.first = first;
            pieces++;
            bits += pieceBits;
        }
    }

    /** Runs bytes as operations on a stack. */
    private static final class Run {
        private static final int STACK_SIZE = 128;
        private static final int MOST_CALLS = 8;
        private static final int MOST_PIECE_BITS = 4096;

        private static final int BRANCH = 40;
        private static final int SKIP = 47;
        private static final int PIECE = 147;
        private static final int BIT_PIECE = 157;

        private static final int SIGNED = 10;
        private static final int LEB = 20;
        private static final int SIGNED_LEB = 21;
        private static final int LEB_SIGNED_LEB = 22;
        private static final int TWO_LEBS = 23;
        private static final int LEB_AND_BYTES = 24;
        private static final int UNTOLD = 25;

        private final Machine machine;
        private final Run inner;
        private final long[] stack = new long[STACK_SIZE];
        private final Part hold = new Part();
        private final Result outcome = new Result();
        private int size;
        private int fuel;
        private int steps;
        private int most;
        private int place;
        private int cursor;
        private int target;
        private long operand;
        private long second;
        private long leb;
        private long basis;

        // Without an inner one this is the RUN of a FRAME, which has no BASE of its own.
        private Run(Machine machine, Run inner) {
            this.machine = machine;
            this.inner = inner;
        }

        private int start(int[] code, int from, int to, int newFuel) {
            reset(newFuel, 0);
            int fault = perform(code, from, to, 0);
            if (fault == 0) {
                fault = settle();
                place = to - from;
            }
            return fault;
        }

        private void reset(int newFuel, int already) {
            fuel = newFuel;
            steps = already;
            most = 0;
            size = 0;
            hold.become(EMPTY, 0);
            outcome.clear();
        }

        // The outermost level sets the place last, so that its own place is what stays.
        private int perform(int[] code, int from, int to, int open) {
            int at = from;
            for (int turn = 0; turn <= MOST_FUEL && at >= 0 && at < to && at < code.length; turn++) {
                int fault = step(code, at, to, open);
                if (fault == 0 && (target < from || target > to)) {
                    fault = NO_TARGET;
                }
                if (fault != 0) {
                    place = at - from;
                    return fault;
                }
                at = target;
            }
            return 0;
        }

        private int step(int[] code, int at, int to, int open) {
            if (steps >= fuel) {
                return NO_FUEL;
            }
            steps++;
            int op = code[at];
            cursor = at + 1;
            int fault = readOperands(code, to, shape(op));
            if (fault == 0) {
                fault = check(op);
            }
            if (fault != 0) {
                return fault;
            }
            int behind = cursor;
            if (op == SKIP || op == BRANCH) {
                target = op == SKIP || pop() != 0 ? behind + (int) operand : behind;
                return 0;
            }
            fault = op == 152 || op == 153 ? call(operand, open) : operate(op, code, open);
            target = behind;
            return fault;
        }

        // How the operands of a code are told: a count of bytes (SIGNED and more: with sign), or one of the names above.
        private static int shape(int op) {
            if (op >= 48 && op <= 111) {
                return 0;
            }
            if (op >= 112 && op <= 143) {
                return SIGNED_LEB;
            }
            switch (op) {
                case 8: case 21: case 148:
                    return 1;
                case 10: case 152:
                    return 2;
                case 12: case 153:
                    return 4;
                case 3: case 14:
                    return 8;
                case 9:
                    return SIGNED + 1;
                case 11: case BRANCH: case SKIP:
                    return SIGNED + 2;
                case 13:
                    return SIGNED + 4;
                case 15:
                    return SIGNED + 8;
                case 16: case 35: case 144: case PIECE:
                    return LEB;
                case 17: case 145:
                    return SIGNED_LEB;
                case 146:
                    return LEB_SIGNED_LEB;
                case BIT_PIECE:
                    return TWO_LEBS;
                case 158:
                    return LEB_AND_BYTES;
                case 6: case 18: case 19: case 20: case 22: case 23:
                case 150: case 151: case 155: case 156: case 159:
                    return 0;
                default:
                    return op >= 25 && op <= 46 ? 0 : UNTOLD;
            }
        }

        private int readOperands(int[] code, int to, int shape) {
            if (shape == UNTOLD) {
                return NO_CODE;
            }
            if (shape < LEB) {
                return readNumber(code, to, shape);
            }
            int fault = readLeb(code, to, shape == SIGNED_LEB);
            operand = leb;
            if (fault == 0 && (shape == LEB_SIGNED_LEB || shape == TWO_LEBS)) {
                fault = readLeb(code, to, shape == LEB_SIGNED_LEB);
                second = leb;
            }
            if (fault == 0 && shape == LEB_AND_BYTES) {
                if (operand < 0 || operand > to - cursor) {
                    return ENDLESS;
                }
                second = cursor;
                cursor += (int) operand;
            }
            return fault;
        }

        private int readNumber(int[] code, int to, int shape) {
            int count = shape > SIGNED ? shape - SIGNED : shape;
            if (to - cursor < count) {
                return ENDLESS;
            }
            operand = number(code, cursor, count);
            if (shape > SIGNED) {
                int unused = 64 - 8 * count;
                operand = operand << unused >> unused;
            }
            cursor += count;
            return 0;
        }

        private int readLeb(int[] code, int to, boolean signed) {
            leb = 0;
            for (int i = 0; i < 10; i++) {
                if (cursor < 0 || cursor >= to || cursor >= code.length) {
                    return ENDLESS;
                }
                int b = code[cursor];
                cursor++;
                leb |= (long) (b & 127) << 7 * i;
                if (b < 128) {
                    if (signed && i < 9 && (b & 64) != 0) {
                        leb |= -1L << 7 * i + 7;
                    }
                    return 0;
                }
            }
            return LONG_LEB;
        }

        private int check(int op) {
            if (hold.kind != EMPTY && !goesWithHold(op)) {
                return HELD;
            }
            if ((op == 144 || op == 146) && (operand < 0 || operand >= Machine.REGISTERS)) {
                return NO_REGISTER;
            }
            if (op == 148 && (operand < 1 || operand > 8)) {
                return NO_WIDTH;
            }
            if ((op == PIECE || op == BIT_PIECE) && isTooMuch(op)) {
                return NO_PIECE;
            }
            return size < wanted(op) ? TOO_FEW : 0;
        }

        private static boolean goesWithHold(int op) {
            return op == PIECE || op == BIT_PIECE || op == 150 || op == SKIP || op == 152 || op == 153;
        }

        private boolean isTooMuch(int op) {
            int scale = op == PIECE ? 8 : 1;
            if (outcome.pieces >= Result.MOST_PIECES || operand < 0 || operand > MOST_PIECE_BITS / scale) {
                return true;
            }
            if (op == BIT_PIECE && (second < 0 || second > MOST_PIECE_BITS)) {
                return true;
            }
            return outcome.bits + operand * scale > MOST_PIECE_BITS;
        }

        private int wanted(int op) {
            switch (op) {
                case 6: case 18: case 19: case 25: case 31: case 32: case 35: case BRANCH: case 148: case 155: case 159:
                    return 1;
                case 20: case 22:
                    return 2;
                case 21:
                    return (int) operand + 1;
                case 23:
                    return 3;
                default:
                    return op >= 26 && op <= 46 ? 2 : 0;
            }
        }

        private int call(long k, int open) {
            if (k < 0 || k >= machine.expressions.length || open >= MOST_CALLS) {
                return NO_CALL;
            }
            int[] code = machine.expressions[(int) k];
            return perform(code, 0, code.length, open + 1);
        }

        private int operate(int op, int[] code, int open) {
            if (op >= 48 && op <= 79) {
                return push(op - 48);
            }
            if (op >= 80 && op <= 111) {
                hold.become(REGISTER, op - 80);
                return 0;
            }
            if (op >= 112 && op <= 143) {
                return push(machine.registerValue(op - 112) + operand);
            }
            if (op == 3 || op >= 8 && op <= 17) {
                return push(operand);
            }
            if (op >= 18 && op <= 23) {
                return shuffle(op);
            }
            if (op == 25 || op == 31 || op == 32 || op == 35) {
                return push(changed(op, pop()));
            }
            if (op >= 26 && op <= 46) {
                long t = pop();
                long s = pop();
                return (op == 27 || op == 29) && t == 0 ? BY_ZERO : push(joined(op, s, t));
            }
            if (op == PIECE || op == BIT_PIECE) {
                return op == PIECE ? addPiece((int) operand * 8, 0) : addPiece((int) operand, (int) second);
            }
            return op == 158 || op == 159 ? keep(op, code) : ask(op, open);
        }

        private int push(long v) {
            if (size >= stack.length) {
                return TOO_MANY;
            }
            stack[size] = v;
            size++;
            most = Math.max(most, size);
            return 0;
        }

        private int pushBytes(long a, int count) {
            return machine.hasBytes(a, count) ? push(machine.bytes(a, count)) : NO_MEMORY;
        }

        private long pop() {
            if (size <= 0 || size > stack.length) {
                return 0;
            }
            size--;
            return stack[size];
        }

        private long below(int others) {
            int at = size - 1 - others;
            return at < 0 || at >= stack.length ? 0 : stack[at];
        }

        private int shuffle(int op) {
            switch (op) {
                case 18:
                    return push(below(0));
                case 19:
                    pop();
                    return 0;
                case 20:
                    return push(below(1));
                case 21:
                    return push(below((int) operand));
                default:
                    break;
            }
            long t = pop();
            long s = pop();
            if (op == 22) {
                push(t);
                return push(s);
            }
            long under = pop();
            push(t);
            push(under);
            return push(s);
        }

        private long changed(int op, long t) {
            switch (op) {
                case 25:
                    return t < 0 ? -t : t;
                case 31:
                    return -t;
                case 32:
                    return ~t;
                default:
                    return t + operand;
            }
        }

        private int ask(int op, int open) {
            switch (op) {
                case 6:
                    return pushBytes(pop(), 8);
                case 148:
                    return pushBytes(pop(), (int) operand);
                case 144:
                    hold.become(REGISTER, operand);
                    return 0;
                case 145:
                    long plus = operand;
                    int fault = base(fuel, steps, open);
                    return fault == 0 ? push(basis + plus) : fault;
                case 146:
                    return push(machine.registerValue(operand) + second);
                case 151:
                    return machine.hasObject ? push(machine.object) : NOT_THERE;
                case 155:
                    return machine.hasTls ? push(machine.tls + pop()) : NOT_THERE;
                case 156:
                    return machine.cfaRegister == NONE ? NOT_THERE : push(machine.cfaValue());
                default:
                    return 0;
            }
        }

        private int keep(int op, int[] code) {
            if (op == 158) {
                hold.becomeBlock(code, (int) second, (int) operand);
            } else {
                hold.become(VALUE, pop());
            }
            return 0;
        }

        private int addPiece(int bits, int first) {
            holdTop();
            outcome.addPiece(hold, bits, first);
            hold.become(EMPTY, 0);
            size = 0;
            return 0;
        }

        private void holdTop() {
            if (hold.kind == EMPTY && size > 0) {
                hold.become(ADDRESS, below(0));
            }
        }

        // What stands at the end becomes the outcome.
        private int settle() {
            if (outcome.pieces > 0) {
                return hold.kind != EMPTY || size > 0 ? NO_PIECE : 0;
            }
            holdTop();
            outcome.only().take(hold);
            return 0;
        }

        private int base(int newFuel, int already, int open) {
            int k = machine.frameNumber;
            if (inner == null || k < 0 || k >= machine.expressions.length) {
                return NOT_THERE;
            }
            int[] code = machine.expressions[k];
            inner.reset(newFuel, already);
            int fault = inner.perform(code, 0, code.length, open);
            if (fault == 0) {
                fault = inner.settle();
            }
            steps = inner.steps;
            most = Math.max(most, inner.most);
            return fault == 0 ? takeBase(inner.outcome) : fault;
        }

        private int takeBase(Result told) {
            Part thing = told.only();
            if (told.pieces > 0 || thing.kind == EMPTY || thing.kind == BLOCK) {
                return NOT_THERE;
            }
            basis = thing.kind == REGISTER ? machine.registerValue(thing.number) : thing.number;
            return 0;
        }

        // By 0 is refused ahead of it; here it would be 0.
        private static long joined(int op, long s, long t) {
            switch (op) {
                case 26:
                    return s & t;
                case 27:
                    return t == 0 ? 0 : s / t;
                case 28:
                    return s - t;
                case 29:
                    return restWithoutSign(s, t);
                case 30:
                    return s * t;
                case 33:
                    return s | t;
                case 34:
                    return s + t;
                case 36: case 37: case 38:
                    return shifted(op, s, t);
                case 39:
                    return s ^ t;
                default:
                    return compared(op, s, t) ? 1 : 0;
            }
        }

        private static long shifted(int op, long s, long t) {
            if (t < 0 || t > 63) {
                return op == 38 && s < 0 ? -1 : 0;
            }
            int by = (int) t;
            return op == 36 ? s << by : op == 37 ? s >>> by : s >> by;
        }

        private static boolean compared(int op, long s, long t) {
            switch (op) {
                case 41:
                    return s == t;
                case 42:
                    return s >= t;
                case 43:
                    return s > t;
                case 44:
                    return s <= t;
                case 45:
                    return s < t;
                default:
                    return s != t;
            }
        }

        private static long restWithoutSign(long s, long t) {
            if (t == 0) {
                return 0;
            }
            if (t < 0) {
                return isBelow(s, t) ? s : s - t;
            }
            if (s >= 0) {
                return s % t;
            }
            // Half of s fits with sign; the quotient twice that of the half is too small by one at most.
            long rest = s - ((s >>> 1) / t << 1) * t;
            return isBelow(rest, t) ? rest : rest - t;
        }
    }

    /** A part of an E. Operands of one chain follow one another by next, each with the sign ahead of it. */
    private static final class Node {
        private final int kind;
        private long number;
        private int sign;
        private Node first;
        private Node yes;
        private Node no;
        private Node next;

        private Node(int kind, long number) {
            this.kind = kind;
            this.number = number;
        }
    }

    /** A place of the language; bytes is NONE where it is no piece. */
    private static final class Place {
        private int kind;
        private long number;
        private Node e;
        private int[] block;
        private int bytes = NONE;
        private Place next;
    }

    /** A variable of the language: rows of ranges, or one location (rows is 0). */
    private static final class Variable {
        private static final int MOST_ROWS = 8;

        private final int[] name;
        private final int place;
        private final long[] from = new long[MOST_ROWS];
        private final long[] to = new long[MOST_ROWS];
        private final Place[] places = new Place[MOST_ROWS];
        private int rows;
        private int[] code = new int[0];

        private Variable(int[] name, int place) {
            this.name = name;
            this.place = place;
        }
    }

    /** Reads a text token by token. A sign of one letter has that letter's number as its kind. */
    private static final class Reader {
        private static final int STOP = 1;
        private static final int FINISH = 2;
        private static final int BAD = 3;
        private static final int NAME = 4;
        private static final int NUMBER = 5;
        private static final int AT = 6;
        private static final int REG = 7;
        private static final int VALUE_WORD = 8;
        private static final int BYTES = 9;
        private static final int NOTHING = 10;
        private static final int FB = 11;
        private static final int CFA = 12;
        private static final int OBJ = 13;
        private static final int TLS = 14;
        private static final int DIV = 15;
        private static final int MOD = 16;
        private static final int DOTS = 17;
        private static final int SAME = 18;
        private static final int UNLIKE = 19;
        private static final int NOT_ABOVE = 20;
        private static final int NOT_LESS = 21;
        private static final int LEFT = 22;
        private static final int RIGHT = 23;
        private static final int BARE_RIGHT = 24;

        private static final String SIGNS = "=;,:{}[]()/%?|^&<>+-*~";
        private static final int MOST_LETTERS = 8;
        private static final int MOST_DIGITS = 18;

        private final int[] kinds = new int[TAPE_SIZE + 1];
        private final long[] numbers = new long[TAPE_SIZE + 1];
        private final int[] places = new int[TAPE_SIZE + 1];
        private final int[] ends = new int[TAPE_SIZE + 1];
        private int count;
        private int[] text = new int[0];
        private int size;
        private int place;
        private int behind;
        private int kind;
        private long number;

        // All tokens up to the end, or up to the first that is none: nothing is read behind that.
        private void readAll(int[] newText, int newSize) {
            text = newText;
            size = Math.min(newSize, newText.length);
            behind = 0;
            count = 0;
            kind = STOP;
            while (count < kinds.length && kind != FINISH && kind != BAD) {
                readToken();
                kinds[count] = kind;
                numbers[count] = number;
                places[count] = place;
                ends[count] = behind;
                count++;
            }
        }

        private void readToken() {
            while (behind < size && (text[behind] == 10 || text[behind] == 32)) {
                behind++;
            }
            place = behind;
            int c = letter(behind);
            if (c == NONE) {
                kind = FINISH;
            } else if (isSmall(c)) {
                readWord();
            } else if (isDigit(c)) {
                readNumber();
            } else if (c == '@') {
                readAt();
            } else {
                readSign(c);
            }
        }

        private int letter(int at) {
            return at < 0 || at >= size || at >= text.length ? NONE : text[at];
        }

        private static boolean isSmall(int c) {
            return c >= 'a' && c <= 'z';
        }

        private static boolean isDigit(int c) {
            return c >= '0' && c <= '9';
        }

        private void readWord() {
            int letters = 0;
            while (letters < MOST_LETTERS && (isSmall(letter(place + letters)) || isDigit(letter(place + letters)))) {
                letters++;
            }
            behind = place + letters;
            kind = wordKind();
        }

        private int wordKind() {
            switch (letter(place)) {
                case 'r':
                    return isWord("reg") ? REG : NAME;
                case 'v':
                    return isWord("value") ? VALUE_WORD : NAME;
                case 'b':
                    return isWord("bytes") ? BYTES : NAME;
                case 'n':
                    return isWord("none") ? NOTHING : NAME;
                case 'f':
                    return isWord("fb") ? FB : NAME;
                case 'c':
                    return isWord("cfa") ? CFA : NAME;
                case 'o':
                    return isWord("obj") ? OBJ : NAME;
                case 't':
                    return isWord("tls") ? TLS : NAME;
                case 'd':
                    return isWord("div") ? DIV : NAME;
                case 'm':
                    return isWord("mod") ? MOD : NAME;
                default:
                    return NAME;
            }
        }

        private boolean isWord(String word) {
            if (behind - place != word.length()) {
                return false;
            }
            for (int i = 0; i < word.length(); i++) {
                if (letter(place + i) != word.charAt(i)) {
                    return false;
                }
            }
            return true;
        }

        private void readNumber() {
            number = 0;
            int digits = 0;
            while (digits < MOST_DIGITS && isDigit(letter(place + digits))) {
                number = number * 10 + (letter(place + digits) - '0');
                digits++;
            }
            behind = place + digits;
            int c = letter(behind);
            kind = isDigit(c) || isSmall(c) || c >= 'A' && c <= 'Z' ? BAD : NUMBER;
        }

        private void readAt() {
            int digit = letter(place + 1) - '0';
            number = digit;
            kind = digit >= 1 && digit <= 8 ? AT : BAD;
            behind = place + 2;
        }

        private void readSign(int c) {
            int two = letter(place + 1);
            kind = signOfTwo(c, two);
            if (kind == RIGHT && letter(place + 2) == '>') {
                kind = BARE_RIGHT;
                behind = place + 3;
            } else if (kind != BAD) {
                behind = place + 2;
            } else {
                kind = SIGNS.indexOf((char) c) >= 0 ? c : BAD;
                behind = place + 1;
            }
        }

        private static int signOfTwo(int c, int two) {
            if (two == '=') {
                return c == '=' ? SAME : c == '!' ? UNLIKE : c == '<' ? NOT_ABOVE : c == '>' ? NOT_LESS : BAD;
            }
            if (c != two) {
                return BAD;
            }
            return c == '.' ? DOTS : c == '<' ? LEFT : c == '>' ? RIGHT : BAD;
        }

        private int[] letters(int token) {
            if (token < 0 || token >= count || ends[token] > text.length || places[token] > ends[token]) {
                return new int[0];
            }
            return Arrays.copyOfRange(text, places[token], ends[token]);
        }
    }

    /** Reads a text as declarations. After the first fault no token goes on, so that all reading ends. */
    private static final class Parser {
        private static final int UNFIT = 1;
        private static final int HIGH_REGISTER = 2;
        private static final int OUT_OF_RANGE = 3;
        private static final int NAMED_TWICE = 4;
        private static final int TOO_DEEP = 5;
        private static final int ONE_TOO_MANY = 6;
        private static final int TOO_LONG = 7;

        private static final int MOST_VARIABLES = 12;
        private static final int MOST_PARTS = 8;
        private static final int MOST_BLOCK = 64;
        private static final int MOST_OPEN = 12;
        private static final int CHAIN = 25;
        private static final int COMPARISONS = 3;
        private static final int LEVELS = 7;

        private final Reader reader = new Reader();
        private final int[] row = new int[MOST_BLOCK];
        private Variable[] variables = new Variable[0];
        private int count;
        private int open;
        private int fault;
        private int place;
        private int token;
        private int kind;
        private long number;

        private void begin(int[] text, int size) {
            reader.readAll(text, size);
            variables = new Variable[MOST_VARIABLES];
            count = 0;
            open = 0;
            fault = 0;
            place = NONE;
            token = NONE;
            take();
        }

        private boolean goesOn() {
            return fault == 0 && kind != Reader.FINISH;
        }

        private void take() {
            if (fault == 0 && token + 1 < reader.count) {
                token++;
                kind = reader.kinds[token];
                number = reader.numbers[token];
            }
        }

        private void refuse(int code) {
            if (fault == 0 && token >= 0 && token < reader.count) {
                fault = code;
                place = reader.places[token];
                kind = Reader.STOP;
            }
        }

        private void expect(int wanted) {
            if (kind == wanted) {
                take();
            } else {
                refuse(UNFIT);
            }
        }

        private boolean raise() {
            if (open >= MOST_OPEN) {
                refuse(TOO_DEEP);
                return false;
            }
            open++;
            return true;
        }

        private void readDeclaration() {
            int[] name = reader.letters(token);
            if (kind != Reader.NAME) {
                refuse(UNFIT);
            } else if (isKnown(name)) {
                refuse(NAMED_TWICE);
            } else if (count >= variables.length) {
                refuse(ONE_TOO_MANY);
            } else {
                Variable variable = new Variable(name, reader.places[token]);
                variables[count] = variable;
                count++;
                take();
                expect('=');
                if (kind == Reader.NUMBER) {
                    readRows(variable);
                } else {
                    variable.places[0] = readLocation();
                }
                expect(';');
            }
        }

        private boolean isKnown(int[] name) {
            for (int i = 0; i < count && i < variables.length; i++) {
                if (areSame(variables[i].name, name)) {
                    return true;
                }
            }
            return false;
        }

        private static boolean areSame(int[] a, int[] b) {
            if (a.length != b.length) {
                return false;
            }
            for (int i = 0; i < a.length; i++) {
                if (a[i] != b[i]) {
                    return false;
                }
            }
            return true;
        }

        private void readRows(Variable variable) {
            readRange(variable, 0);
            variable.places[0] = readLocation();
            for (int r = 1; r <= Variable.MOST_ROWS && kind == ','; r++) {
                take();
                readRange(variable, r);
                if (r < Variable.MOST_ROWS) {
                    variable.places[r] = readLocation();
                }
            }
        }

        private void readRange(Variable variable, int r) {
            if (kind != Reader.NUMBER) {
                refuse(UNFIT);
                return;
            }
            if (r < 0 || r >= Variable.MOST_ROWS) {
                refuse(ONE_TOO_MANY);
                return;
            }
            variable.rows = r + 1;
            variable.from[r] = number;
            take();
            expect(Reader.DOTS);
            if (kind == Reader.NUMBER && number <= variable.from[r]) {
                refuse(OUT_OF_RANGE);
            }
            variable.to[r] = number;
            expect(Reader.NUMBER);
            expect(':');
        }

        private Place readLocation() {
            if (kind != '{' || !raise()) {
                return readPlace();
            }
            take();
            Place first = readPlace();
            readWidth(first);
            Place last = first;
            for (int i = 1; i <= MOST_PARTS && kind == ','; i++) {
                take();
                if (i == MOST_PARTS && beginsPlace(kind)) {
                    refuse(ONE_TOO_MANY);
                }
                last.next = readPlace();
                last = last.next;
                readWidth(last);
            }
            expect('}');
            open--;
            return first;
        }

        private void readWidth(Place piece) {
            expect('/');
            if (kind == Reader.NUMBER && number > 64) {
                refuse(OUT_OF_RANGE);
            }
            piece.bytes = (int) number;
            expect(Reader.NUMBER);
        }

        private static boolean beginsPlace(int kind) {
            return kind == Reader.REG || kind == '[' || kind == Reader.VALUE_WORD || kind == Reader.BYTES || kind == Reader.NOTHING;
        }

        private Place readPlace() {
            Place told = new Place();
            int word = kind;
            if (!beginsPlace(word)) {
                refuse(UNFIT);
            } else if (word != '[' || raise()) {
                take();
            }
            if (word == Reader.REG) {
                told.kind = REGISTER;
                told.number = refuseHighRegister();
                expect(Reader.NUMBER);
            } else if (word == '[') {
                told.kind = ADDRESS;
                told.e = readChoice();
                expect(']');
                open--;
            } else if (word == Reader.VALUE_WORD) {
                told.kind = VALUE;
                told.e = readChoice();
            } else if (word == Reader.BYTES) {
                told.kind = BLOCK;
                told.block = readBlock();
            }
            return told;
        }

        private long refuseHighRegister() {
            if (kind == Reader.NUMBER && number >= Machine.REGISTERS) {
                refuse(HIGH_REGISTER);
            }
            return number;
        }

        private int[] readBlock() {
            int size = 0;
            for (int i = 0; i <= row.length && kind == Reader.NUMBER; i++) {
                if (number > 255) {
                    refuse(OUT_OF_RANGE);
                } else if (size >= row.length) {
                    refuse(ONE_TOO_MANY);
                } else {
                    row[size] = (int) number;
                    size++;
                    take();
                }
            }
            if (size == 0) {
                refuse(UNFIT);
            }
            return Arrays.copyOf(row, size);
        }

        private Node readChoice() {
            Node e = readLevel(0);
            if (kind != '?' || !raise()) {
                return e;
            }
            Node choice = new Node('?', 0);
            choice.first = e;
            take();
            choice.yes = readChoice();
            // Here the ? closes and its : opens: as many are open as before.
            expect(':');
            choice.no = readChoice();
            open--;
            return choice;
        }

        private Node readLevel(int level) {
            if (level >= LEVELS) {
                return readUnary();
            }
            Node first = readLevel(level + 1);
            if (levelOf(kind) != level) {
                return first;
            }
            Node chain = new Node(CHAIN, 0);
            chain.first = first;
            Node last = first;
            int most = level == COMPARISONS ? 1 : TAPE_SIZE;
            for (int i = 0; i < most && levelOf(kind) == level; i++) {
                int sign = kind;
                take();
                last.next = readLevel(level + 1);
                last = last.next;
                last.sign = sign;
            }
            return chain;
        }

        private static int levelOf(int kind) {
            switch (kind) {
                case '|':
                    return 0;
                case '^':
                    return 1;
                case '&':
                    return 2;
                case Reader.SAME: case Reader.UNLIKE: case '<': case Reader.NOT_ABOVE: case '>': case Reader.NOT_LESS:
                    return COMPARISONS;
                case Reader.LEFT: case Reader.RIGHT: case Reader.BARE_RIGHT:
                    return 4;
                case '+': case '-':
                    return 5;
                case '*': case Reader.DIV: case Reader.MOD:
                    return 6;
                default:
                    return NONE;
            }
        }

        private Node readUnary() {
            Node node = new Node(kind, number);
            switch (node.kind) {
                case Reader.NUMBER: case Reader.FB: case Reader.CFA: case Reader.OBJ:
                    take();
                    break;
                case '%':
                    take();
                    node.number = refuseHighRegister();
                    expect(Reader.NUMBER);
                    break;
                case '-': case '~': case Reader.AT: case Reader.TLS:
                    if (raise()) {
                        take();
                        node.first = readUnary();
                        open--;
                    }
                    break;
                case '(':
                    if (raise()) {
                        take();
                        node.first = readChoice();
                        expect(')');
                        open--;
                    }
                    break;
                default:
                    refuse(UNFIT);
                    break;
            }
            return node;
        }

        // Of a sign that stands between two.
        private static int operationOf(int sign) {
            switch (sign) {
                case '|':
                    return 33;
                case '^':
                    return 39;
                case '&':
                    return 26;
                case Reader.SAME:
                    return 41;
                case Reader.UNLIKE:
                    return 46;
                case '<':
                    return 45;
                case Reader.NOT_ABOVE:
                    return 44;
                case '>':
                    return 43;
                case Reader.NOT_LESS:
                    return 42;
                case Reader.LEFT:
                    return 36;
                case Reader.RIGHT:
                    return 38;
                case Reader.BARE_RIGHT:
                    return 37;
                case '+':
                    return 34;
                case '-':
                    return 28;
                case '*':
                    return 30;
                case Reader.DIV:
                    return 27;
                default:
                    return 29;
            }
        }
    }

    /** Writes variables as bytes. What does not fit is counted, not written. */
    private static final class Coder {
        private static final int MOST_EXPRESSION = 300;
        private static final int MOST_DEPTH = 120;

        private final int[] buffer = new int[ROW_SIZE];
        private int size;

        // null: it is too long.
        private int[] code(Variable variable) {
            size = 0;
            boolean fits = true;
            if (variable.rows == 0) {
                fits = putLocation(variable.places[0]);
            }
            for (int r = 0; r < variable.rows && r < Variable.MOST_ROWS; r++) {
                putNumber(variable.from[r], 8);
                putNumber(variable.to[r], 8);
                int head = size;
                putNumber(0, 2);
                fits &= putLocation(variable.places[r]);
                patch(head, size - head - 2);
            }
            if (variable.rows > 0) {
                putNumber(0, 8);
                putNumber(0, 8);
            }
            return fits && size <= buffer.length ? Arrays.copyOf(buffer, size) : null;
        }

        private boolean putLocation(Place location) {
            int start = size;
            for (Place place = location; place != null; place = place.next) {
                putPlace(place);
                if (place.bytes != NONE) {
                    put(147);
                    putLeb(place.bytes);
                }
            }
            return size - start <= MOST_EXPRESSION;
        }

        private void putPlace(Place place) {
            switch (place.kind) {
                case REGISTER:
                    put(80 + (int) place.number);
                    break;
                case ADDRESS:
                    putNode(place.e, 0);
                    break;
                case VALUE:
                    putNode(place.e, 0);
                    put(159);
                    break;
                case BLOCK:
                    putBlock(place.block);
                    break;
                default:
                    break;
            }
        }

        private void putBlock(int[] bytes) {
            if (bytes == null) {
                return;
            }
            put(158);
            putLeb(bytes.length);
            for (int i = 0; i < bytes.length; i++) {
                put(bytes[i]);
            }
        }

        private void putNode(Node node, int depth) {
            if (node == null || depth > MOST_DEPTH) {
                return;
            }
            switch (node.kind) {
                case Reader.NUMBER:
                    putConstant(node.number);
                    break;
                case '%': case Reader.FB:
                    putBased(node, 0);
                    break;
                case Reader.CFA:
                    put(156);
                    break;
                case Reader.OBJ:
                    put(151);
                    break;
                case '?':
                    putChoice(node, depth);
                    break;
                case Parser.CHAIN:
                    putChain(node, depth);
                    break;
                default:
                    putNode(node.first, depth + 1);
                    putUnary(node);
                    break;
            }
        }

        private void putUnary(Node node) {
            switch (node.kind) {
                case '-':
                    put(31);
                    break;
                case '~':
                    put(32);
                    break;
                case Reader.TLS:
                    put(155);
                    break;
                case Reader.AT:
                    if (node.number == 8) {
                        put(6);
                    } else {
                        put(148);
                        put((int) node.number);
                    }
                    break;
                default:
                    break;
            }
        }

        private void putChoice(Node node, int depth) {
            putNode(node.first, depth + 1);
            put(Run.BRANCH);
            int toYes = size;
            putNumber(0, 2);
            putNode(node.no, depth + 1);
            put(Run.SKIP);
            int toEnd = size;
            putNumber(0, 2);
            patch(toYes, size - toYes - 2);
            putNode(node.yes, depth + 1);
            patch(toEnd, size - toEnd - 2);
        }

        private void putChain(Node chain, int depth) {
            Node first = chain.first;
            if (first == null) {
                return;
            }
            Node rest = first.next;
            if (isBased(first) && isPlainTerm(rest)) {
                putBased(first, rest.sign == '-' ? -rest.number : rest.number);
                rest = rest.next;
            } else {
                putNode(first, depth + 1);
            }
            for (Node node = rest; node != null; node = node.next) {
                if (node.sign == '+' && node.kind == Reader.NUMBER) {
                    put(35);
                    putLeb(node.number);
                } else {
                    putNode(node, depth + 1);
                    put(Parser.operationOf(node.sign));
                }
            }
        }

        private static boolean isBased(Node node) {
            return node.kind == '%' || node.kind == Reader.FB;
        }

        private static boolean isPlainTerm(Node node) {
            return node != null && node.kind == Reader.NUMBER && (node.sign == '+' || node.sign == '-');
        }

        private void putBased(Node node, long plus) {
            put(node.kind == '%' ? 112 + (int) node.number : 145);
            putSignedLeb(plus);
        }

        private void putConstant(long n) {
            if (n <= 31) {
                put(48 + (int) n);
            } else if (n <= 255) {
                put(8);
                putNumber(n, 1);
            } else if (n <= 65535) {
                put(10);
                putNumber(n, 2);
            } else if (n <= 4294967295L) {
                put(12);
                putNumber(n, 4);
            } else {
                put(14);
                putNumber(n, 8);
            }
        }

        private void put(int b) {
            if (size < buffer.length) {
                buffer[size] = b & 255;
            }
            size++;
        }

        private void putNumber(long n, int count) {
            for (int i = 0; i < count && i < 8; i++) {
                put((int) (n >>> 8 * i));
            }
        }

        private void patch(int at, int two) {
            if (at >= 0 && at + 1 < buffer.length) {
                buffer[at] = two & 255;
                buffer[at + 1] = two >>> 8 & 255;
            }
        }

        private void putLeb(long n) {
            long rest = n;
            for (int i = 0; i < 9 && (rest < 0 || rest > 127); i++) {
                put((int) (rest & 127) | 128);
                rest >>>= 7;
            }
            put((int) rest);
        }

        private void putSignedLeb(long n) {
            long rest = n;
            for (int i = 0; i < 9 && (rest < -64 || rest > 63); i++) {
                put((int) (rest & 127) | 128);
                rest >>= 7;
            }
            put((int) (rest & 127));
        }
    }

    /** Says what a variable means from its text's tree alone. After a fault every value is 0. */
    private static final class Meaning {
        private static final int MOST_DEPTH = 120;

        private final Machine machine;
        private final Run runner;
        private final Result outcome = new Result();
        private final Part thing = new Part();
        private int fault;

        private Meaning(Machine machine, Run runner) {
            this.machine = machine;
            this.runner = runner;
        }

        private int say(Variable variable, long pc) {
            fault = 0;
            outcome.clear();
            Place location = placeFor(variable, pc);
            for (Place place = location; place != null && fault == 0; place = place.next) {
                meet(place);
                if (place.bytes == NONE) {
                    outcome.only().take(thing);
                } else {
                    outcome.addPiece(thing, place.bytes * 8, 0);
                }
            }
            return fault;
        }

        private static Place placeFor(Variable variable, long pc) {
            if (variable.rows == 0) {
                return variable.places[0];
            }
            for (int r = 0; r < variable.rows && r < Variable.MOST_ROWS; r++) {
                if (!isBelow(pc, variable.from[r]) && isBelow(pc, variable.to[r])) {
                    return variable.places[r];
                }
            }
            return null;
        }

        private void meet(Place place) {
            switch (place.kind) {
                case REGISTER:
                    thing.become(REGISTER, place.number);
                    break;
                case ADDRESS: case VALUE:
                    thing.become(place.kind, value(place.e, 0));
                    break;
                case BLOCK:
                    thing.becomeBlock(place.block, 0, place.block == null ? 0 : place.block.length);
                    break;
                default:
                    thing.become(EMPTY, 0);
                    break;
            }
        }

        private long value(Node node, int depth) {
            if (node == null || fault != 0 || depth > MOST_DEPTH) {
                return 0;
            }
            switch (node.kind) {
                case Reader.NUMBER:
                    return node.number;
                case '%':
                    return machine.registerValue(node.number);
                case Reader.FB:
                    int code = runner.base(MOST_FUEL, 0, 0);
                    return code == 0 ? runner.basis : fail(code);
                case Reader.CFA:
                    return machine.cfaRegister == NONE ? fail(NOT_THERE) : machine.cfaValue();
                case Reader.OBJ:
                    return machine.hasObject ? machine.object : fail(NOT_THERE);
                case '?':
                    return value(value(node.first, depth + 1) != 0 ? node.yes : node.no, depth + 1);
                case Parser.CHAIN:
                    return chainValue(node, depth);
                default:
                    return unaryValue(node, value(node.first, depth + 1));
            }
        }

        private long fail(int code) {
            if (fault == 0) {
                fault = code;
            }
            return 0;
        }

        private long chainValue(Node chain, int depth) {
            if (chain.first == null) {
                return 0;
            }
            long sum = value(chain.first, depth + 1);
            for (Node node = chain.first.next; node != null && fault == 0; node = node.next) {
                long next = value(node, depth + 1);
                int op = Parser.operationOf(node.sign);
                sum = (op == 27 || op == 29) && next == 0 ? fail(BY_ZERO) : Run.joined(op, sum, next);
            }
            return sum;
        }

        private long unaryValue(Node node, long v) {
            switch (node.kind) {
                case '-':
                    return -v;
                case '~':
                    return ~v;
                case Reader.TLS:
                    return machine.hasTls ? machine.tls + v : fail(NOT_THERE);
                case Reader.AT:
                    int count = (int) node.number;
                    return machine.hasBytes(v, count) ? machine.bytes(v, count) : fail(NO_MEMORY);
                default:
                    return v;
            }
        }
    }
}
