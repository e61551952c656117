import java.util.ArrayList;
import java.util.Arrays;
import java.util.List;
import java.util.Set;
import java.util.function.Consumer;
import java.util.function.ToLongFunction;

/**
 * What a call leaves alone. Two desks are made alike, one of them takes the call, and then both are asked the same: a refused
 * call shows nowhere, another one only in what it is there for. Each question goes to a fresh pair, so that no desk is used for
 * more than 512 calls.
 */
public final class RefusedTest {
    private static final int NONE = LocationDesk.NONE;
    private static final int MIN = Integer.MIN_VALUE;
    private static final int MAX = Integer.MAX_VALUE;
    private static final int[] TAPE_SIZES = {0, 40, 1000, 601, 981, 980};
    private static final int STATES = TAPE_SIZES.length;
    private static final Set<String> NOTHING = Set.of();

    private interface Question {
        void ask(LocationDesk desk, List<Long> answers);
    }

    private record Aspect(String name, Question question) {
    }

    private static final List<Aspect> ASPECTS = new ArrayList<>();
    private static int calls = 0;

    public static void main(String[] args) {
        aspects();
        for (int state = 0; state < STATES; state++) {
            refusedTapes(state);
            refusedNumbers(state);
            refusedRuns(state);
            refusedBits(state);
            asked(state);
        }
        faultsOfRuns();
        faultsOfLists();
        faultsOfTexts();
        faultsOfMeanings();
        takenCalls();
        Check.due("many calls were made", calls > 400, true);
        Check.finish("RefusedTest");
    }

    // ---- the desks

    private static int[] entry(long begin, long end, int... bytes) {
        return Check.join(Check.lowFirst(begin, 8), Check.lowFirst(end, 8), Check.lowFirst(bytes.length, 2), bytes);
    }

    private static void row(LocationDesk desk, int k, int... bytes) {
        Check.tape(desk, bytes);
        desk.expression(k);
    }

    private static LocationDesk desk(int state) {
        LocationDesk desk = new LocationDesk();
        if (state == 0) {
            return desk;
        }
        desk.load(2, 500);
        desk.load(31, -2);
        desk.poke(0, 0x11);
        desk.poke(4095, 0x22);
        row(desk, 0, 145, 1, 159);
        row(desk, 1, 0x35);
        row(desk, 2, 156, 159);
        row(desk, 3, 151, 159);
        row(desk, 4, 0x36, 155, 159);
        row(desk, 5, 158, 3, 7, 8, 9);
        row(desk, 6, 82, 147, 2, 158, 1, 77, 157, 5, 3, 49, 147, 4);
        row(desk, 14, 10, 0xE8, 3);
        row(desk, 15, 0x35, 10, 0xFF, 0x0F, 6);
        Check.tape(desk, Check.join(entry(0, 10, 0x31), entry(10, 20, 82), new int[16]));
        desk.list(0);
        Check.tape(desk, entry(0, 10, 0x37, 159));
        desk.list(3);
        desk.frame(1);
        desk.cfa(2, 16);
        desk.set(0, 70, true);
        desk.set(1, 90, true);
        Check.compile(desk, "ab=reg 3;c=0..10:[%2+1],10..20:bytes 5 6;d={value fb/2,none/1};");
        desk.run(state == 2 ? 5 : 6, 50);
        desk.fetch(37);
        if (state == 3) {
            Check.compile(desk, "x=reg 32;");
        } else if (state != 4) {
            desk.run(15, 50);
        }
        int[] tape = new int[TAPE_SIZES[state]];
        for (int i = 0; i < tape.length; i++) {
            tape[i] = 48 + i % 31;
        }
        Check.tape(desk, tape);
        return desk;
    }

    // ---- the questions

    private static void aspects() {
        ASPECTS.add(new Aspect("told", (desk, answers) -> told(desk, answers)));
        ASPECTS.add(new Aspect("registers", (desk, answers) -> {
            for (int r = -1; r <= 32; r++) {
                answers.add(desk.register(r));
            }
        }));
        for (int from = -1; from <= 4096; from += 250) {
            int first = from;
            ASPECTS.add(new Aspect("memory", (desk, answers) -> {
                for (int a = first; a < first + 250; a++) {
                    answers.add((long) desk.peek(a));
                }
            }));
        }
        ASPECTS.add(new Aspect("result", RefusedTest::result));
        ASPECTS.add(new Aspect("out", RefusedTest::out));
        ASPECTS.add(new Aspect("result", (desk, answers) -> {
            answers.add((long) desk.fetch(512));
            out(desk, answers);
        }));
        ASPECTS.add(new Aspect("tape", RefusedTest::tapeSize));
        ASPECTS.add(new Aspect("tape", RefusedTest::tapeBytes));
        for (int k = 0; k < 16; k += 8) {
            int first = k;
            ASPECTS.add(new Aspect("expressions", (desk, answers) -> {
                for (int i = first; i < first + 8; i++) {
                    answers.add((long) desk.run(i, 1000));
                    told(desk, answers);
                    shortResult(desk, answers);
                }
            }));
        }
        ASPECTS.add(new Aspect("lists", RefusedTest::lists));
        ASPECTS.add(new Aspect("machine", RefusedTest::machine));
        for (int i = -1; i <= 3; i++) {
            int which = i;
            ASPECTS.add(new Aspect("variables", (desk, answers) -> variable(desk, which, answers)));
        }
        ASPECTS.add(new Aspect("variables", RefusedTest::meanings));
    }

    private static void told(LocationDesk desk, List<Long> answers) {
        for (int what = -1; what <= 4; what++) {
            answers.add((long) desk.told(what));
        }
    }

    private static void result(LocationDesk desk, List<Long> answers) {
        answers.add((long) desk.parts());
        int[] whats = {-1, 0, 1, 2, 3, 4, 99, 100, 101, 102, 103};
        for (int i = -1; i <= 16; i++) {
            for (int what : whats) {
                answers.add(desk.part(i, what));
            }
        }
    }

    private static void shortResult(LocationDesk desk, List<Long> answers) {
        answers.add((long) desk.parts());
        int[] whats = {0, 1, 2, 3, 100};
        for (int i = 0; i < 2; i++) {
            for (int what : whats) {
                answers.add(desk.part(i, what));
            }
        }
    }

    private static void out(LocationDesk desk, List<Long> answers) {
        for (int i = -1; i <= 64; i++) {
            answers.add((long) desk.out(i));
        }
    }

    private static void tapeSize(LocationDesk desk, List<Long> answers) {
        for (int n = 1001; n > 980; n--) {
            answers.add((long) desk.end(n));
        }
        answers.add((long) desk.feed(1, 2, 3, 4, 5));
    }

    /** The first bytes by a store, all of them as an expression of numbers. */
    private static void tapeBytes(LocationDesk desk, List<Long> answers) {
        desk.run(14, 5);
        int stored = NONE;
        for (int n = 512; n > 0 && stored == NONE; n -= 8) {
            stored = desk.store(n);
        }
        answers.add((long) stored);
        for (int a = 1000; a < 1064; a++) {
            answers.add((long) desk.peek(a));
        }
    }

    private static void lists(LocationDesk desk, List<Long> answers) {
        long[] pcs = {0, 9, 10, 19, 20, -1};
        for (int k = 0; k < 4; k += 3) {
            for (long pc : pcs) {
                answers.add((long) desk.find(k, 0, pc, 1000));
                told(desk, answers);
                shortResult(desk, answers);
            }
        }
        answers.add((long) desk.find(1, 0, 0, 1));
        answers.add((long) desk.find(2, 0, 0, 1));
    }

    private static void machine(LocationDesk desk, List<Long> answers) {
        int[][] asks = {{145, 0}, {156}, {151}, {48, 155}};
        for (int[] ask : asks) {
            row(desk, 7, ask);
            answers.add((long) desk.run(7, 100));
            shortResult(desk, answers);
        }
    }

    private static void variable(LocationDesk desk, int i, List<Long> answers) {
        for (int what = 0; what < 4; what++) {
            answers.add((long) desk.variable(i, what));
        }
        for (int k = 0; k < 60; k++) {
            answers.add((long) desk.variable(i, 100 + k));
        }
        for (int k = 0; k < 9; k++) {
            answers.add((long) desk.variable(i, 1000 + k));
        }
    }

    private static void meanings(LocationDesk desk, List<Long> answers) {
        long[] pcs = {0, 15};
        for (int i = 0; i < 4; i++) {
            for (long pc : pcs) {
                int fault = desk.where(i, pc, 1000);
                answers.add((long) fault);
                if (fault != NONE) {
                    told(desk, answers);
                }
                shortResult(desk, answers);
                answers.add((long) desk.means(i, pc));
                shortResult(desk, answers);
            }
        }
    }

    // ---- the comparison

    /** The call answers want; what it may change are the aspects named. */
    private static void changes(int state, String name, long want, Set<String> may, ToLongFunction<LocationDesk> call) {
        changes(state, name, want, may, desk -> { }, call);
    }

    /** Likewise, against a desk that took another call instead. */
    private static void changes(int state, String name, long want, Set<String> may, Consumer<LocationDesk> instead,
            ToLongFunction<LocationDesk> call) {
        calls++;
        for (Aspect aspect : ASPECTS) {
            if (may.contains(aspect.name)) {
                continue;
            }
            LocationDesk plain = desk(state);
            instead.accept(plain);
            List<Long> due = new ArrayList<>();
            aspect.question.ask(plain, due);
            LocationDesk desk = desk(state);
            String told = name + " in state " + state;
            Check.due(told, call.applyAsLong(desk), want);
            List<Long> got = new ArrayList<>();
            aspect.question.ask(desk, got);
            Check.due(told + " leaves alone: " + aspect.name, due.equals(got), true);
        }
    }

    private static void refused(int state, String name, long want, ToLongFunction<LocationDesk> call) {
        changes(state, name, want, NOTHING, call);
    }

    private static ToLongFunction<LocationDesk> truth(java.util.function.Predicate<LocationDesk> call) {
        return desk -> call.test(desk) ? 1 : 0;
    }

    // ---- refused calls

    private static void refusedTapes(int state) {
        int size = TAPE_SIZES[state];
        if (size > 980) {
            refused(state, "feed beyond 1000", NONE, desk -> desk.feed(-1, -1, -1, -1, -1));
        }
        for (int n : new int[] {-1, size + 1, 1001, MIN, MAX}) {
            refused(state, "end(" + n + ")", NONE, desk -> desk.end(n));
        }
        for (int k : new int[] {-1, 16, MIN, MAX}) {
            refused(state, "expression(" + k + ")", NONE, desk -> desk.expression(k));
        }
        for (int k : new int[] {-1, 4, MIN, MAX}) {
            refused(state, "list(" + k + ")", NONE, desk -> desk.list(k));
        }
        if (size > 600) {
            refused(state, "expression(1) of " + size, NONE, desk -> desk.expression(1));
            refused(state, "expression(15) of " + size, NONE, desk -> desk.expression(15));
            refused(state, "list(0) of " + size, NONE, desk -> desk.list(0));
        }
    }

    private static void refusedNumbers(int state) {
        for (int r : new int[] {-1, 32, 33, MIN, MAX}) {
            refused(state, "load(" + r + ")", 0, truth(desk -> desk.load(r, 99)));
            refused(state, "register(" + r + ")", 0, desk -> desk.register(r));
        }
        for (int a : new int[] {-1, 4096, MIN, MAX}) {
            refused(state, "poke(" + a + ")", 0, truth(desk -> desk.poke(a, 99)));
            refused(state, "peek(" + a + ")", NONE, desk -> desk.peek(a));
        }
        for (int k : new int[] {-2, 16, MIN, MAX}) {
            refused(state, "frame(" + k + ")", 0, truth(desk -> desk.frame(k)));
        }
        for (int r : new int[] {-2, 32, MIN, MAX}) {
            refused(state, "cfa(" + r + ")", 0, truth(desk -> desk.cfa(r, 99)));
        }
        for (int what : new int[] {-1, 2, MIN, MAX}) {
            refused(state, "set(" + what + ", there)", 0, truth(desk -> desk.set(what, 99, true)));
            refused(state, "set(" + what + ", not there)", 0, truth(desk -> desk.set(what, 99, false)));
        }
    }

    private static void refusedRuns(int state) {
        int variables = state == 0 ? 0 : 3;
        for (int k : new int[] {-1, 16, MIN, MAX}) {
            refused(state, "run(" + k + ", 5)", NONE, desk -> desk.run(k, 5));
        }
        for (int k : new int[] {-1, 4, MIN, MAX}) {
            refused(state, "find(" + k + ", 0, 0, 5)", NONE, desk -> desk.find(k, 0, 0, 5));
        }
        for (int i : new int[] {-1, variables, MIN, MAX}) {
            refused(state, "where(" + i + ", 0, 5)", NONE, desk -> desk.where(i, 0, 5));
            refused(state, "means(" + i + ", 0)", NONE, desk -> desk.means(i, 0));
            refused(state, "variable(" + i + ", 0)", NONE, desk -> desk.variable(i, 0));
        }
        for (int fuel : new int[] {0, -1, 1001, MIN, MAX}) {
            refused(state, "run(0, " + fuel + ")", NONE, desk -> desk.run(0, fuel));
            refused(state, "find(0, 0, 0, " + fuel + ")", NONE, desk -> desk.find(0, 0, 0, fuel));
            refused(state, "where(0, 0, " + fuel + ")", NONE, desk -> desk.where(0, 0, fuel));
            refused(state, "where(1, 0, " + fuel + ")", NONE, desk -> desk.where(1, 0, fuel));
        }
    }

    private static void refusedBits(int state) {
        int bits = 8 * TAPE_SIZES[state];
        for (int n : new int[] {0, -1, 513, MIN, MAX}) {
            refused(state, "fetch(" + n + ")", NONE, desk -> desk.fetch(n));
            refused(state, "store(" + n + ")", NONE, desk -> desk.store(n));
        }
        if (bits < 512) {
            refused(state, "store(" + (bits + 1) + ") of " + bits, NONE, desk -> desk.store(bits + 1));
            refused(state, "store(512) of " + bits, NONE, desk -> desk.store(512));
        }
    }

    /** Calls that only answer, with any arguments. */
    private static void asked(int state) {
        refused(state, "asking", 0, desk -> {
            for (int i : new int[] {-1, 0, 3, 31, 64, 100, 1000, MIN, MAX}) {
                desk.told(i);
                desk.parts();
                desk.out(i);
                desk.peek(i);
                desk.register(i);
                desk.part(0, i);
                desk.part(i, 0);
                desk.variable(0, i);
                desk.variable(i, 0);
            }
            return 0;
        });
    }

    // ---- calls with a fault: it is told, and nothing else changes

    private static void fault(String name, int fault, int place, Consumer<LocationDesk> prepare, ToLongFunction<LocationDesk> call) {
        for (int state = 0; state < 3; state++) {
            changes(state, name, fault, Set.of("told"), prepare, desk -> {
                prepare.accept(desk);
                return call.applyAsLong(desk);
            });
            LocationDesk desk = desk(state);
            prepare.accept(desk);
            call.applyAsLong(desk);
            Check.due(name + ": told(0)", desk.told(0), fault);
            Check.due(name + ": told(1)", desk.told(1), place);
        }
    }

    /** Behind a piece and a number, which are not the RESULT then. */
    private static void faultOfRun(int fault, int place, int... bytes) {
        int[] all = Check.join(new int[] {82, 147, 1, 0x31}, bytes);
        fault("run() with fault " + fault, fault, place, desk -> {
            desk.frame(9);
            row(desk, 8, all);
        }, desk -> desk.run(8, 300));
        int[] list = Check.join(entry(1, 2, 0x31), entry(5, 6, all), new int[16]);
        fault("find() with fault " + fault, fault, place, desk -> {
            desk.frame(9);
            Check.tape(desk, list);
            desk.list(1);
        }, desk -> desk.find(1, 0, 5, 300));
    }

    private static void faultsOfRuns() {
        faultOfRun(1, 4, 8);
        faultOfRun(2, 4, 0);
        faultOfRun(3, 4, 34);
        faultOfRun(4, 131, Check.times(128, 0x35));
        faultOfRun(5, 6, 9, 255, 6);
        faultOfRun(6, 5, 0x30, 27);
        faultOfRun(7, 4, 47, 1, 0);
        faultOfRun(8, 4, 152, 16, 0);
        faultOfRun(9, 5, 83, 48);
        faultOfRun(10, 4, 148, 9);
        faultOfRun(11, 4, 145, 0);
        faultOfRun(12, 4, 47, 0xFD, 0xFF);
        faultOfRun(13, 4, 147, 129, 4);
        faultOfRun(13, 4);
        faultOfRun(14, 4, 144, 32);
        faultOfRun(15, 4, Check.join(new int[] {16}, Check.times(10, 128)));
    }

    private static void faultsOfLists() {
        int[] first = entry(1, 2, 0x31);
        int[][] lists = {{}, first, Check.join(first, new int[15]), Arrays.copyOf(first, 17), Arrays.copyOf(first, 18)};
        int[] places = {0, 19, 19, 0, 0};
        for (int i = 0; i < lists.length; i++) {
            int[] list = lists[i];
            fault("find() in list " + i, 1, places[i], desk -> {
                Check.tape(desk, list);
                desk.list(1);
            }, desk -> desk.find(1, 0, 7, 300));
        }
    }

    private static void faultOfText(int fault, String text) {
        int place = text.indexOf('#');
        String bare = text.substring(0, place) + text.substring(place + 1);
        for (int state = 0; state < 3; state++) {
            changes(state, "compile() with fault " + fault, NONE, Set.of("told"), desk -> desk.end(0), desk -> Check.compile(desk, bare));
            LocationDesk desk = desk(state);
            Check.compile(desk, bare);
            int[] want = {fault, place, 0, 0};
            for (int what = 0; what < 4; what++) {
                Check.due(text + ": told(" + what + ")", desk.told(what), want[what]);
            }
        }
    }

    private static void faultsOfTexts() {
        String ahead = "ab=reg 4;y=1..2:none,3..4:bytes 1;";
        faultOfText(1, ahead + "z=reg 5#");
        faultOfText(1, ahead + "z=#$;");
        faultOfText(2, ahead + "z=reg #32;");
        faultOfText(3, ahead + "z=bytes #256;");
        faultOfText(4, ahead + "#ab=none;");
        faultOfText(5, ahead + "z=value " + "-".repeat(12) + "#-1;");
        faultOfText(6, ahead + "z={" + "none/1,".repeat(8) + "#none/1};");
        faultOfText(7, ahead + "#z=[1" + "+1".repeat(150) + "];");
    }

    private static void faultsOfMeanings() {
        String text = "x={reg 4/1,[@8 4089]/1};y=value 1 mod 0;z=2..3:{reg 4/1,value fb/2};";
        int[] faults = {5, 6, 11};
        int[] places = {6, 2, 3};
        for (int i = 0; i < 3; i++) {
            int which = i;
            Consumer<LocationDesk> prepare = desk -> {
                desk.frame(NONE);
                Check.compile(desk, text);
            };
            fault("means(" + i + ")", faults[i], 0, prepare, desk -> desk.means(which, 2));
            fault("where(" + i + ")", faults[i], places[i], prepare, desk -> desk.where(which, 2, 300));
        }
    }

    // ---- calls that are taken, and what they are there for

    private static void taken(String name, long want, Set<String> may, ToLongFunction<LocationDesk> call) {
        changes(1, name, want, may, call);
    }

    private static void takenCalls() {
        taken("feed", 60, Set.of("tape"), desk -> desk.feed(1, 2, 3, 4, 5));
        taken("end(39)", 39, Set.of("tape"), desk -> desk.end(39));
        taken("end(0)", 0, Set.of("tape"), desk -> desk.end(0));
        taken("end(40), all of it", 40, NOTHING, desk -> desk.end(40));
        taken("expression(7)", 40, Set.of("tape", "expressions"), desk -> desk.expression(7));
        taken("list(1)", 40, Set.of("tape", "lists"), desk -> desk.list(1));
        taken("load(9)", 1, Set.of("registers"), truth(desk -> desk.load(9, 99)));
        taken("load(2), as it is", 1, NOTHING, truth(desk -> desk.load(2, 500)));
        taken("poke(2000)", 1, Set.of("memory"), truth(desk -> desk.poke(2000, 99)));
        taken("poke(0), as it is", 1, NOTHING, truth(desk -> desk.poke(0, 0x111)));
        taken("frame(14)", 1, Set.of("machine", "expressions", "variables"), truth(desk -> desk.frame(14)));
        taken("frame(NONE)", 1, Set.of("machine", "expressions", "variables"), truth(desk -> desk.frame(NONE)));
        taken("frame(1), as it is", 1, NOTHING, truth(desk -> desk.frame(1)));
        taken("cfa(3)", 1, Set.of("machine", "expressions"), truth(desk -> desk.cfa(3, 99)));
        taken("cfa(2), as it is", 1, NOTHING, truth(desk -> desk.cfa(2, 16)));
        taken("set(0)", 1, Set.of("machine", "expressions"), truth(desk -> desk.set(0, 99, false)));
        taken("set(1)", 1, Set.of("machine", "expressions"), truth(desk -> desk.set(1, 99, true)));
        taken("set(1), as it is", 1, NOTHING, truth(desk -> desk.set(1, 90, true)));
        Set<String> run = Set.of("told", "result");
        taken("run(1)", 0, run, desk -> desk.run(1, 5));
        taken("find(0)", 0, run, desk -> desk.find(0, 0, 5, 5));
        taken("find(0), none holds", 0, run, desk -> desk.find(0, 0, 50, 5));
        taken("where(1)", 0, run, desk -> desk.where(1, 5, 5));
        taken("where(1), none holds", 0, run, desk -> desk.where(1, 50, 5));
        taken("means(1)", 0, run, desk -> desk.means(1, 15));
        taken("means(1), none holds", 0, run, desk -> desk.means(1, 50));
        taken("fetch(9)", 9, Set.of("out"), desk -> desk.fetch(9));
        Consumer<LocationDesk> address = desk -> desk.run(14, 5);
        changes(1, "store(16)", 16, Set.of("tape", "memory", "result"), address, desk -> {
            address.accept(desk);
            return desk.store(16);
        });
        taken("compile()", 1, Set.of("tape", "told", "variables"), desk -> Check.compile(desk, "x=reg 9;"));
        taken("compile() of blanks", 0, Set.of("tape", "told", "variables"), desk -> Check.compile(desk, "  "));
    }
}
