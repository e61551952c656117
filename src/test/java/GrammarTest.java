import java.util.ArrayList;
import java.util.LinkedHashSet;
import java.util.List;
import java.util.Map;
import java.util.Random;
import java.util.Set;
import java.util.TreeMap;
import java.util.TreeSet;

/**
 * Fault 1 of texts: "a token with which no text goes on .. (the end, too)". The document's grammar stands here as rules, read by
 * Earley's way, which knows after each token which ones go on; texts are made up token by token, and now and then with a wrong one.
 */
public final class GrammarTest {
    private static final String[] RULES = {
        "TEXT: DECL", "TEXT: TEXT DECL", "DECL: name = BODY ;", "BODY: LOC", "BODY: ROWS", "ROWS: ROW", "ROWS: ROWS , ROW",
        "ROW: number .. number : LOC", "LOC: PLACE", "LOC: { PARTS }", "PARTS: PART", "PARTS: PARTS , PART", "PART: PLACE / number",
        "PLACE: reg number", "PLACE: [ E ]", "PLACE: value E", "PLACE: bytes NUMBERS", "PLACE: none", "NUMBERS: number",
        "NUMBERS: NUMBERS number", "E: B", "E: B ? E : E", "B: X", "B: B | X", "X: A", "X: X ^ A", "A: C", "A: A & C", "C: H",
        "C: H == H", "C: H != H", "C: H < H", "C: H <= H", "C: H > H", "C: H >= H", "H: SUM", "H: H << SUM", "H: H >> SUM",
        "H: H >>> SUM", "SUM: PRODUCT", "SUM: SUM + PRODUCT", "SUM: SUM - PRODUCT", "PRODUCT: U", "PRODUCT: PRODUCT * U",
        "PRODUCT: PRODUCT div U", "PRODUCT: PRODUCT mod U", "U: - U", "U: ~ U", "U: @ U", "U: number", "U: % number", "U: fb", "U: cfa",
        "U: obj", "U: tls U", "U: ( E )"};
    private static final Map<String, List<String[]>> GRAMMAR = new TreeMap<>();
    private static final List<String> TERMINALS = new ArrayList<>();
    private static final Set<String> OPENERS = Set.of("(", "[", "{", "?", "-", "~", "@", "tls");

    public static void main(String[] args) {
        read();
        everyTokenBehindEveryOther();
        madeUp();
        Check.finish("GrammarTest");
    }

    private static void read() {
        Set<String> symbols = new TreeSet<>();
        for (String rule : RULES) {
            String[] sides = rule.split(": ", 2);
            String[] right = sides[1].split(" ");
            GRAMMAR.computeIfAbsent(sides[0], key -> new ArrayList<>()).add(right);
            symbols.addAll(List.of(right));
        }
        for (String symbol : symbols) {
            if (!GRAMMAR.containsKey(symbol)) {
                TERMINALS.add(symbol);
            }
        }
        Check.due("all tokens: name, number, @, ten words, thirty signs", TERMINALS.size(), 3 + 10 + 30);
    }

    /** A rule that was read up to its dot, from a place on. */
    private record Item(String left, List<String> right, int dot, int from) {
        String next() {
            return dot < right.size() ? right.get(dot) : "";
        }

        Item onward() {
            return new Item(left, right, dot + 1, from);
        }
    }

    private static List<Set<Item>> begin() {
        List<Set<Item>> sets = new ArrayList<>();
        Set<Item> first = new LinkedHashSet<>();
        predict(first, "TEXT", 0);
        sets.add(first);
        close(sets);
        return sets;
    }

    private static void predict(Set<Item> set, String left, int from) {
        for (String[] right : GRAMMAR.get(left)) {
            set.add(new Item(left, List.of(right), 0, from));
        }
    }

    private static void close(List<Set<Item>> sets) {
        int here = sets.size() - 1;
        Set<Item> set = sets.get(here);
        List<Item> work = new ArrayList<>(set);
        for (int i = 0; i < work.size(); i++) {
            Item item = work.get(i);
            Set<Item> found = new LinkedHashSet<>();
            if (item.next().isEmpty()) {
                for (Item waiting : sets.get(item.from)) {
                    if (waiting.next().equals(item.left)) {
                        found.add(waiting.onward());
                    }
                }
            } else if (GRAMMAR.containsKey(item.next())) {
                predict(found, item.next(), here);
            }
            for (Item one : found) {
                if (set.add(one)) {
                    work.add(one);
                }
            }
        }
    }

    private static Set<String> goesOn(List<Set<Item>> sets) {
        Set<String> tokens = new TreeSet<>();
        for (Item item : sets.get(sets.size() - 1)) {
            if (!item.next().isEmpty() && !GRAMMAR.containsKey(item.next())) {
                tokens.add(item.next());
            }
        }
        return tokens;
    }

    private static void advance(List<Set<Item>> sets, String token) {
        Set<Item> behind = new LinkedHashSet<>();
        for (Item item : sets.get(sets.size() - 1)) {
            if (item.next().equals(token)) {
                behind.add(item.onward());
            }
        }
        sets.add(behind);
        close(sets);
    }

    /** At the end, or behind a whole declaration. */
    private static boolean mayEnd(List<Set<Item>> sets) {
        boolean whole = sets.size() == 1;
        for (Item item : sets.get(sets.size() - 1)) {
            whole |= item.next().isEmpty() && item.left.equals("TEXT") && item.from == 0;
        }
        return whole;
    }

    /** Names are new ones and numbers grow, so that no other fault is there. */
    private static String written(String token, int count, Random random) {
        if (token.equals("name")) {
            return "n" + count;
        }
        if (token.equals("number")) {
            return Integer.toString(count % 32);
        }
        return token.equals("@") ? "@" + (1 + random.nextInt(8)) : token;
    }

    private static void compare(List<String> tokens, Random random) {
        List<Set<Item>> sets = begin();
        StringBuilder text = new StringBuilder();
        int fault = -1;
        int names = 0;
        int opened = 0;
        for (int i = 0; i < tokens.size(); i++) {
            String token = tokens.get(i);
            names += token.equals("name") ? 1 : 0;
            opened += OPENERS.contains(token) ? 1 : 0;
            if (fault < 0) {
                if (goesOn(sets).contains(token)) {
                    advance(sets, token);
                } else {
                    fault = text.length();
                }
            }
            text.append(written(token, i, random)).append(random.nextInt(4) == 0 ? "\n " : " ");
        }
        if (fault < 0 && !mayEnd(sets)) {
            fault = text.length();
        }
        if (names <= 12 && opened <= 12 && tokens.size() <= 32) {
            LocationDesk desk = new LocationDesk();
            int got = Check.compile(desk, text.toString());
            Check.due(text + ": fault", desk.told(0), fault < 0 ? 0 : 1);
            Check.due(text + ": place", desk.told(1), fault);
            Check.due(text + ": variables", got, fault < 0 ? names : -1);
        }
    }

    /** The shortest ways to every place of the grammar, and every token behind them. */
    private static void everyTokenBehindEveryOther() {
        Random random = new Random(5);
        String[] ways = {"", "name", "name =", "name = none", "name = none ;", "name = reg", "name = reg number", "name = [", "name = [ number",
            "name = [ number ]", "name = [ fb", "name = [ %", "name = [ % number", "name = [ (", "name = [ ( number", "name = [ ( number )",
            "name = [ -", "name = [ ~", "name = [ @", "name = [ tls", "name = [ number +", "name = [ number *", "name = [ number div",
            "name = [ number <<", "name = [ number ==", "name = [ number == number", "name = [ number &", "name = [ number ^",
            "name = [ number |", "name = [ number ?", "name = [ number ? number", "name = [ number ? number :",
            "name = [ number ? number : number", "name = [ number ? number : number ? number", "name = value", "name = value number",
            "name = value number ? number", "name = value number ? number : number", "name = bytes", "name = bytes number",
            "name = bytes number number", "name = {", "name = { none", "name = { none /", "name = { none / number", "name = { none / number ,",
            "name = { none / number }", "name = { value number", "name = { bytes number", "name = number", "name = number ..",
            "name = number .. number", "name = number .. number :", "name = number .. number : none", "name = number .. number : none ,",
            "name = number .. number : none , number", "name = number .. number : {", "name = number .. number : value number ? number",
            "name = number .. number : { none / number }", "name = none ; name", "name = none ; name ="};
        for (String way : ways) {
            for (String token : TERMINALS) {
                List<String> tokens = new ArrayList<>(way.isEmpty() ? List.of() : List.of(way.split(" ")));
                tokens.add(token);
                compare(tokens, random);
            }
        }
    }

    private static void madeUp() {
        Random random = new Random(6);
        for (int round = 0; round < 4000; round++) {
            List<String> tokens = new ArrayList<>();
            List<Set<Item>> sets = begin();
            int size = 1 + random.nextInt(31);
            boolean wrong = false;
            for (int i = 0; i < size; i++) {
                List<String> next = new ArrayList<>(goesOn(sets));
                wrong |= next.isEmpty() || random.nextInt(25) == 0;
                if (!wrong && i > size - 4 && mayEnd(sets)) {
                    break;
                }
                List<String> from = wrong ? TERMINALS : next;
                String token = next.contains(";") && !wrong && random.nextInt(4) == 0 ? ";" : from.get(random.nextInt(from.size()));
                tokens.add(token);
                advance(sets, token);
            }
            compare(tokens, random);
        }
    }
}
