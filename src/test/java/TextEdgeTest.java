/**
 * The document's part IV with promises 21 to 24, sentence by sentence: of each bound the last case that is still taken and the
 * first that is not. That a text with a fault changes nothing is RefusedTest's; which token goes on where is GrammarTest's.
 */
public final class TextEdgeTest {
    private static final String[] WORDS = {"reg", "value", "bytes", "none", "fb", "cfa", "obj", "tls", "div", "mod"};

    private static final String[] USES = {"x=WORD 1;", "x=WORD 1;", "x=WORD 1;", "x=WORD;", "x=[WORD];", "x=[WORD];", "x=[WORD];", "x=[WORD 1];",
        "x=[1 WORD 1];", "x=[1 WORD 1];"};

    public static void main(String[] args) {
        letters();
        blanks();
        lengthsOfNames();
        wordsAndNames();
        lengthsOfNumbers();
        behindNumbers();
        behindAt();
        signsAsLongAsCanBe();
        theEnd();
        registersOfTexts();
        bytesOfTexts();
        widthsOfParts();
        rangesOfRows();
        namesThatWereTold();
        openOfEachKind();
        openAndClosed();
        manyNames();
        manyRowsAndParts();
        leastAtOnePlace();
        firstByItsPlace();
        expressionsOf300();
        listsOf600();
        numbersCompiled();
        offsetsCompiled();
        addedNumbersCompiled();
        jumpsCompiled();
        tapeAndVariables();
        variableArguments();
        whereArguments();
        rowsByPc();
        memoryByMeaning();
        divisionsByMeaning();
        shiftsByMeaning();
        thereByMeaning();
        basesByMeaning();
        leftOut();
        Check.finish("TextEdgeTest");
    }

    // ---- helpers

    private static void good(String text, int count) {
        LocationDesk desk = new LocationDesk();
        Check.due("compile " + text, Check.compile(desk, text), count);
        Check.due("no fault of " + text, desk.told(0), 0);
        Check.due("no place of " + text, desk.told(1), -1);
        Check.due("the tape is empty", desk.end(1), -1);
    }

    private static void bad(String text, int fault, int place) {
        LocationDesk desk = new LocationDesk();
        Check.due("before", Check.compile(desk, "q=none;r=reg 2;"), 2);
        Check.due("compile " + text, Check.compile(desk, text), -1);
        Check.due("fault of " + text, desk.told(0), fault);
        Check.due("place of " + text, desk.told(1), place);
        Check.due("the tape is empty", desk.end(1), -1);
        Check.due("q stays", desk.variable(0, 1000), 'q');
        Check.due("r stays", desk.variable(1, 100), 82);
        Check.due("there are two", desk.variable(2, 0), -1);
    }

    /** The fault is where the # stands, which is taken out of the text. */
    private static void badAt(int fault, String text) {
        int place = text.indexOf('#');
        bad(text.substring(0, place) + text.substring(place + 1), fault, place);
    }

    private static void code(String text, int... want) {
        LocationDesk desk = new LocationDesk();
        Check.due(text, Check.compile(desk, text), 1);
        Check.due(text + ": size", desk.variable(0, 1), want.length);
        for (int i = 0; i < want.length; i++) {
            Check.due(text + ": byte " + i, desk.variable(0, 100 + i), want[i]);
        }
    }

    private static void means(LocationDesk desk, String e, long want) {
        Check.due("compile " + e, Check.compile(desk, "x=value " + e + ";"), 1);
        desk.run(15, 1);
        Check.due("means " + e, desk.means(0, 0), 0);
        Edge.is(desk, "means " + e, 3, want);
        desk.run(15, 1);
        Check.due("where " + e, desk.where(0, 0, 1000), 0);
        Edge.is(desk, "where " + e, 3, want);
    }

    /** A fault of both; the RESULT of before, a register, stays. */
    private static void failsToMean(LocationDesk desk, String e, int fault) {
        Check.due("compile " + e, Check.compile(desk, "x=value " + e + ";y=reg 9;"), 2);
        desk.means(1, 0);
        Check.due("means " + e, desk.means(0, 0), fault);
        Check.due("told(0) of " + e, desk.told(0), fault);
        Check.due("told(1) of " + e, desk.told(1), 0);
        Check.due("told(2) of " + e, desk.told(2), 0);
        Check.due("told(3) of " + e, desk.told(3), 0);
        Edge.is(desk, "RESULT of before", 2, 9);
        Check.due("where " + e, desk.where(0, 0, 1000), fault);
        Edge.is(desk, "RESULT of before", 2, 9);
    }

    private static String sum(int n) {
        return "1" + "+1".repeat(n);
    }

    // ---- TOKENS

    /** "A text of 10 and 32 .. 126": every byte where a declaration or the end is due. */
    private static void letters() {
        for (int c = 0; c < 256; c++) {
            String text = "x=none;" + (char) c;
            if (c == 10 || c == 32) {
                good(text, 1);
            } else if (c == 'x') {
                bad(text, 4, 7);
            } else {
                bad(text, 1, c >= 'a' && c <= 'z' ? 8 : 7);
            }
        }
    }

    /** "blanks (10, 32) between": anywhere between tokens, nowhere inside of them. */
    private static void blanks() {
        String[] tokens = {"x", "=", "1", "..", "2", ":", "{", "value", "(", "%", "3", "<<", "4", ")", "?", "@1", "5", ":", "fb", "/", "6", "}", ";"};
        good(String.join("", tokens).replace("value", "value "), 1);
        good(String.join(" ", tokens), 1);
        good(String.join("\n", tokens), 1);
        good("\n \n" + String.join("  \n ", tokens) + " \n ", 1);
        char[] others = {0, 9, 11, 12, 13, 31, 127, 160};
        for (char c : others) {
            badAt(1, "x=#" + c + "none;");
            badAt(1, "x=none#" + c + ";");
        }
        String[] split = {"1#= =2", "1#! =2", "1< #=2", "1> #=2", "1< #<2", "1> #>2", "1>> #>2", "1> #>>2"};
        for (String e : split) {
            badAt(1, "x=[" + e + "];");
        }
        badAt(1, "x=1#. .2:none;");
        badAt(1, "x=[#@ 1 2];");
        badAt(1, "x=[1 #2];");
        badAt(1, "x=#re g 1;");
        badAt(1, "a #b=none;");
    }

    /** "a small letter and small letters and digits, 8 at most". */
    private static void lengthsOfNames() {
        String[] full = {"abcdefgh", "a1234567", "zzzzzzzz", "z9z9z9z9", "valueval", "reg00000"};
        for (String name : full) {
            for (int size = 1; size <= 8; size++) {
                String part = name.substring(0, size);
                boolean word = java.util.Arrays.asList(WORDS).contains(part);
                if (word) {
                    badAt(1, "#" + part + "=none;");
                } else {
                    LocationDesk desk = new LocationDesk();
                    Check.due(part, Check.compile(desk, part + "=none;"), 1);
                    Check.due(part + ": letters", desk.variable(0, 2), size);
                    Check.due(part + ": the last one", desk.variable(0, 1000 + size - 1), part.charAt(size - 1));
                    Check.due(part + ": no more", desk.variable(0, 1000 + size), -1);
                }
            }
            badAt(1, name + "#a=none;");
            badAt(1, name + "#1=none;");
            badAt(1, name + "#abcdefghi=none;");
        }
        badAt(1, "#1a=none;");
        badAt(1, "#A=none;");
        badAt(1, "a#B=none;");
        badAt(1, "a#_=none;");
        badAt(1, "#_a=none;");
        good("abcdefgh=none;abcdefg=none;abcdefgi=none;", 3);
        badAt(4, "abcdefgh=none;#abcdefgh=none;");
    }

    /** "none of the WORDS". */
    private static void wordsAndNames() {
        for (String word : WORDS) {
            badAt(1, "#" + word + "=none;");
            badAt(1, "x=none;#" + word + "=none;");
            good(word + "s=none;", 1);
            good(word + "1=none;", 1);
            good("x" + word + "=none;", 1);
            if (word.length() > 2) {
                good(word.substring(0, word.length() - 1) + "=none;", 1);
            }
            badAt(1, "#" + word.toUpperCase() + "=none;");
        }
        for (int i = 0; i < WORDS.length; i++) {
            for (int k = 0; k < WORDS[i].length(); k++) {
                for (String letter : new String[] {"q", "9"}) {
                    String like = WORDS[i].substring(0, k) + letter + WORDS[i].substring(k + 1);
                    if (k > 0 || letter.equals("q")) {
                        good(like + "=none;", 1);
                        badAt(1, USES[i].replace("WORD", "#" + like));
                    }
                }
            }
            good(USES[i].replace("WORD", WORDS[i]), 1);
        }
        badAt(1, "x=#reg1;");
        badAt(1, "x=#value1;");
        badAt(1, "x=#bytes1;");
        badAt(1, "x=#nones;");
        badAt(1, "x=[#fb1];");
        badAt(1, "x=[#tls1];");
        badAt(1, "x=[1 #div2];");
        good("x=[tls(1)];", 1);
        good("x=[1 div(2)];", 1);
        good("x=value(1);", 1);
        good("x=value-1;", 1);
    }

    /** "NUMBERS: 1 to 18 digits". */
    private static void lengthsOfNumbers() {
        for (int size = 1; size <= 18; size++) {
            String nines = "9".repeat(size);
            LocationDesk desk = new LocationDesk();
            means(desk, nines, Long.parseLong(nines));
            means(desk, "0".repeat(size), 0);
            means(desk, "0".repeat(size - 1) + "7", 7);
        }
        for (int size = 19; size <= 40; size += 7) {
            badAt(1, "x=[#" + "1".repeat(size) + "];");
            badAt(1, "x=[#" + "0".repeat(size) + "];");
            badAt(1, "x=reg #" + "0".repeat(size) + ";");
            badAt(1, "x=#" + "0".repeat(size) + "..1:none;");
            badAt(1, "x=bytes 1 #" + "0".repeat(size) + ";");
        }
        badAt(1, "x=[1 #" + "1".repeat(18) + "];");
        good("x=reg 000000000000000031;", 1);
    }

    /** "(a letter or digit behind: none)". */
    private static void behindNumbers() {
        for (int c = 33; c < 127; c++) {
            char letter = (char) c;
            boolean none = letter >= 'a' && letter <= 'z' || letter >= 'A' && letter <= 'Z';
            if (none) {
                badAt(1, "x=[#5" + letter + "];");
                badAt(1, "x=[#" + "5".repeat(18) + letter + "];");
            }
        }
        char[] others = {'_', '!', '"', '#', '$', '\'', '.', '\\', '`', '@'};
        for (char c : others) {
            bad("x=[5" + c + "];", 1, 4);
        }
        badAt(1, "x=reg #1a;");
        badAt(1, "x=#1a..2:none;");
        badAt(1, "x=1..#2a:none;");
        badAt(1, "x={none/#1a};");
        badAt(1, "x=bytes #1a;");
        badAt(1, "x=bytes 1 #2a;");
    }

    /** "@ and a digit 1 .. 8 right behind". */
    private static void behindAt() {
        for (int c = 0; c < 256; c++) {
            if (c >= '1' && c <= '8') {
                code("x=[@" + (char) c + " 7];", c == '8' ? new int[] {55, 6} : new int[] {55, 148, c - '0'});
                code("x=[@" + (char) c + "7];", c == '8' ? new int[] {55, 6} : new int[] {55, 148, c - '0'});
            } else {
                bad("x=[@" + (char) c + " 7];", 1, 3);
            }
        }
        bad("x=[@", 1, 3);
        good("x=[@1@2@8 7];", 1);
    }

    /** "TOKENS, each as long as can be". */
    private static void signsAsLongAsCanBe() {
        code("x=[1>>>2];", 49, 50, 37);
        code("x=[1>>2];", 49, 50, 38);
        code("x=[1>2];", 49, 50, 43);
        code("x=[1>=2];", 49, 50, 42);
        code("x=[1<<2];", 49, 50, 36);
        code("x=[1<=2];", 49, 50, 44);
        code("x=[1<2];", 49, 50, 45);
        code("x=[1==2];", 49, 50, 41);
        code("x=[1!=2];", 49, 50, 46);
        badAt(1, "x=[1>>>#>2];");
        badAt(1, "x=[1>>>#=2];");
        badAt(1, "x=[1>>#=2];");
        badAt(1, "x=[1<<#=2];");
        badAt(1, "x=[1<<#<2];");
        badAt(1, "x=[1==#=2];");
        badAt(1, "x=[1<=#=2];");
        badAt(1, "x=[1<#>2];");
        badAt(1, "x#==none;");
        badAt(1, "x=1..#..2:none;");
        badAt(1, "x=1..#.2:none;");
        badAt(1, "x=1#.2:none;");
        good("x=[1<-2];", 1);
        good("x=[1<~2];", 1);
        good("x=[1>>>-2];", 1);
    }

    /** "1 a token with which no text goes on, or what is none (the end, too)". */
    private static void theEnd() {
        String whole = "x=1..2:{reg 3/4,[5?6:-7]/8},7..9:bytes 1 2;";
        for (int size = 1; size < whole.length(); size++) {
            LocationDesk desk = new LocationDesk();
            Check.compile(desk, whole.substring(0, size));
            Check.due("the first " + size, desk.told(0), 1);
            // inside of a word or .. the cut token itself may be what does not go on
            int place = desk.told(1);
            Check.due("at the end, or at the cut token", place == size || place < size && cutToken(whole, place, size), true);
        }
        good(whole, 1);
        good("", 0);
        good("\n", 0);
        good(" ".repeat(1000), 0);
        bad("x", 1, 1);
        bad("x ", 1, 2);
        bad("x=none \n ", 1, 9);
        bad("x=none;y", 1, 8);
        bad("x=none" + " ".repeat(994), 1, 1000);
    }

    private static boolean cutToken(String whole, int place, int size) {
        boolean word = Character.isLetter(whole.charAt(place)) && Character.isLetter(whole.charAt(size));
        return word || whole.charAt(place) == '.' && size == place + 1;
    }

    // ---- FAULTS

    private static final long[] FAR = {1L << 31, 1L << 32, (1L << 32) + 1, 999999999999999999L};

    /** "2 a REGISTER above 31". */
    private static void registersOfTexts() {
        code("x=reg 0;", 80);
        code("x=reg 31;", 111);
        code("x=[%0];", 112, 0);
        code("x=[%31];", 143, 0);
        badAt(2, "x=reg #32;");
        badAt(2, "x=[%#32];");
        badAt(2, "x=[1+% #32];");
        badAt(2, "x=1..2:reg #32;");
        badAt(2, "x={reg 31/1,reg #32/1};");
        for (long r : FAR) {
            badAt(2, "x=reg #" + r + ";");
            badAt(2, "x=[%#" + r + "];");
        }
    }

    /** "3 a BYTE of bytes above 255"; "6 .. the 65th BYTE of bytes". */
    private static void bytesOfTexts() {
        code("x=bytes 0;", 158, 1, 0);
        code("x=bytes 255;", 158, 1, 255);
        badAt(3, "x=bytes #256;");
        badAt(3, "x=bytes 1 255 #256;");
        for (long b : FAR) {
            badAt(3, "x=bytes #" + b + ";");
        }
        code("x=bytes" + " 7".repeat(64) + ";", Check.join(new int[] {158, 64}, Check.times(64, 7)));
        badAt(6, "x=bytes" + " 7".repeat(64) + " #7;");
        badAt(6, "x=bytes" + " 7".repeat(64) + " #7 7 7");
        badAt(6, "x={bytes" + " 7".repeat(64) + " #7/1};");
        good("x={bytes" + " 7".repeat(64) + "/1,bytes" + " 7".repeat(64) + "/1};", 1);
        badAt(1, "x=bytes#;");
    }

    /** "a PART's NUMBER above 64". */
    private static void widthsOfParts() {
        code("x={reg 1/0};", 81, 147, 0);
        code("x={reg 1/64};", 81, 147, 64);
        badAt(3, "x={reg 1/#65};");
        badAt(3, "x={reg 1/64,none/#65};");
        for (long n : FAR) {
            badAt(3, "x={reg 1/#" + n + "};");
        }
    }

    /** "a ROW's second NUMBER that is not above its first one (at it)". */
    private static void rangesOfRows() {
        long[] firsts = {0, 1, 5, 255, 1L << 32, 999999999999999998L};
        for (long first : firsts) {
            good("x=" + first + ".." + (first + 1) + ":none;", 1);
            badAt(3, "x=" + first + "..#" + first + ":none;");
            badAt(3, "x=1..2:none," + first + "..#" + first + ":none;");
            if (first > 0) {
                badAt(3, "x=" + first + "..#" + (first - 1) + ":none;");
                badAt(3, "x=" + first + "..#0:none;");
            }
        }
        badAt(3, "x=999999999999999999..#999999999999999999:none;");
        good("x=5..6:none,1..2:none,1..2:none;", 1);
    }

    /** "4 a NAME that was told". */
    private static void namesThatWereTold() {
        badAt(4, "a=none;#a=none;");
        badAt(4, "a=none;b=none;c=none;#a=none;");
        badAt(4, "a=none;b=none;c=none;#c");
        badAt(4, "abcdefgh=none;#abcdefgh$");
        good("a=none;aa=none;a1=none;b=none;", 4);
        good("abcdefgh=none;abcdefgg=none;bbcdefgh=none;", 3);
        LocationDesk desk = new LocationDesk();
        Check.due("a", Check.compile(desk, "a=none;"), 1);
        Check.due("a in another text", Check.compile(desk, "a=reg 1;"), 1);
        Check.due("a fault behind a", Check.compile(desk, "b=none;b=none;"), -1);
        Check.due("b was not told", Check.compile(desk, "b=none;"), 1);
    }

    /** "5 the 13th of ( [ { ? - ~ @ tls and : of E that are open": 12 of each kind, and one more of each other kind. */
    private static void openOfEachKind() {
        String[] ahead = {"(", "-", "~", "@1 ", "tls ", "1?", "1?2:"};
        String[] behind = {")", "", "", "", "", ":3", ""};
        String[] more = {"#(1)", "#-1", "#~1", "#@8 1", "#tls 1", "1#?2:3", "1#?2:3"};
        for (int i = 0; i < ahead.length; i++) {
            boolean sign = i >= 1 && i <= 4;
            String twelve = ahead[i].repeat(12);
            String closed = behind[i].repeat(12);
            good("x=value " + twelve + "1" + closed + ";", 1);
            for (int j = 0; j < more.length; j++) {
                if (!sign || j < 5) {
                    badAt(5, "x=value " + twelve + more[j] + closed + ";");
                    badAt(5, "x=[" + ahead[i].repeat(11) + more[j] + behind[i].repeat(11) + "];");
                    badAt(5, "x={[" + ahead[i].repeat(10) + more[j] + behind[i].repeat(10) + "]/1};");
                    badAt(5, "x={value " + ahead[i].repeat(11) + more[j] + behind[i].repeat(11) + "/1};");
                    badAt(5, "x=1..2:{none/1,[" + ahead[i].repeat(10) + more[j] + behind[i].repeat(10) + "]/1};");
                    String less = more[j].replace("#", "");
                    good("x=value " + ahead[i].repeat(11) + less + behind[i].repeat(11) + ";", 1);
                    good("x=[" + ahead[i].repeat(10) + less + behind[i].repeat(10) + "];", 1);
                    good("x={[" + ahead[i].repeat(9) + less + behind[i].repeat(9) + "]/1};", 1);
                }
            }
        }
    }

    /** "(- ~ @ tls up to their U's end, ? up to its :, that : up to its E's end, ( [ { up to ) ] })". */
    private static void openAndClosed() {
        // inside of so many brackets one more, or two more, may be open
        String[] one = {"-1+-1*-1", "~1<<~1", "@1 1&@1 1", "tls 1|tls 1", "(1)-(1)", "1?2:3", "-1?2:3", "(1)?2:3", "1?2:3+4", "-1==-1?2:3"};
        for (String e : one) {
            good("x=value " + inside(11, e) + ";", 1);
            good("x=[" + inside(10, e) + "];y={[" + inside(9, e) + "]/1,[" + inside(9, e) + "]/1};", 2);
        }
        String[] two = {"-#-1", "~#(1)", "@1 #tls 1", "tls #@1 1", "(#-1)", "(1#?2:3)", "1?#-2:3", "1?#(2):3", "1?2:#-3", "1?2:3+#-4", "1?2:3*#(4)",
            "1?2:3#?4:5", "1?2#?3:4:5", "-1+(#~2)", "-1?2:#-3", "1?2:#(3)", "(1)+-#-1"};
        for (String e : two) {
            badAt(5, "x=value " + inside(11, e) + ";");
            badAt(5, "y=none;x=1..2:{[" + inside(9, e) + "]/1};");
            good("x=value " + inside(10, e.replace("#", "")) + ";", 1);
            good("x={[" + inside(8, e.replace("#", "")) + "]/1};", 1);
        }
        String most = "[" + inside(11, "1") + "]";
        good("x=" + most + ";y=1..2:" + most + ",3..4:" + most + ";z=" + most + ";", 3);
        String mostInPart = "[" + inside(10, "1") + "]/1";
        good("x={" + mostInPart + "," + mostInPart + "," + mostInPart + "};", 1);
        badAt(5, "x={" + mostInPart + ",[" + "(".repeat(10) + "#(1");
        LocationDesk desk = new LocationDesk();
        for (int i = 0; i < 3; i++) {
            Check.due("a fault while twelve are open", Check.compile(desk, "x={[" + "(".repeat(10) + ";"), -1);
        }
        Check.due("none of them is open in the next text", Check.compile(desk, "x=" + most + ";"), 1);
    }

    private static String inside(int brackets, String e) {
        return "(".repeat(brackets) + e + ")".repeat(brackets);
    }

    private static String names(int count) {
        StringBuilder text = new StringBuilder();
        for (int i = 0; i < count; i++) {
            text.append("n").append(i).append("=reg ").append(i).append(";");
        }
        return text.toString();
    }

    /** "6 the 13th NAME". */
    private static void manyNames() {
        for (int count = 0; count <= 12; count++) {
            good(names(count), count);
        }
        LocationDesk desk = new LocationDesk();
        Check.compile(desk, names(12));
        Check.due("the twelfth", desk.where(11, 0, 1), 0);
        Edge.is(desk, "the twelfth", 2, 11);
        Check.due("no thirteenth", desk.where(12, 0, 1), -1);
        badAt(6, names(12) + "#x=none;");
        badAt(6, names(12) + " #x");
        badAt(6, names(12) + "#x=reg 32;");
        badAt(6, names(12) + "#n12=none;n13=none;");
        good(names(12) + " \n ", 12);
        badAt(1, names(12) + "#;");
        badAt(1, names(12) + "#reg");
    }

    /** "the 9th ROW or PART (at its first token)". */
    private static void manyRowsAndParts() {
        for (int count = 1; count <= 8; count++) {
            LocationDesk desk = new LocationDesk();
            String rows = "1..2:none,".repeat(count - 1) + "3..4:reg " + count;
            Check.due(count + " rows", Check.compile(desk, "x=" + rows + ";"), 1);
            Check.due("rows", desk.variable(0, 0), count);
            Check.due("size", desk.variable(0, 1), 18 * count + 1 + 16);
            desk.where(0, 3, 1);
            Edge.is(desk, "the last row", 2, count);
            desk.means(0, 3);
            Edge.is(desk, "the last row", 2, count);
            String parts = "none/1,".repeat(count - 1) + "reg " + count + "/1";
            Check.due(count + " parts", Check.compile(desk, "x={" + parts + "};"), 1);
            Check.due("no rows", desk.variable(0, 0), 0);
            desk.where(0, 0, 9);
            Check.due("parts", desk.parts(), count);
            Check.due("the last part", desk.part(count - 1, 1), count);
            desk.means(0, 0);
            Check.due("parts", desk.parts(), count);
        }
        String eight = "1..2:none,".repeat(8);
        badAt(6, "x=" + eight + "#3..4:none;");
        badAt(6, "x=" + eight + "#3");
        badAt(6, "x=" + eight + "#3..3:none;");
        badAt(6, "x=" + eight + " \n #3..4:none;");
        badAt(1, "x=" + eight + "#;");
        badAt(1, "x=" + eight + "#reg 1;");
        String parts = "none/1,".repeat(8);
        String[] firsts = {"reg 1/1};", "[1]/1};", "value 1/1};", "bytes 1/1};", "none/1};", "reg 32/65"};
        for (String first : firsts) {
            badAt(6, "x={" + parts + "#" + first);
            badAt(6, "x=1..2:none,2..3:{" + parts + "#" + first);
        }
        badAt(1, "x={" + parts + "#};");
        badAt(1, "x={" + parts + "#1};");
        badAt(1, "x={" + parts + "#");
        String full = "{" + "none/1,".repeat(7) + "none/1}";
        good("x=1..2:" + full + ",2..3:" + full + ";y=" + full + ";", 2);
    }

    /** "at one place the least". */
    private static void leastAtOnePlace() {
        badAt(4, names(12) + "#n0=none;");
        badAt(4, names(12) + "#n11=none;");
        badAt(3, "x=bytes" + " 7".repeat(64) + " #256;");
        badAt(1, "x=bytes" + " 7".repeat(64) + " #7a;");
        badAt(1, "x=bytes" + " 7".repeat(64) + " #0000000000000000256;");
        badAt(1, "x=bytes #256a;");
        badAt(1, "x=reg #32a;");
        badAt(1, "x=reg #0000000000000000032;");
        badAt(1, "x={none/#65a};");
        badAt(1, "x=2..#1a:none;");
        badAt(1, "x=value " + "-".repeat(12) + "#[1];");
        badAt(1, "x=value " + "-".repeat(12) + "#@9 1;");
        badAt(1, "x=value " + "-".repeat(12) + "1#(1);");
        badAt(1, "x=value " + "(".repeat(12) + "1#~1;");
    }

    /** "the first one by its place"; "If there is none: 7". */
    private static void firstByItsPlace() {
        String tooLong = "=[" + sum(150) + "];";
        String[] faults = {"=#;", "=reg #32;", "=bytes #256;", "=none;#a=none;", "=value " + "~".repeat(12) + "#~1;",
            "=bytes" + " 1".repeat(64) + " #1;"};
        for (int i = 0; i < faults.length; i++) {
            badAt(i + 1, "a=none;b" + faults[i] + "c" + faults[(i + 1) % 6].replace("#", ""));
            badAt(i + 1, "a=none;b" + faults[i] + "c" + tooLong);
            badAt(i + 1, "a=none;c" + tooLong + "b" + faults[i]);
        }
        badAt(7, "a=none;#c" + tooLong + "b=none;");
        badAt(7, "a=none;#c" + tooLong + "d" + tooLong);
        badAt(7, "a=none; \n #c" + tooLong);
        badAt(7, "#a" + tooLong);
    }

    /** "7, at the NAME of the first variable one of whose EXPRESSIONS has more than 300 BYTES". */
    private static void expressionsOf300() {
        // 1 + 2 n bytes of a sum, 3 of a great number, 1 of value
        String[] fit = {"value " + sum(149), "[" + sum(148) + "+128]", "value " + sum(148) + "+1", "{value " + sum(148) + "/1}",
            "{[" + sum(147) + "+128]/1}"};
        for (String location : fit) {
            good("x=" + location + ";", 1);
            good("x=1..2:" + location + ";", 1);
        }
        LocationDesk desk = new LocationDesk();
        Check.compile(desk, "x=" + fit[0] + ";");
        Check.due("300 bytes", desk.variable(0, 1), 300);
        Check.due("the last one", desk.variable(0, 399), 159);
        Check.due("none behind it", desk.variable(0, 400), -1);
        Check.due("it goes", desk.where(0, 0, 1000), 0);
        Check.due("150", desk.part(0, 1), 150);
        Check.compile(desk, "x=" + fit[1] + ";");
        Check.due("300 bytes", desk.variable(0, 1), 300);
        String[] more = {"[" + sum(150) + "]", "value " + sum(148) + "+128", "{value " + sum(147) + "+128/1}",
            "{[" + sum(148) + "]/1,reg 1/1}", "{value " + sum(148) + "/1,none/1}", "[" + sum(300) + "]"};
        for (String location : more) {
            badAt(7, "#x=" + location + ";");
            badAt(7, "y=reg 1;#x=1..2:none,2..3:" + location + ";z=none;");
        }
        // far too long, with the jumps' two bytes around the 600th and behind it
        for (int count = 296; count <= 300; count++) {
            badAt(7, "#x=[" + sum(count) + "?2:3];");
            badAt(7, "#x=[" + sum(count) + "+128?2:3];");
            badAt(7, "#x=[0?2:" + sum(count - 5) + "];");
            badAt(7, "#x=[0?2:" + sum(count - 5) + "+128];");
            badAt(7, "y=none;#x=5..6:[" + sum(count - 9) + "?2:3];");
            badAt(7, "y=none;#x=5..6:[" + sum(count - 9) + "+128?2:3];");
            badAt(7, "y=none;#x=5..6:[" + sum(count - 9) + "],6..7:none;");
        }
    }

    /** "or whose LIST has more than 600". */
    private static void listsOf600() {
        // 18 bytes ahead of each row's, and 16 at the end
        LocationDesk desk = new LocationDesk();
        Check.due("600", Check.compile(desk, "x=1..2:value " + sum(149) + ",2..3:value " + sum(123) + ";"), 1);
        Check.due("18 + 300 + 18 + 248 + 16", desk.variable(0, 1), 600);
        Check.due("its last byte", desk.variable(0, 699), 0);
        Check.due("none behind it", desk.variable(0, 700), -1);
        Check.due("its last row", desk.where(0, 2, 1000), 0);
        Edge.is(desk, "its last row", 3, 124);
        Check.due("behind its last row", desk.where(0, 3, 1000), 0);
        Edge.is(desk, "EMPTY", 0, 0);
        badAt(7, "#x=1..2:value " + sum(149) + ",2..3:[" + sum(124) + "];");
        badAt(7, "y=none;#x=1..2:value " + sum(149) + ",2..3:value " + sum(124) + ";");
        badAt(7, "y=none;#x=1..2:value " + sum(149) + ",2..3:value " + sum(149) + ";");
        // a third row whose two bytes of size stand around the 600th
        for (int count = 121; count <= 125; count++) {
            badAt(7, "#x=1..2:value " + sum(149) + ",2..3:[" + sum(count) + "],3..4:none;");
            badAt(7, "#x=1..2:value " + sum(149) + ",2..3:value " + sum(count) + ",3..4:none;");
        }
        String row = "1..2:bytes" + " 1".repeat(53) + ",";
        good("x=" + row.repeat(7) + "1..2:bytes" + " 1".repeat(53) + ";", 1);
        badAt(7, "#x=" + row.repeat(7) + "1..2:bytes" + " 1".repeat(54) + ";");
    }

    // ---- COMPILED

    /** "NUMBER n: 48 + n up to 31, 8 up to 255, 10 up to 65535, 12 up to 4294967295, else 14." */
    private static void numbersCompiled() {
        code("x=[0];", 48);
        code("x=[31];", 79);
        code("x=[32];", 8, 32);
        code("x=[255];", 8, 255);
        code("x=[256];", 10, 0, 1);
        code("x=[65535];", 10, 255, 255);
        code("x=[65536];", 12, 0, 0, 1, 0);
        code("x=[2147483648];", 12, 0, 0, 0, 128);
        code("x=[4294967295];", 12, 255, 255, 255, 255);
        code("x=[4294967296];", 14, 0, 0, 0, 0, 1, 0, 0, 0);
        code("x=[999999999999999999];", Edge.with(14, Check.lowFirst(999999999999999999L, 8)));
        LocationDesk desk = new LocationDesk();
        long[] all = {0, 31, 32, 255, 256, 65535, 65536, 4294967295L, 4294967296L, 999999999999999999L};
        for (long n : all) {
            means(desk, Long.toString(n), n);
        }
    }

    private static int[] signedLeb(long n) {
        int[] bytes = new int[10];
        int size = 0;
        long rest = n;
        while (rest < -64 || rest > 63) {
            bytes[size] = (int) (rest & 127) | 128;
            rest >>= 7;
            size++;
        }
        bytes[size] = (int) (rest & 127);
        return java.util.Arrays.copyOf(bytes, size + 1);
    }

    /** "one OPERATION with that (less it for -)"; "LEBS as short as they can be". */
    private static void offsetsCompiled() {
        code("x=[%3+0];", 115, 0);
        code("x=[%3-0];", 115, 0);
        for (int size = 1; size <= 8; size++) {
            long bit = 1L << 7 * size - 1;
            long[] offsets = {bit - 1, bit, -bit, -bit - 1};
            int[] sizes = {size, size + 1, size, size + 1};
            for (int i = 0; i < 4; i++) {
                int[] leb = signedLeb(offsets[i]);
                Check.due("size of " + offsets[i], leb.length, sizes[i]);
                String sign = offsets[i] < 0 ? "-" : "+";
                code("x=[%3" + sign + Math.abs(offsets[i]) + "];", Edge.with(115, leb));
                code("x=[fb" + sign + Math.abs(offsets[i]) + "];", Edge.with(145, leb));
                LocationDesk desk = new LocationDesk();
                desk.load(3, 1000);
                means(desk, "%3" + sign + Math.abs(offsets[i]), 1000 + offsets[i]);
            }
        }
        code("x=[%3-999999999999999999];", Edge.with(115, signedLeb(-999999999999999999L)));
        code("x=[%3+1+2];", 115, 1, 35, 2);
        code("x=[%3-1-2];", 115, 127, 50, 28);
        code("x=[%3+1*2];", 115, 0, 49, 50, 30, 34);
        code("x=[%3*1+2];", 115, 0, 49, 30, 35, 2);
        code("x=[1+%3+2];", 49, 115, 0, 34, 35, 2);
        code("x=[%3+%4+2];", 115, 0, 116, 0, 34, 35, 2);
        code("x=[%3<<1+2];", 115, 0, 49, 35, 2, 36);
        code("x=[%3+1<<2];", 115, 1, 50, 36);
        code("x=[1<<%3+2];", 49, 115, 2, 36);
        code("x=[%3+1==%4-1];", 115, 1, 116, 127, 41);
        code("x=[cfa+1];", 156, 35, 1);
        code("x=[obj-1];", 151, 49, 28);
        code("x=[-%3+1];", 115, 0, 31, 35, 1);
        code("x=[@8%3+1];", 115, 0, 6, 35, 1);
        code("x=[%3+1?%4+1:fb-1];", 115, 1, 40, 5, 0, 145, 127, 47, 2, 0, 116, 1);
    }

    /** "Other PRODUCTS of a SUM that are a NUMBER alone, behind +: 35." */
    private static void addedNumbersCompiled() {
        code("x=[1+0];", 49, 35, 0);
        for (int size = 1; size <= 8; size++) {
            long most = (1L << 7 * size) - 1;
            int[] leb = Edge.leb(most);
            int[] more = Edge.leb(most + 1);
            Check.due("size", leb.length, size);
            Check.due("size", more.length, size + 1);
            code("x=[1+" + most + "];", Check.join(new int[] {49, 35}, leb));
            if (size < 8) {
                code("x=[1+" + (most + 1) + "];", Check.join(new int[] {49, 35}, more));
            }
        }
        code("x=[1+999999999999999999];", Check.join(new int[] {49, 35}, Edge.leb(999999999999999999L)));
        code("x=[1-2];", 49, 50, 28);
        code("x=[1+2*3];", 49, 50, 51, 30, 34);
        code("x=[1*2+3];", 49, 50, 30, 35, 3);
        code("x=[1+2-3+4];", 49, 35, 2, 51, 28, 35, 4);
        code("x=[1+-2];", 49, 50, 31, 34);
        code("x=[1+cfa];", 49, 156, 34);
        code("x=[1|2];", 49, 50, 33);
    }

    /** "E ? F : G: E, 40 to F, G, 47 behind F, F." */
    private static void jumpsCompiled() {
        int[] counts = {0, 60, 61, 62, 63, 64, 124, 125, 126, 127, 128};
        for (int count : counts) {
            // G has 1 + 2 count bytes, F has one
            LocationDesk desk = new LocationDesk();
            Check.due("compile", Check.compile(desk, "x=value 1?2:" + sum(count) + ";y=value 0?" + sum(count) + ":2;"), 2);
            int far = 1 + 2 * count;
            Check.due("40 to F", desk.variable(0, 102) + 256 * desk.variable(0, 103), far + 3);
            Check.due("47 behind F", desk.variable(0, 105 + far) + 256 * desk.variable(0, 106 + far), 1);
            Check.due("40 to F", desk.variable(1, 102) + 256 * desk.variable(1, 103), 4);
            Check.due("47 behind F", desk.variable(1, 106) + 256 * desk.variable(1, 107), far);
            for (int i = 0; i < 2; i++) {
                Check.due("where", desk.where(i, 0, 1000), 0);
                Edge.is(desk, "2", 3, 2);
            }
        }
    }

    // ---- promises 21 to 24

    /** "The TAPE (which is empty then) is read as a text .. in place of those of before". */
    private static void tapeAndVariables() {
        LocationDesk desk = new LocationDesk();
        Check.due("an empty tape", desk.compile(), 0);
        Check.due("told(0)", desk.told(0), 0);
        String full = "a=none;" + " ".repeat(986) + "b=none;";
        Check.due("1000 letters", Check.compile(desk, full), 2);
        Check.due("the tape is empty", desk.feed(1, 2, 3, 4, 5), 20);
        Check.due("not a text", desk.compile(), -1);
        Check.due("told(0)", desk.told(0), 1);
        Check.due("told(1)", desk.told(1), 0);
        Check.due("the tape is empty", desk.feed(1, 2, 3, 4, 5), 20);
        Check.due("b stays", desk.variable(1, 1000), 'b');
        Check.due("1000 letters, the last does not go", Check.compile(desk, full.substring(0, 999) + ":"), -1);
        Check.due("told(1)", desk.told(1), 999);
        Check.due("fewer", Check.compile(desk, "c=none;"), 1);
        Check.due("c", desk.variable(0, 1000), 'c');
        Check.due("b is gone", desk.variable(1, 1000), -1);
        Check.due("none", Check.compile(desk, ""), 0);
        Check.due("c is gone", desk.variable(0, 1000), -1);
        Check.text(desk, "a=none;b=none;");
        desk.end(7);
        Check.due("the first seven letters", desk.compile(), 1);
        Check.text(desk, "a=none;b=none;");
        desk.end(6);
        Check.due("the first six", desk.compile(), -1);
        Check.due("told(1)", desk.told(1), 6);
    }

    /** Promise 22: "NONE if there is none such." */
    private static void variableArguments() {
        LocationDesk desk = new LocationDesk();
        for (int what : new int[] {0, 1, 2, 100, 1000}) {
            Check.due("ahead of any text", desk.variable(0, what), -1);
        }
        Check.compile(desk, "abcdefgh=1..2:reg 3,4..5:none;z=bytes 9 8;n=none;");
        int[] sizes = {18 + 1 + 18 + 16, 4, 0};
        int[] letters = {8, 1, 1};
        int[] rows = {2, 0, 0};
        for (int i = 0; i < 3; i++) {
            Check.due("variable(" + i + ", -1)", desk.variable(i, -1), -1);
            Check.due("rows of " + i, desk.variable(i, 0), rows[i]);
            Check.due("size of " + i, desk.variable(i, 1), sizes[i]);
            Check.due("letters of " + i, desk.variable(i, 2), letters[i]);
            Check.due("variable(" + i + ", 3)", desk.variable(i, 3), -1);
            Check.due("variable(" + i + ", 99)", desk.variable(i, 99), -1);
            Check.due("the last byte of " + i, desk.variable(i, 99 + sizes[i]), i == 0 ? 0 : i == 1 ? 8 : -1);
            Check.due("none behind it", desk.variable(i, 100 + sizes[i]), -1);
            Check.due("variable(" + i + ", 999)", desk.variable(i, 999), -1);
            Check.due("the first letter of " + i, desk.variable(i, 1000), "azn".charAt(i));
            Check.due("the last letter of " + i, desk.variable(i, 999 + letters[i]), "hzn".charAt(i));
            Check.due("none behind it", desk.variable(i, 1000 + letters[i]), -1);
            Check.due("variable(" + i + ", MIN)", desk.variable(i, Integer.MIN_VALUE), -1);
            Check.due("variable(" + i + ", MAX)", desk.variable(i, Integer.MAX_VALUE), -1);
        }
        for (int i : new int[] {-1, 3, 11, 12, Integer.MIN_VALUE, Integer.MAX_VALUE}) {
            for (int what : new int[] {0, 1, 2, 100, 1000}) {
                Check.due("variable(" + i + ", " + what + ")", desk.variable(i, what), -1);
            }
        }
    }

    /** Promise 23: "NONE: no such variable, or another FUEL." */
    private static void whereArguments() {
        LocationDesk desk = new LocationDesk();
        Check.due("ahead of any text", desk.where(0, 0, 1), -1);
        Check.due("ahead of any text", desk.means(0, 0), -1);
        Check.compile(desk, "x=reg 1;y=5..6:reg 2;");
        for (int i : new int[] {-1, 2, 12, Integer.MIN_VALUE, Integer.MAX_VALUE}) {
            Check.due("where(" + i + ")", desk.where(i, 5, 1), -1);
            Check.due("means(" + i + ")", desk.means(i, 5), -1);
        }
        for (int fuel : new int[] {0, 1001, -1, Integer.MIN_VALUE, Integer.MAX_VALUE}) {
            Check.due("where(0) with " + fuel, desk.where(0, 5, fuel), -1);
            Check.due("where(1) with " + fuel, desk.where(1, 5, fuel), -1);
            Check.due("where(1) with " + fuel + ", no row", desk.where(1, 7, fuel), -1);
        }
        Edge.is(desk, "the RESULT stays", 0, 0);
        Check.due("compile() was the latest", desk.told(2), 0);
        for (int fuel : new int[] {1, 1000}) {
            Check.due("where(0) with " + fuel, desk.where(0, 5, fuel), 0);
            Edge.is(desk, "x", 2, 1);
            Check.due("where(1) with " + fuel, desk.where(1, 5, fuel), 0);
            Edge.is(desk, "y", 2, 2);
        }
        Check.compile(desk, "x=value 1;");
        Check.due("fuel 1 for two steps", desk.where(0, 0, 1), 12);
        Check.due("told(1)", desk.told(1), 1);
        Check.due("told(2)", desk.told(2), 1);
        Check.due("fuel 2", desk.where(0, 0, 2), 0);
    }

    /** "Of ROWS the first with first <= pc < second (without sign); without one EMPTY." */
    private static void rowsByPc() {
        LocationDesk desk = new LocationDesk();
        Check.compile(desk, "x=10..20:reg 1,15..30:reg 2,0..5:reg 3,999999999999999998..999999999999999999:reg 4;z=reg 9;");
        long[][] want = {{0, 3}, {4, 3}, {5, -1}, {9, -1}, {10, 1}, {15, 1}, {19, 1}, {20, 2}, {29, 2}, {30, -1}, {-1, -1}, {Edge.MIN, -1},
            {Edge.MIN + 12, -1}, {999999999999999997L, -1}, {999999999999999998L, 4}, {999999999999999999L, -1}, {Edge.MAX, -1},
            {(1L << 32) + 12, -1}};
        for (long[] w : want) {
            for (int round = 0; round < 2; round++) {
                desk.where(1, 0, 1);
                Check.due("pc " + w[0], round == 0 ? desk.where(0, w[0], 1) : desk.means(0, w[0]), 0);
                Edge.is(desk, "pc " + w[0], w[1] < 0 ? 0 : 2, Math.max(0, w[1]));
                Check.due("parts", desk.parts(), 1);
            }
        }
        Check.due("a location alone holds for every pc", desk.where(1, Edge.MIN, 1), 0);
        Edge.is(desk, "z", 2, 9);
        Check.due("a location alone holds for every pc", desk.means(1, -1), 0);
        Edge.is(desk, "z", 2, 9);
    }

    /** "@n U the n BYTES at U": 5 beyond the MEMORY. */
    private static void memoryByMeaning() {
        for (int n = 1; n <= 8; n++) {
            LocationDesk desk = new LocationDesk();
            desk.poke(4096 - n, 1);
            desk.poke(4095, 255);
            means(desk, "@" + n + " " + (4096 - n), n == 1 ? 255 : 1 | 255L << 8 * n - 8);
            means(desk, "@" + n + " 0", 0);
            String[] beyond = {"" + (4097 - n), "4096", "-1", "(-" + n + ")", "4294967296", "(1<<63)", "~(1<<63)"};
            for (String a : beyond) {
                failsToMean(desk, "@" + n + " " + a, 5);
            }
        }
    }

    /** "div with sign, mod without": 6 by 0. */
    private static void divisionsByMeaning() {
        LocationDesk desk = new LocationDesk();
        failsToMean(desk, "5 div 0", 6);
        failsToMean(desk, "5 mod 0", 6);
        failsToMean(desk, "0 div(3-3)", 6);
        means(desk, "0 div 5", 0);
        means(desk, "-7 div 2", -3);
        means(desk, "7 div-2", -3);
        means(desk, "(1<<63)div-1", Edge.MIN);
        means(desk, "-1 mod 10", 5);
        means(desk, "(1<<63)mod-1", Edge.MIN);
        means(desk, "-1 mod(1<<63)", Edge.MAX);
        means(desk, "1 div(1<<32)", 0);
    }

    /** "the others as the OPERATIONS of II (>> with sign, >>> without ..)". */
    private static void shiftsByMeaning() {
        LocationDesk desk = new LocationDesk();
        means(desk, "3<<0", 3);
        means(desk, "3<<63", Edge.MIN);
        means(desk, "3<<64", 0);
        means(desk, "3<<-1", 0);
        means(desk, "-3>>63", -1);
        means(desk, "-3>>64", -1);
        means(desk, "-3>>-1", -1);
        means(desk, "3>>64", 0);
        means(desk, "-3>>>63", 1);
        means(desk, "-3>>>64", 0);
        means(desk, "-3>>>-1", 0);
        means(desk, "1<<4294967296", 0);
        means(desk, "(1<<63)-1", Edge.MAX);
        means(desk, "-(1<<63)", Edge.MIN);
        means(desk, "(1<<63)*2", 0);
        means(desk, "(1<<63)<~(1<<63)", 1);
        means(desk, "(1<<63)>~(1<<63)", 0);
    }

    /** "cfa, obj the CFA and OBJECT, tls U TLS + U": 11 if there is none. */
    private static void thereByMeaning() {
        LocationDesk desk = new LocationDesk();
        failsToMean(desk, "cfa", 11);
        failsToMean(desk, "obj", 11);
        failsToMean(desk, "tls 0", 11);
        failsToMean(desk, "fb", 11);
        failsToMean(desk, "tls(1 div 0)", 6);
        failsToMean(desk, "tls@1 4096", 5);
        desk.load(31, Edge.MAX);
        desk.cfa(31, 1);
        desk.set(0, -1, true);
        desk.set(1, Edge.MAX, true);
        means(desk, "cfa", Edge.MIN);
        means(desk, "obj", -1);
        means(desk, "tls 1", Edge.MIN);
        desk.cfa(-1, 0);
        desk.set(0, 0, false);
        desk.set(1, 0, false);
        failsToMean(desk, "1+cfa", 11);
        failsToMean(desk, "1+obj", 11);
        failsToMean(desk, "1+tls 1", 11);
    }

    private static void frameOf(LocationDesk desk, int... bytes) {
        Check.tape(desk, bytes);
        desk.expression(2);
        desk.frame(2);
    }

    /** "fb FRAME's BASE (a RUN with FUEL 1000)". */
    private static void basesByMeaning() {
        LocationDesk desk = new LocationDesk();
        desk.load(31, -1);
        frameOf(desk, 53);
        means(desk, "fb", 5);
        means(desk, "fb-5", 0);
        frameOf(desk, 53, 159);
        means(desk, "fb+1", 6);
        frameOf(desk, 111);
        means(desk, "fb+1", 0);
        int[][] none = {{}, {150}, {158, 0}, {158, 1, 1}, {147, 0}, {53, 147, 8}, {145, 0}};
        for (int[] bytes : none) {
            frameOf(desk, bytes);
            failsToMean(desk, "fb", 11);
        }
        LocationDesk other = new LocationDesk();
        frameOf(other, 0);
        failsToMean(other, "fb", 2);
        frameOf(other, 8);
        failsToMean(other, "1+fb", 1);
        frameOf(other, 147, 1, 53);
        failsToMean(other, "fb", 13);
        frameOf(other, 144, 32);
        failsToMean(other, "fb", 14);
        frameOf(other, 47, 1, 0);
        failsToMean(other, "fb", 7);
        // a call of so many steps, and one more
        LocationDesk long1 = new LocationDesk();
        Check.tape(long1, Check.times(498, 150));
        long1.expression(3);
        frameOf(long1, 152, 3, 0, 152, 3, 0, 150, 53);
        Check.compile(long1, "x=value fb+fb;");
        Check.due("1000 steps, twice", long1.means(0, 0), 0);
        Edge.is(long1, "10", 3, 10);
        frameOf(long1, 152, 3, 0, 152, 3, 0, 150, 150, 53);
        Check.due("1001 steps", long1.means(0, 0), 12);
        Check.due("told(1)", long1.told(1), 0);
        Edge.is(long1, "the RESULT stays", 3, 10);
    }

    /** "E ? F : G is F if E is not 0, else G; parts from the left, what ? leaves out not at all." */
    private static void leftOut() {
        LocationDesk desk = new LocationDesk();
        means(desk, "0?1 div 0:7", 7);
        means(desk, "1?7:1 div 0", 7);
        means(desk, "-1?7:obj", 7);
        means(desk, "4294967296?7:cfa", 7);
        means(desk, "1<<63?7:fb", 7);
        means(desk, "0?@8 4089:0?tls 1:9", 9);
        failsToMean(desk, "1?1 div 0:7", 6);
        failsToMean(desk, "0?7:1 div 0", 6);
        failsToMean(desk, "1 div 0?7:7", 6);
        failsToMean(desk, "obj+1 div 0", 11);
        failsToMean(desk, "1 div 0+obj", 6);
        failsToMean(desk, "@8 4089*obj", 5);
        Check.compile(desk, "x={value 1 div 0/1,[obj]/1};y={value obj/1,[1 div 0]/1};");
        Check.due("from the left", desk.means(0, 0), 6);
        Check.due("from the left", desk.means(1, 0), 11);
        Check.due("from the left", desk.where(0, 0, 9), 6);
        Check.due("from the left", desk.where(1, 0, 9), 11);
    }
}
