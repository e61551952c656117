/** Promises 21 and 22: compile and variable: tokens, grammar, faults, and what texts are compiled to. */
public final class CompileTest {
    public static void main(String[] args) {
        answers();
        variables();
        numbers();
        sums();
        operations();
        choices();
        places();
        rows();
        tokens();
        fullTape();
        grammar();
        limits();
        names();
        openOnes();
        openAgain();
        tooLong();
        Check.finish("CompileTest");
    }

    /** The text is one variable, compiled to these bytes. */
    private static void code(String text, int... want) {
        LocationDesk desk = new LocationDesk();
        Check.due(text, Check.compile(desk, text), 1);
        Check.due(text + ": size", desk.variable(0, 1), want.length);
        for (int i = 0; i < want.length; i++) {
            Check.due(text + ": byte " + i, desk.variable(0, 100 + i), want[i]);
        }
        Check.due(text + ": no more", desk.variable(0, 100 + want.length), -1);
    }

    private static void e(String e, int... want) {
        code("x=[" + e + "];", want);
    }

    private static void fault(String text, int fault, int place) {
        LocationDesk desk = new LocationDesk();
        Check.due("compile " + text, Check.compile(desk, text), -1);
        Check.due("fault of " + text, desk.told(0), fault);
        Check.due("place of " + text, desk.told(1), place);
        Check.due("no variables", desk.variable(0, 0), -1);
    }

    /** The place is where the | stands, which is taken out of the text. */
    private static void faultAt(int fault, String text) {
        int place = text.indexOf('#');
        fault(text.substring(0, place) + text.substring(place + 1), fault, place);
    }

    private static void good(String text, int count) {
        LocationDesk desk = new LocationDesk();
        Check.due("compile " + text, Check.compile(desk, text), count);
        Check.due("no fault of " + text, desk.told(0), 0);
        Check.due("no place of " + text, desk.told(1), -1);
    }

    private static void answers() {
        LocationDesk desk = new LocationDesk();
        Check.due("an empty text", desk.compile(), 0);
        Check.due("blanks", Check.compile(desk, " \n  "), 0);
        Check.due("the tape is empty", desk.end(1), -1);
        Check.due("two", Check.compile(desk, "a=none;b=reg 1;"), 2);
        Check.due("the tape is empty", desk.end(1), -1);
        Check.due("a fault", Check.compile(desk, "c=none"), -1);
        Check.due("the tape is empty", desk.end(1), -1);
        Check.due("fault 1", desk.told(0), 1);
        Check.due("at the end", desk.told(1), 6);
        Check.due("a stays", desk.variable(0, 1000), 'a');
        Check.due("b stays", desk.variable(1, 1000), 'b');
        Check.due("too long", Check.compile(desk, "d=bytes" + " 1".repeat(64) + ";e={" + "bytes 1/1,".repeat(7) + "bytes" + " 1".repeat(64)
            + "/1};f={" + ("bytes" + " 1".repeat(64) + "/1,").repeat(4) + "none/0};"), 3);
        Check.due("one", Check.compile(desk, "c=none;"), 1);
        Check.due("c", desk.variable(0, 1000), 'c');
        Check.due("no second one", desk.variable(1, 0), -1);
        Check.due("none again", Check.compile(desk, ""), 0);
        Check.due("no first one", desk.variable(0, 0), -1);
        Check.compile(desk, "a=reg 5;");
        Check.due("run", desk.where(0, 0, 5), 0);
        Check.compile(desk, "b=reg 6;");
        Check.due("the RESULT stays", desk.part(0, 1), 5);
    }

    private static void variables() {
        LocationDesk desk = new LocationDesk();
        Check.due("compile", Check.compile(desk, "ab12 = reg 3; z = 1..2: none, 3..4: reg 1; abcdefg8=none;"), 3);
        int[] none = {-1, 3, Integer.MIN_VALUE, Integer.MAX_VALUE};
        for (int i : none) {
            Check.due("variable(" + i + ")", desk.variable(i, 0), -1);
        }
        int[][] want = {{0, 0, 0}, {0, 1, 1}, {0, 2, 4}, {0, 100, 83}, {0, 101, -1}, {0, 99, -1}, {0, 3, -1}, {0, -1, -1},
            {0, 1000, 'a'}, {0, 1001, 'b'}, {0, 1002, '1'}, {0, 1003, '2'}, {0, 1004, -1}, {0, 999, -1},
            {0, Integer.MAX_VALUE, -1}, {0, Integer.MIN_VALUE, -1}, {1, 0, 2}, {1, 1, 18 + 18 + 1 + 16}, {1, 2, 1}, {1, 100, 1},
            {1, 108, 2}, {1, 116, 0}, {1, 118, 3}, {1, 126, 4}, {1, 134, 1}, {1, 136, 81}, {1, 137, 0}, {1, 152, 0}, {1, 153, -1},
            {2, 0, 0}, {2, 1, 0}, {2, 2, 8}, {2, 100, -1}, {2, 1007, '8'}, {2, 1008, -1}};
        for (int[] w : want) {
            Check.due("variable(" + w[0] + ", " + w[1] + ")", desk.variable(w[0], w[1]), w[2]);
        }
    }

    private static void numbers() {
        e("0", 48);
        e("31", 79);
        e("32", 8, 32);
        e("255", 8, 255);
        e("256", 10, 0, 1);
        e("65535", 10, 255, 255);
        e("65536", 12, 0, 0, 1, 0);
        e("4294967295", 12, 255, 255, 255, 255);
        e("4294967296", 14, 0, 0, 0, 0, 1, 0, 0, 0);
        e("999999999999999999", Check.join(new int[] {14}, Check.lowFirst(999999999999999999L, 8)));
        e("000000000000000031", 79);
        e("%0", 112, 0);
        e("%31", 143, 0);
        e("fb", 145, 0);
        e("cfa", 156);
        e("obj", 151);
    }

    private static void sums() {
        e("%3+5", 115, 5);
        e("%3-5", 115, 123);
        e("%3+63", 115, 63);
        e("%3+64", 115, 192, 0);
        e("%3-64", 115, 64);
        e("%3-65", 115, 191, 127);
        e("%3-0", 115, 0);
        e("fb-16", 145, 112);
        e("fb+8192", 145, 128, 192, 0);
        e("%3+5+6", 115, 5, 35, 6);
        e("%3-5-6", 115, 123, 54, 28);
        e("%3+5-6+128", 115, 5, 54, 28, 35, 128, 1);
        e("5+6", 53, 35, 6);
        e("5+128", 53, 35, 128, 1);
        e("5-6", 53, 54, 28);
        e("5+%3", 53, 115, 0, 34);
        e("5+%3+6", 53, 115, 0, 34, 35, 6);
        e("%3+%4+6", 115, 0, 116, 0, 34, 35, 6);
        e("%3+5*2", 115, 0, 53, 50, 30, 34);
        e("%3*2+5", 115, 0, 50, 30, 35, 5);
        e("(%3)+5", 115, 0, 35, 5);
        e("%3+(5)", 115, 0, 53, 34);
        e("%3+-5", 115, 0, 53, 31, 34);
        e("-%3+5", 115, 0, 31, 35, 5);
        e("cfa+5", 156, 35, 5);
        e("(%3+5)*2", 115, 5, 50, 30);
        e("2*(fb-1)", 50, 145, 127, 30);
        e("@8 %7+4", 119, 0, 6, 35, 4);
        e("@8(%7+4)", 119, 4, 6);
        e("1|%3+2", 49, 115, 2, 33);
        e("%3+2==fb-3", 115, 2, 145, 125, 41);
        e("%1+2<<%2+3", 113, 2, 114, 3, 36);
        e("%3+999999999999999999", 115, 255, 255, 143, 187, 186, 214, 173, 240, 13);
        e("%3-999999999999999999", 115, 129, 128, 240, 196, 197, 169, 210, 143, 114);
        e("0+999999999999999999", 48, 35, 255, 255, 143, 187, 186, 214, 173, 240, 13);
        e("fb+36028797018963967", 145, 255, 255, 255, 255, 255, 255, 255, 63);
        e("fb+36028797018963968", 145, 128, 128, 128, 128, 128, 128, 128, 192, 0);
        e("fb-36028797018963968", 145, 128, 128, 128, 128, 128, 128, 128, 64);
        e("fb-36028797018963969", 145, 255, 255, 255, 255, 255, 255, 255, 191, 127);
    }

    private static void operations() {
        e("1|2", 49, 50, 33);
        e("1^2", 49, 50, 39);
        e("1&2", 49, 50, 26);
        e("1==2", 49, 50, 41);
        e("1!=2", 49, 50, 46);
        e("1<2", 49, 50, 45);
        e("1<=2", 49, 50, 44);
        e("1>2", 49, 50, 43);
        e("1>=2", 49, 50, 42);
        e("1<<2", 49, 50, 36);
        e("1>>2", 49, 50, 38);
        e("1>>>2", 49, 50, 37);
        e("1*2", 49, 50, 30);
        e("1 div 2", 49, 50, 27);
        e("1 mod 2", 49, 50, 29);
        e("-1", 49, 31);
        e("~1", 49, 32);
        e("--1", 49, 31, 31);
        e("- -~1", 49, 32, 31, 31);
        e("tls 1", 49, 155);
        e("tls-1", 49, 31, 155);
        for (int n = 1; n <= 7; n++) {
            e("@" + n + " 1", 49, 148, n);
        }
        e("@8 1", 49, 6);
        e("@8@4 1", 49, 148, 4, 6);
        e("1*2*3", 49, 50, 30, 51, 30);
        e("1*2 div 3 mod 4", 49, 50, 30, 51, 27, 52, 29);
        e("1<<2>>3>>>4", 49, 50, 36, 51, 38, 52, 37);
        e("1|2|3", 49, 50, 33, 51, 33);
        e("1|2^3&4==5<<6+%1*8", 49, 50, 51, 52, 53, 54, 113, 0, 56, 30, 34, 36, 41, 26, 39, 33);
        e("8*%1+6<<5==4&3^2|1", 56, 113, 0, 30, 35, 6, 53, 36, 52, 41, 51, 26, 50, 39, 49, 33);
        e("1-2-3", 49, 50, 28, 51, 28);
        e("1-(2-3)", 49, 50, 51, 28, 28);
        e("-1*2", 49, 31, 50, 30);
        e("1-2*3", 49, 50, 51, 30, 28);
        e("@2 5+6", 53, 148, 2, 35, 6);
        e("tls 5+6", 53, 155, 35, 6);
    }

    private static void choices() {
        e("1?2:3", 49, 40, 4, 0, 51, 47, 1, 0, 50);
        e("1?256:3+300", 49, 40, 7, 0, 51, 35, 172, 2, 47, 3, 0, 10, 0, 1);
        e("1?2:3?4:5", 49, 40, 12, 0, 51, 40, 4, 0, 53, 47, 1, 0, 52, 47, 1, 0, 50);
        e("1?2?3:4:5", 49, 40, 4, 0, 53, 47, 9, 0, 50, 40, 4, 0, 52, 47, 1, 0, 51);
        e("(1?2:3)+4", 49, 40, 4, 0, 51, 47, 1, 0, 50, 35, 4);
        e("1|2?3:4", 49, 50, 33, 40, 4, 0, 52, 47, 1, 0, 51);
        StringBuilder sum = new StringBuilder("0");
        for (int i = 0; i < 100; i++) {
            sum.append("-1");
        }
        LocationDesk desk = new LocationDesk();
        Check.due("a long jump", Check.compile(desk, "x=[1?2:" + sum + "];"), 1);
        Check.due("40, low", desk.variable(0, 102), 204);
        Check.due("40, high", desk.variable(0, 103), 0);
        Check.due("a longer jump", Check.compile(desk, "x=[1?2:" + sum + "-300-300-300-300-300-300-300-300-300-300-300-300-300];"), 1);
        Check.due("40, low", desk.variable(0, 102), 0);
        Check.due("40, high", desk.variable(0, 103), 1);
    }

    private static void places() {
        code("x=none;");
        code("x=reg 0;", 80);
        code("x=reg 31;", 111);
        code("x=[%1];", 113, 0);
        code("x=value %1;", 113, 0, 159);
        code("x=value 1?2:3;", 49, 40, 4, 0, 51, 47, 1, 0, 50, 159);
        code("x=bytes 0;", 158, 1, 0);
        code("x=bytes 1 2 255;", 158, 3, 1, 2, 255);
        code("x={none/0};", 147, 0);
        code("x={reg 1/4,[5]/64,value 6/8,bytes 7 8/2,none/1};",
            81, 147, 4, 53, 147, 64, 54, 159, 147, 8, 158, 2, 7, 8, 147, 2, 147, 1);
        LocationDesk desk = new LocationDesk();
        Check.due("64 bytes", Check.compile(desk, "x=bytes" + " 9".repeat(64) + ";"), 1);
        Check.due("size", desk.variable(0, 1), 66);
    }

    private static int[] entry(long begin, long end, int... bytes) {
        return Check.join(Check.lowFirst(begin, 8), Check.lowFirst(end, 8), Check.lowFirst(bytes.length, 2), bytes);
    }

    private static void rows() {
        code("x=1..2:reg 3;", Check.join(entry(1, 2, 83), new int[16]));
        code("x=0..1:none,0..999999999999999999:[5],7..300:{reg 1/1,reg 2/2};",
            Check.join(entry(0, 1), entry(0, 999999999999999999L, 53), entry(7, 300, 81, 147, 1, 82, 147, 2), new int[16]));
        code("x=1..2:value 1?2:3,4..5:none;",
            Check.join(entry(1, 2, 49, 40, 4, 0, 51, 47, 1, 0, 50, 159), entry(4, 5), new int[16]));
        LocationDesk desk = new LocationDesk();
        Check.due("8 rows", Check.compile(desk, "x=" + "1..2:none,".repeat(7) + "1..2:none;"), 1);
        Check.due("rows", desk.variable(0, 0), 8);
        Check.due("size", desk.variable(0, 1), 8 * 18 + 16);
        StringBuilder sum = new StringBuilder("0");
        for (int i = 0; i < 140; i++) {
            sum.append("+1");
        }
        Check.due("a long entry", Check.compile(desk, "x=1..2:[" + sum + "],3..4:none;"), 1);
        Check.due("u2, low", desk.variable(0, 116), 281 & 255);
        Check.due("u2, high", desk.variable(0, 117), 1);
    }

    private static void tokens() {
        good("x=none;", 1);
        good("  x \n =\n\nnone ; ", 1);
        good("x=reg 1;y=reg 2;", 2);
        good("x=reg\n1;", 1);
        good("x=1 .. 2 : none;", 1);
        good("x=1..2:none;", 1);
        good("reg1=none;", 1);
        good("fbx=none;regs=none;cfa2=none;nones=none;", 4);
        good("a1b2c3d4=none;", 1);
        good("x=[@45];", 1);
        good("x=[@4 5];", 1);
        good("x=[1>>>2];", 1);
        good("x=value 1 div 2;", 1);
        faultAt(1, "x=#reg1;");
        faultAt(1, "x=[1 #modx 2];");
        faultAt(1, "x=[#1div 2];");
        faultAt(1, "x=[#1x];");
        faultAt(1, "x=[#1X];");
        faultAt(1, "x=[#1A];");
        faultAt(1, "x=[#1Z];");
        faultAt(1, "x=[#1z];");
        faultAt(1, "x=[#1234567890123456789];");
        good("x=[123456789012345678];", 1);
        faultAt(1, "x=[#123456789012345678a];");
        faultAt(1, "x=[#0000000000000000001];");
        faultAt(1, "abcdefgh#i=none;");
        faultAt(1, "abcdefgh#1=none;");
        faultAt(1, "#X=none;");
        faultAt(1, "x#X=none;");
        faultAt(1, "#1=none;");
        faultAt(1, "#reg=none;");
        faultAt(1, "x=none;#value=none;");
        faultAt(1, "x=[#@0 5];");
        faultAt(1, "x=[#@9 5];");
        faultAt(1, "x=[#@ 4 5];");
        faultAt(1, "x=[#@];");
        faultAt(1, "x=1#. .2:none;");
        faultAt(1, "x=1..#.2:none;");
        faultAt(1, "x=[1#!2];");
        faultAt(1, "x=[1#! =2];");
        faultAt(1, "x=[1>>>#>2];");
        faultAt(1, "x=[1> #> 2];");
        faultAt(1, "x=[1#=2];");
        faultAt(1, "x#==none;");
        faultAt(1, "x=[1==#=2];");
        faultAt(1, "x=#\tnone;");
        faultAt(1, "x=none#\r;");
        faultAt(1, "x=none;#\"");
        faultAt(1, "x=none;#$");
        faultAt(1, "x=none;#_");
        faultAt(1, "x=none;#\u007f");
        faultAt(1, "x=none;#\u0000");
        faultAt(1, "x=none;#\u00e9");
        faultAt(1, "x=none;#\u00ff");
        faultAt(1, "x=none; \n #;");
    }

    /** As many tokens as a tape has bytes, and bytes of before behind the text. */
    private static void fullTape() {
        faultAt(7, "#x=[1" + "-1".repeat(497) + "];");
        faultAt(1, "x=[1" + "-1".repeat(498) + "#");
        faultAt(1, "x=[1" + "-1".repeat(497) + "]]#".replace("]#", "#]"));
        LocationDesk desk = new LocationDesk();
        Check.text(desk, "x=none              ");
        desk.end(6);
        Check.due("compile", desk.compile(), -1);
        Check.due("the end is where the tape ends", desk.told(1), 6);
        Check.text(desk, "x=[12345678 ];      ");
        desk.end(10);
        desk.compile();
        Check.due("no digits behind the tape's end", desk.told(1), 10);
        faultAt(4, "x=none;" + " ".repeat(992) + "#x");
        Check.text(desk, "x=none;y=none;");
        desk.end(7);
        Check.due("one", desk.compile(), 1);
    }

    private static void grammar() {
        faultAt(1, "x#");
        faultAt(1, "x #");
        faultAt(1, "x=#");
        faultAt(1, "x=#;");
        faultAt(1, "x=none#");
        faultAt(1, "x=none \n#");
        faultAt(1, "x=none#,");
        faultAt(1, "x #y=none;");
        faultAt(1, "x=none #none;");
        faultAt(1, "x=#nonenone;");
        faultAt(1, "x=reg#;");
        faultAt(1, "x=reg #%3;");
        faultAt(1, "x=reg #-3;");
        faultAt(1, "x=#fb;");
        faultAt(1, "x=#(1);");
        faultAt(1, "x=[#];");
        faultAt(1, "x=[1#;");
        faultAt(1, "x=[1#);");
        faultAt(1, "x=[1 #2];");
        faultAt(1, "x=[1+#];");
        faultAt(1, "x=[1 + #+ 2];");
        faultAt(1, "x=[1-#];");
        faultAt(1, "x=[1*#*2];");
        faultAt(1, "x=[(1#];");
        faultAt(1, "x=[(#)];");
        faultAt(1, "x=[%#r];");
        faultAt(1, "x=[%#fb];");
        faultAt(1, "x=[tls#];");
        faultAt(1, "x=[fb #cfa];");
        faultAt(1, "x=[#none];");
        faultAt(1, "x=[1==2#==3];");
        faultAt(1, "x=[1<2#>3];");
        good("x=[(1<2)>3];", 1);
        good("x=[1<2&2>3];", 1);
        faultAt(1, "x=[1?2#];");
        faultAt(1, "x=[1?#:3];");
        faultAt(1, "x=[1?2:#];");
        faultAt(1, "x=[1#:2];");
        faultAt(1, "x=[?#1:2];".replace("?#", "#?"));
        faultAt(1, "x=value#;");
        faultAt(1, "x=value [#1];".replace("[#", "#["));
        faultAt(1, "x=bytes#;");
        faultAt(1, "x=bytes #,1;");
        faultAt(1, "x=bytes 1#,2;");
        faultAt(1, "x=bytes 1 #-2;");
        faultAt(1, "x={#};");
        faultAt(1, "x={reg 1#};");
        faultAt(1, "x={reg 1/#};");
        faultAt(1, "x={reg 1/2#;");
        faultAt(1, "x={reg 1/2,#};");
        faultAt(1, "x={reg 1/2 #reg 2/2};");
        faultAt(1, "x={#{reg 1/2}};");
        faultAt(1, "x={#1..2:none/2};");
        faultAt(1, "x=reg 1#/2;");
        faultAt(1, "x={reg 1/2#/3};");
        faultAt(1, "x={reg 1/#fb};");
        faultAt(1, "x=[1 #tls 2];");
        faultAt(1, "x=[1 #fb];");
        faultAt(1, "x=[1 #@1 2];");
        faultAt(1, "x=[1 #~2];");
        faultAt(1, "x=[#div 2];");
        faultAt(1, "x=[#mod 2];");
        faultAt(1, "x=[#*2];");
        faultAt(1, "x=[1#..2];");
        faultAt(1, "x=1 #mod 2:none;");
        faultAt(1, "x=1 #div 2:none;");
        faultAt(1, "x=1#==2:none;");
        faultAt(1, "x=1#;");
        faultAt(1, "x=1..#;");
        faultAt(1, "x=1..2#;");
        faultAt(1, "x=1..2 #none;");
        faultAt(1, "x=1..#2none;");
        faultAt(1, "x=1..2:#;");
        faultAt(1, "x=1..2:none,#;");
        faultAt(1, "x=1..2:none,#none;");
        faultAt(1, "x=1..2:#1..2:none;");
        faultAt(1, "x=1..2:none#:none;");
        faultAt(1, "x=none,#1..2:none;".replace(",#", "#,"));
        good("x=1..2:{reg 1/2,none/3},3..4:value 1;", 1);
        good("x={value 1?2:3/4};", 1);
        good("x={bytes 1 2 3/4,value 5/6};", 1);
    }

    private static void limits() {
        faultAt(2, "x=reg #32;");
        faultAt(2, "x=reg #999999999999999999;");
        faultAt(2, "x=[%#32];");
        faultAt(2, "x=[% #32 32];");
        good("x=reg 31;y=[%31];", 2);
        faultAt(3, "x=bytes #256;");
        faultAt(3, "x=bytes 1 2 #256 3;");
        faultAt(3, "x=bytes 1 #4294967296;");
        good("x=bytes 255;", 1);
        faultAt(3, "x={reg 1/#65};");
        faultAt(3, "x={reg 1/64,none/#999999999999};");
        good("x={reg 1/64};", 1);
        good("x={reg 1/0};", 1);
        faultAt(3, "x=2..#1:none;");
        faultAt(3, "x=2..#2:none;");
        faultAt(3, "x=0..#0:none;");
        faultAt(3, "x=1..2:none,4..#3:none;");
        good("x=2..3:none;", 1);
        faultAt(6, "x=" + "1..2:none,".repeat(8) + "#1..2:none;");
        faultAt(6, "x=" + "1..2:none,".repeat(8) + "#1;");
        faultAt(1, "x=" + "1..2:none,".repeat(8) + "#none;");
        faultAt(1, "x=" + "1..2:none,".repeat(8) + "#;");
        faultAt(6, "x={" + "none/1,".repeat(8) + "#none/1};");
        faultAt(6, "x={" + "none/1,".repeat(8) + "#[ ;");
        faultAt(6, "x={" + "none/1,".repeat(8) + "#reg 32;");
        faultAt(1, "x={" + "none/1,".repeat(8) + "#};");
        faultAt(1, "x={" + "none/1,".repeat(8) + "#1};");
        good("x={" + "none/1,".repeat(7) + "none/1};", 1);
        faultAt(6, "x=bytes" + " 1".repeat(64) + " #1;");
        faultAt(3, "x=bytes" + " 1".repeat(64) + " #256;");
        faultAt(1, "x=bytes" + " 1".repeat(64) + " #x;");
        faultAt(1, "x=bytes" + " 1".repeat(64) + " #1x;");
        faultAt(2, "x=reg #32; y=#".replace("y=#", "y="));
        faultAt(1, "x=#; y=reg 32;");
        faultAt(2, "x=[%#32+(((((((((((((1];");
    }

    private static String dozen() {
        StringBuilder text = new StringBuilder();
        for (int i = 0; i < 12; i++) {
            text.append((char) ('a' + i)).append("=none;");
        }
        return text.toString();
    }

    private static void names() {
        faultAt(4, "x=none;#x=none;");
        faultAt(4, "x=none;y=none;#x;");
        faultAt(4, "ab=none;a=none;abc=none;#ab=none;");
        good("ab=none;a=none;abc=none;ba=none;a1=none;", 5);
        good(dozen(), 12);
        faultAt(6, dozen() + "#x=none;");
        faultAt(6, dozen() + "#x");
        faultAt(4, dozen() + "#c=none;");
        faultAt(1, dozen() + "#reg");
        LocationDesk desk = new LocationDesk();
        Check.compile(desk, "x=none;");
        Check.due("the NAMES of before are not told", Check.compile(desk, "x=none;"), 1);
    }

    private static void openOnes() {
        good("x=value " + "(".repeat(12) + "1" + ")".repeat(12) + ";", 1);
        faultAt(5, "x=value " + "(".repeat(12) + "#(1" + ")".repeat(13) + ";");
        faultAt(5, "x=value " + "(".repeat(12) + "#(");
        faultAt(5, "x=value " + "-".repeat(12) + "#-1;");
        faultAt(5, "x=value " + "~".repeat(12) + "#~1;");
        faultAt(5, "x=value " + "@1".repeat(12) + "#@1 1;");
        faultAt(5, "x=value " + "tls ".repeat(12) + "#tls 1;");
        good("x=value " + "-~@1 tls ".repeat(3) + "1;", 1);
        faultAt(5, "x=value " + "-~@1 tls ".repeat(3) + "#-1;");
        faultAt(5, "x=[" + "(".repeat(11) + "#(1");
        good("x=[" + "(".repeat(11) + "1" + ")".repeat(11) + "];", 1);
        faultAt(5, "x={[" + "(".repeat(10) + "#(1");
        good("x={[" + "(".repeat(10) + "1" + ")".repeat(10) + "]/1};", 1);
        faultAt(5, "x={value " + "(".repeat(11) + "#(1");
        good("x={value " + "(".repeat(11) + "1" + ")".repeat(11) + "/1};", 1);
        faultAt(1, "x=value " + "(".repeat(12) + "#;");
        faultAt(1, "x=value " + "(".repeat(12) + "#[1];");
        good("x=value " + "1?2:".repeat(12) + "3;", 1);
        faultAt(5, "x=value " + "1?2:".repeat(12) + "3#?4:5;");
        good("x=value " + "1?".repeat(12) + "2" + ":3".repeat(12) + ";", 1);
        faultAt(5, "x=value " + "1?".repeat(12) + "2#?3" + ":3".repeat(13) + ";");
        faultAt(5, "x=value " + "1?2:".repeat(11) + "-#-3;");
        good("x=value " + "1?2:".repeat(11) + "-3;", 1);
        good("x=value 1?" + "(".repeat(11) + "1" + ")".repeat(11) + ":" + "(".repeat(11) + "1" + ")".repeat(11) + ";", 1);
        faultAt(5, "x=value 1?" + "(".repeat(11) + "#(1" + ")".repeat(12) + ":1;");
        faultAt(5, "x=value 1?2:" + "(".repeat(11) + "#(1" + ")".repeat(12) + ";");
        good("x=value (1)" + "+(1)".repeat(40) + ";", 1);
        good("x=value -1" + "--1".repeat(40) + ";", 1);
        good("x=value (1?2:3)" + "+(1?2:3)".repeat(20) + ";", 1);
        good("x={" + "[-(1)]/1,".repeat(7) + "[-(1)]/1};y=[" + "(".repeat(11) + "1" + ")".repeat(11) + "];", 2);
        good("x=1..2:[" + "(".repeat(11) + "1" + ")".repeat(11) + "];", 1);
        faultAt(5, "x=value " + "-".repeat(12) + "#(1);");
        good("x=value " + "-".repeat(12) + "1-1;", 1);
        good("x=value (" + "-".repeat(11) + "1?1:1)?1:1;", 1);
    }

    /** What stayed open at a fault is not open in the next text. */
    private static void openAgain() {
        LocationDesk desk = new LocationDesk();
        for (int i = 0; i < 5; i++) {
            Check.due("a fault", Check.compile(desk, "x={[((-~tls 1?;"), -1);
            Check.due("fault 1", desk.told(0), 1);
        }
        Check.due("twelve", Check.compile(desk, "x=[" + "(".repeat(11) + "1" + ")".repeat(11) + "];"), 1);
    }

    /** A sum of so many bytes: 1 + 2 n. */
    private static String sum(int n) {
        return "1" + "+1".repeat(n);
    }

    private static void tooLong() {
        LocationDesk desk = new LocationDesk();
        Check.due("300 bytes", Check.compile(desk, "x=value " + sum(149) + ";"), 1);
        Check.due("size", desk.variable(0, 1), 300);
        Check.due("where", desk.where(0, 0, 1000), 0);
        Check.due("it is a number", desk.part(0, 1), 150);
        faultAt(7, "#x=[" + sum(150) + "];");
        faultAt(7, "y=none; #x=[" + sum(150) + "];");
        faultAt(7, "y=none; #x=1..2:[" + sum(150) + "];");
        faultAt(7, "y=none; #x={[" + sum(148) + "]/1,reg 1/1};");
        good("y=none; x={[" + sum(148) + "]/1,none/0};".replace(",none/0", ""), 2);
        faultAt(7, "#a=[" + sum(150) + "];b=[" + sum(150) + "];");
        faultAt(1, "a=[" + sum(150) + "];b=#;");
        faultAt(2, "a=[" + sum(150) + "];b=reg #32;");
        // two entries: 18 + 18 + 16 and the bytes of both
        Check.due("a list of 600", Check.compile(desk, "x=1..2:[" + sum(149) + "],3..4:[" + sum(124) + "];"), 1);
        Check.due("size", desk.variable(0, 1), 52 + 299 + 249);
        Check.due("its last byte", desk.variable(0, 699), 0);
        Check.due("no 601st byte", desk.variable(0, 700), -1);
        Check.due("the last row", desk.where(0, 3, 1000), 0);
        Check.due("it is an address", desk.part(0, 1), 125);
        faultAt(7, "y=none;#x=1..2:[" + sum(149) + "],3..4:value " + sum(124) + ";");
        // 8 entries of 18 bytes, 16 at the end, and 2 with each row of bytes
        String seven = ("1..2:bytes" + " 1".repeat(53) + ",").repeat(7) + "3..4:bytes" + " 1".repeat(53);
        good("x=" + seven + ";", 1);
        faultAt(7, "#x=" + seven + " 1;");
    }
}
