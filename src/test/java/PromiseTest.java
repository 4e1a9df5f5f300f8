/** Each promise in turn: ordinary inputs, the edges that the document names, and wrong inputs. */
public final class PromiseTest {
    private static final String ILLEGAL_STATE = "throws.IllegalStateException";
    private static final String ILLEGAL_ARGUMENT = "throws.IllegalArgumentException";
    private static final String NO_SUCH = "throws.NoSuchElementException";
    private static final String UNSUPPORTED = "throws.UnsupportedOperationException";

    private static int f(char name) {
        return name - 'a';
    }

    private static String repeated(String part, int times) {
        return part.repeat(times);
    }

    public static void main(String[] args) {
        newObject();
        stackSizes();
        put();
        putFull();
        module();
        moduleTakesThePlace();
        textFaults();
        typeFaults();
        depth();
        drop();
        link();
        unfit();
        about();
        rooms();
        call();
        callOrder();
        evaluation();
        enterings();
        result();
        took();
        latestCall();
        Probe.end();
    }

    private static void newObject() {
        Probe x = new Probe("1 new", 100);
        x.due(0, "fault");
        x.due(-1, "unfit", 0);
        x.due(-1, "unfit", 1);
        x.due(0, "result", 0);
        x.due(0, "result", 1);
        x.due(0, "took", 0);
        x.due(0, "took", 1);
        x.due(ILLEGAL_STATE, "link");
        x.due(ILLEGAL_STATE, "call", 0, 0, 0, 0, 0, 0, 1);
        for (int m = -1; m <= 6; m++) {
            x.due(NO_SUCH, "drop", m);
            x.due(NO_SUCH, "about", m, 0, 0);
        }
        x.due(ILLEGAL_ARGUMENT, "module");
        x.due(1, "fault");
        Probe.compare("NONE", -1, ModuleLinker.NONE);
    }

    /** The least and the most stack: a function with n words and room r fits in n + 2 + r. */
    private static void stackSizes() {
        int[][] sizes = {{Integer.MIN_VALUE, 8}, {-1, 8}, {0, 8}, {7, 8}, {8, 8}, {9, 9}, {10, 10}};
        for (int[] pair : sizes) {
            Probe x = new Probe("1 size " + pair[0], pair[0]);
            x.accepts("A;+a(PP)I=1+(2+3);+b(PP)I=1+(2+(3+4));+c(PP)I=1+(2+(3+(4+5)))");
            x.due(3, "link");
            x.due(0, "call", 0, 0, 0, 0, 0, 0, 1);
            x.due(pair[1] >= 9 ? 0 : 1, "call", 0, 1, 0, 0, 0, 0, 1);
            x.due(pair[1] >= 10 ? 0 : 1, "call", 0, 2, 0, 0, 0, 0, 1);
        }
        int[][] large = {{499, 499}, {500, 500}, {501, 500}, {Integer.MAX_VALUE, 500}};
        for (int[] pair : large) {
            Probe x = new Probe("1 size " + pair[0], pair[0]);
            x.accepts("A;+a()I=a();+b()I=1+a()");
            x.due(2, "link");
            x.due(1, "call", 0, 0, 0, 0, 0, 0, 3000);
            x.due(pair[1] / 2 * 2, "took", 0);
            x.due(pair[1] / 2 + 1, "took", 1);
            x.due(1, "call", 0, 1, 0, 0, 0, 0, 3000);
            x.due((pair[1] - 3) / 2 * 2 + 3, "took", 0);
        }
    }

    private static void put() {
        Probe x = new Probe("2 put", 100);
        x.due(false, "put", 0x41414141, 0);
        x.due(false, "put", 0x41414141, 5);
        x.due(false, "put", 0x41414141, -1);
        x.due(false, "put", 0x41414141, Integer.MIN_VALUE);
        x.due(false, "put", 0x41414141, Integer.MAX_VALUE);
        x.due(false, "put", 0x1f414141, 4);
        x.due(false, "put", 0x41414100, 4);
        x.due(false, "put", 0x7f, 1);
        x.due(false, "put", 31, 1);
        x.due(false, "put", 0x417f41, 3);
        x.due(false, "put", 0xff414141, 4);
        x.due(false, "put", 0x41414180, 2);
        // Only the bytes asked for matter, and they come in order, highest first.
        x.due(true, "put", 0xff00ff00 | 'D', 1);
        x.due(true, "put", 0x80000000 | ';' << 8 | 'z', 2);
        x.due(true, "put", 0x01000000 | '(' << 16 | ')' << 8 | 'I', 3);
        x.due(true, "put", '=' << 24 | '1' << 16 | '+' << 8 | '2', 4);
        x.due(3, "module");
        x.due(0, "about", 3, f('z'), 1);
        x.due(true, "put", 32, 1);
        x.due(true, "put", 126, 1);
        x.due(ILLEGAL_ARGUMENT, "module");
        x.due(1, "fault");
    }

    private static void putFull() {
        Probe x = new Probe("2 put full", 100);
        String longest = "A;a()I=" + repeated("1+", 56) + "1";
        x.text(longest.substring(0, 119));
        x.due(false, "put", 0x2b31, 2);
        x.due(false, "put", 0x31313131, 4);
        x.due(true, "put", '1', 1);
        x.due(false, "put", '1', 1);
        x.due(0, "module");
        x.due(1, "about", 0, 0, 0);
        x.text(repeated("x", 117));
        x.due(false, "put", 0x61616161, 4);
        x.due(true, "put", 0x616161, 3);
        x.due(false, "put", 0x61, 1);
        x.due(ILLEGAL_ARGUMENT, "module");
        x.accepts("B;b()I=1");
    }

    private static void module() {
        Probe x = new Probe("3 module", 100);
        for (char name = 'A'; name <= 'F'; name++) {
            x.accepts(name + ";+a()I=1");
        }
        x.due(6, "link");
        x.due(0, "call", 5, 0, 0, 0, 0, 0, 1);
        // A refused text leaves all as it was, but for the buffer and fault().
        x.refuses(1, "A;+b()I=");
        x.refuses(2, "A;+b()I=$1");
        x.due(0, "call", 0, 0, 0, 0, 0, 0, 1);
        x.due(NO_SUCH, "about", 0, 1, 0);
        x.due(1, "result", 0);
        // An accepted one ends that it is linked.
        x.accepts("F;+a()I=1");
        x.due(ILLEGAL_STATE, "call", 0, 0, 0, 0, 0, 0, 1);
        x.due(1, "result", 0);
        x.due(6, "link");
        // The buffer is empty afterwards: nothing is left before the next text.
        x.refuses(1, "C;");
        x.accepts("C;+a()I=2");
    }

    private static void moduleTakesThePlace() {
        Probe x = new Probe("3 place", 100);
        x.accepts("B;+a()I=1;+b(P)P=$1;?A.c()I");
        x.accepts("A;+c()I=7");
        x.due(3, "link");
        x.accepts("B;+q(I)I=$1*$1");
        x.due(2, "link");
        x.due(NO_SUCH, "about", 1, f('a'), 0);
        x.due(NO_SUCH, "call", 1, f('b'), 0, 0, 0, 0, 1);
        x.due(0, "call", 1, f('q'), 9, 0, 0, 0, 1);
        x.due(81, "result", 0);
        x.accepts("B;+q(I)I=$1+$1");
        x.due(2, "link");
        x.due(0, "call", 1, f('q'), 9, 0, 0, 0, 1);
        x.due(18, "result", 0);
        x.due(0, "call", 0, f('c'), 0, 0, 0, 0, 1);
        x.due(7, "result", 0);
    }

    private static void textFaults() {
        Probe x = new Probe("4 text", 100);
        String[] wrong = {"", "A", "A;", "a;a()I=1", "G;a()I=1", "Aa()I=1", "A;a()I=1;", "A;;a()I=1", ";a()I=1",
            "A;A()I=1", "A;a()=1", "A;a(I=1", "A;a)I=1", "A;a()I1", "A;a()I", "A;a()I=", "A;a(IIII)I=1",
            "A;a(I,I)I=1", "A;a(X)I=1", "A;a()i=1", "A;a()II=1", "A;++a()I=1", "A;-a()I=1", "A;a()I=1 ",
            "A; a()I=1", " A;a()I=1", "A;a()I=1+ 2", "A;?B.a()", "A;?B.a", "A;?b.a()I", "A;?G.a()I", "A;?Ba()I",
            "A;?B.A()I", "A;?.a()I", "A;?B.a()I=1", "A;+?B.a()I", "A;?+B.a()I", "A;?B.a(IIII)I", "A;?B.a()I;",
            "A;a()I=+1", "A;a()I=-1", "A;a()I=1+", "A;a()I=1-", "A;a()I=1*", "A;a()I=*1", "A;a()I=1++1",
            "A;a()I=1/1", "A;a()I=12345", "A;a()I=1 1", "A;a(I)I=$", "A;a(I)I=$0", "A;a(I)I=$4", "A;a(I)I=$11",
            "A;a(I)I=1$1", "A;a()I=()", "A;a()I=(1", "A;a()I=1)", "A;a()I=(1,2)", "A;a()P={1}", "A;a()P={}",
            "A;a()P={1,2,3}", "A;a()P={1,2", "A;a()P={,1}", "A;a()P={1,}", "A;a()I=[1?2]", "A;a()I=[1]",
            "A;a()I=[1?2:3", "A;a()I=[1:2?3]", "A;a()I=[1?2:3:4]", "A;a()I=[?2:3]", "A;a()I=[]", "A;a()I=a",
            "A;a()I=a(", "A;a()I=a(,)", "A;a(I)I=a(1,)", "A;a(I)I=a(,1)", "A;a(I)I=a(1", "A;a(I)I=a{1}",
            "A;a(I)I=B", "A;a(I)I=B.", "A;a(I)I=B.b", "A;a(I)I=Bb(1)", "A;a(I)I=B.B(1)", "A;a(I)I=G.b(1)",
            "A;a(I)I=B.0", "A;a(P)I=$1.2", "A;a(P)I=$1.", "A;a(P)I=$1.0.1", "A;a(P)I=$1.00", "A;a(P)I=$1.01",
            "A;a(P)I=$1.a()", "A;a(P)I=.0", "A;a()I={1,2}.0{1,2}.1", "A;a()I=1;a()I=1", "A;a()I=1;+a(P)P=$1",
            "A;?B.a()I;?B.a()I", "A;?B.a()I;?B.a(I)P", "A;?B.a()I;b()I=1;?B.a()I",
            "A;a()I=1;b()I=1;c()I=1;d()I=1;e()I=1;f()I=1;g()I=1", "A;a()I=(1;b()I=1)", "A;a()I=~"};
        for (String text : wrong) {
            x.refuses(1, text);
            x.due(1, "fault");
        }
        Probe y = new Probe("4 text right", 100);
        String[] right = {"A;a()I=1;b()I=1;c()I=1;d()I=1;e()I=1;f()I=1", "A;?B.a()I", "A;?A.a()I;a()I=A.a()",
            "F;?B.a()I;?C.a()I;?B.b()I;a()I=B.a()+C.a()", "A;a()I=0000", "A;a()I=9999", "A;z(III)P={$3,$2}",
            "A;a()I={1,2}.0+{1,2}.1", "A;a(P)I=($1).1", "A;a(P)I=[1?$1:$1].0*a($1)"};
        for (String text : right) {
            y.accepts(text);
        }
    }

    private static void typeFaults() {
        Probe x = new Probe("4 types", 100);
        String[] wrong = {"A;a()I={1,2}", "A;a()P=1", "A;a(P)I=$1", "A;a(I)P=$1", "A;a()I=$1", "A;a(I)I=$2",
            "A;a(II)I=$3", "A;a(P)I=$1+1", "A;a(P)I=1+$1", "A;a(P)I=$1-1", "A;a(P)I=1-$1", "A;a(P)I=$1*1",
            "A;a(P)I=1*$1", "A;a(P)P={$1,1}", "A;a(P)P={1,$1}", "A;a(I)I=$1.0", "A;a(I)I=$1.1", "A;a()I=12.0",
            "A;a()I=(1).1", "A;a(P)I=[$1?1:2]", "A;a(P)I=[1?$1:2]", "A;a(P)I=[1?1:$1]", "A;a(P)P=[1?$1:2]",
            "A;a(P)I=[1?$1:$1]", "A;a()I=b()", "A;a()I=A.a()", "A;a()I=B.a()", "A;?B.a()I;b()I=a()",
            "A;?B.a()I;b()I=B.b()", "A;?B.a()I;b()I=C.a()", "A;a(I)I=a()", "A;a()I=a(1)", "A;a(I)I=a(1,2)",
            "A;a(III)I=a(1,2)", "A;a(III)I=a(1,2,3,4)", "A;a(P)I=a(1)", "A;a(IP)I=a($2,$1)", "A;a(PI)I=a($1,$1)",
            "A;?B.a(P)I;b(I)I=B.a($1)", "A;?B.a()P;b()I=B.a()", "A;a()I=b();b()P={1,2}", "A;a()P={1,{2,3}.1}.0",
            "A;a(I)I=a(1,1,1,1,1,1,1,1,1,1,1,1,1,1,1,1,1,1,1,1,1,1,1,1,1,1,1,1,1,1,1,1,1,1,1,1,1,1,1,1,1)"};
        for (String text : wrong) {
            x.refuses(2, text);
        }
        // A text that is none stays one, whatever types come before.
        x.refuses(1, "A;a()I={1,2};b()I=");
        x.refuses(1, "A;a()I={1,2};a()I=1");
        x.refuses(1, "A;a()I=b()+$1;");
        x.refuses(1, "A;a(P)I=$1+$1+$4");
        x.accepts("A;a()I=b({1,2});b(P)I=$1.0");
        x.due(0, "fault");
    }

    private static void depth() {
        Probe x = new Probe("4 depth", 100);
        String[][] brackets = {{"(", ")"}, {"{", ",1}.0"}, {"{1,", "}.0"}, {"[", "?1:1]"}, {"[1?", ":1]"},
            {"[1?1:", "]"}, {"a(", ")"}, {"B.a(", ")"}};
        for (String[] pair : brackets) {
            String head = "A;?B.a(I)I;a(I)I=";
            x.accepts(head + repeated(pair[0], 8) + "$1" + repeated(pair[1], 8));
            x.refuses(1, head + repeated(pair[0], 9) + "$1" + repeated(pair[1], 9));
        }
        // Side by side they are not in one another.
        x.accepts("A;a(I)I=((((((((1))))))))+((((((((1))))))))*((((((((1))))))))");
        x.refuses(1, "A;a(I)I=((((((((1+a(1)))))))))");
        x.refuses(1, "A;a(I)I=((((((((1))))))))+(((((((({1,2}.0))))))))");
        x.refuses(1, "A;a(I)I=" + repeated("(", 112));
    }

    private static void drop() {
        Probe x = new Probe("5 drop", 100);
        x.accepts("A;+a()I=1");
        x.accepts("F;+a()I=1");
        x.due(2, "link");
        int[] none = {-1, 1, 6, Integer.MAX_VALUE, Integer.MIN_VALUE};
        for (int m : none) {
            x.due(NO_SUCH, "drop", m);
        }
        x.due(0, "call", 0, 0, 0, 0, 0, 0, 1);
        x.due("void", "drop", 5);
        x.due(NO_SUCH, "drop", 5);
        x.due(NO_SUCH, "about", 5, 0, 0);
        x.due(ILLEGAL_STATE, "call", 0, 0, 0, 0, 0, 0, 1);
        x.due(1, "link");
        x.due("void", "drop", 0);
        x.due(ILLEGAL_STATE, "link");
        x.accepts("F;+b()I=2");
        x.due(NO_SUCH, "about", 5, 0, 0);
        x.due(0, "about", 5, 1, 0);
    }

    private static void link() {
        Probe x = new Probe("6 link", 100);
        x.due(ILLEGAL_STATE, "link");
        x.accepts("A;?B.b(IP)P");
        x.due(UNSUPPORTED, "link");
        x.due(ILLEGAL_STATE, "call", 0, 0, 0, 0, 0, 0, 1);
        String[] unfit = {"B;+c(IP)P=$2", "B;b(IP)P=$2", "B;+b(IP)I=$1", "B;+b(PI)P=$1", "B;+b(P)P=$1",
            "B;+b(IPI)P=$2", "B;?B.b(IP)P", "B;?C.b(IP)P;b(IP)P=C.b($1,$2)"};
        for (String text : unfit) {
            x.accepts(text);
            x.due(UNSUPPORTED, "link");
            x.due(ILLEGAL_STATE, "call", 1, 1, 0, 0, 0, 0, 1);
        }
        x.accepts("B;+b(IP)P=$2;c()I=1");
        x.due(2, "link");
        x.due(2, "link");
        x.due(0, "call", 1, 1, 0, 5, 6, 0, 1);
        x.accepts("C;?C.a()I;+a()I=C.a()");
        x.due(3, "link");
        x.accepts("C;?C.a()I;a()I=C.a()");
        x.due(UNSUPPORTED, "link");
        Probe y = new Probe("6 link round", 100);
        y.accepts("A;?B.b(I)I;+a(I)I=[$1?B.b($1-1):10]");
        y.accepts("B;?A.a(I)I;+b(I)I=[$1?A.a($1-1):20]");
        y.due(2, "link");
        y.due(0, "call", 0, 0, 4, 0, 0, 0, 9);
        y.due(10, "result", 0);
        y.due(0, "call", 0, 0, 5, 0, 0, 0, 9);
        y.due(20, "result", 0);
    }

    private static void unfit() {
        Probe x = new Probe("7 unfit", 100);
        x.accepts("C;a()I=1;?A.a()I;?D.a()I");
        x.due(-1, "unfit", 0);
        x.due(UNSUPPORTED, "link");
        x.due(2, "unfit", 0);
        x.due(1, "unfit", 1);
        x.accepts("A;+a()I=1");
        x.due(2, "unfit", 0);
        x.due(1, "unfit", 1);
        x.due(UNSUPPORTED, "link");
        x.due(2, "unfit", 0);
        x.due(2, "unfit", 1);
        int[] others = {-1, 2, 3, Integer.MIN_VALUE, Integer.MAX_VALUE};
        for (int what : others) {
            x.due(-1, "unfit", what);
        }
        x.accepts("B;b()I=1;c()I=1;d()I=1;e()I=1;f()I=1;?F.f()I");
        x.due(UNSUPPORTED, "link");
        x.due(1, "unfit", 0);
        x.due(5, "unfit", 1);
        for (int m = 0; m < 3; m++) {
            x.due("void", "drop", m);
        }
        x.due(ILLEGAL_STATE, "link");
        x.due(1, "unfit", 0);
        x.due(5, "unfit", 1);
        x.accepts("E;a()I=1");
        x.due(1, "link");
        x.due(-1, "unfit", 0);
        x.due(-1, "unfit", 1);
    }

    private static void about() {
        Probe x = new Probe("8 about", 100);
        x.accepts("B;?A.x()I;+a()I=1;b(I)P={1,1};+c(IP)I=$1;d(PPP)P=$1;z(PII)I=1");
        int[][] definitions = {{f('a'), 0, 1, 0, 1}, {f('b'), 1, 0, 1, 2}, {f('c'), 0, 1, 3, 1},
            {f('d'), 0, 0, 6, 2}, {f('z'), 0, 0, 4, 1}};
        for (int[] definition : definitions) {
            for (int what = 0; what < 4; what++) {
                x.due(definition[what + 1], "about", 1, definition[0], what);
            }
            x.due(NO_SUCH, "about", 1, definition[0], -1);
            x.due(NO_SUCH, "about", 1, definition[0], 4);
            x.due(NO_SUCH, "about", 1, definition[0], Integer.MAX_VALUE);
            x.due(NO_SUCH, "about", 0, definition[0], 0);
        }
        int[] none = {-1, f('e'), f('x'), 26, Integer.MIN_VALUE, Integer.MAX_VALUE};
        for (int name : none) {
            x.due(NO_SUCH, "about", 1, name, 0);
        }
        x.due(NO_SUCH, "about", -1, 0, 0);
        x.due(NO_SUCH, "about", 6, 0, 0);
    }

    private static void rooms() {
        Probe x = new Probe("8 room", 100);
        Object[][] rooms = {{"1", 0}, {"$1", 0}, {"$2.1", 0}, {"(((1)))", 0}, {"1+2", 1}, {"1-2-3-4", 1},
            {"1*2*3", 1}, {"1+2*3", 2}, {"1*2+3", 1}, {"1*2+3*4", 2}, {"1+(2+(3+4))", 3}, {"((1+2)+3)+4", 1},
            {"{1,2}.0", 1}, {"{1+2,3}.0", 1}, {"{1,2+3}.0", 2}, {"{1,{2,{3,4}.0}.0}.0", 3}, {"[1+2?3:4]", 1},
            {"[1?2+3:4]", 1}, {"[1?2:3+4]", 1}, {"[1?2+3*4:5+6]", 2}, {"1+[1?2:3+4]", 2}, {"b()", 0}, {"1+b()", 1},
            {"c(1)", 1}, {"d($2)", 2}, {"1+d($2)", 3}, {"e(1,$2,3)", 4}, {"e(1,{2,3},4)", 4}, {"e(1,$2,3+4)", 4},
            {"e(1,$2,3+4*5)", 5}, {"e(1,{2,3+4*5},6)", 4}, {"e(1,{2,3+4*(5+6)},7)", 5}, {"e(c(1),$2,d($2))", 5},
            {"c(1)+c(2)", 2}, {"c(c(c(1)))", 1}, {"e(1,$2,3)+1+1", 4}};
        for (Object[] row : rooms) {
            x.accepts("A;+a(IP)I=" + row[0] + ";b()I=1;c(I)I=$1;d(P)I=$1.0;e(IPI)I=1+2+(3+4)");
            x.due(row[1], "about", 0, 0, 0);
            x.due(2, "about", 0, f('e'), 0);
        }
    }

    private static void call() {
        Probe x = new Probe("9 call", 100);
        x.accepts("A;+a()I=42;+b(IPI)I=$1-$2.0*$2.1-$3;+c(PII)P={$1.1,$3};d()I=1;+e(PPI)I=1;+f(PPP)I=1");
        x.due(ILLEGAL_STATE, "call", 0, 0, 0, 0, 0, 0, 1);
        x.due(6, "link");
        x.due(0, "call", 0, f('a'), 1, 2, 3, 4, 1);
        x.due(42, "result", 0);
        x.due(0, "call", 0, f('b'), 100, 7, 8, 9, 1);
        x.due(35, "result", 0);
        x.due(8, "took", 0);
        x.due(0, "call", 0, f('c'), 1, 2, 3, 4, 1);
        x.due(2, "result", 0);
        x.due(4, "result", 1);
        x.due(NO_SUCH, "call", 0, f('d'), 1, 2, 3, 4, 1);
        x.due(ILLEGAL_ARGUMENT, "call", 0, f('e'), 1, 2, 3, 4, 1);
        x.due(ILLEGAL_ARGUMENT, "call", 0, f('f'), 1, 2, 3, 4, 0);
        int[] none = {-1, f('g'), 26, Integer.MIN_VALUE, Integer.MAX_VALUE};
        for (int name : none) {
            x.due(NO_SUCH, "call", 0, name, 1, 2, 3, 4, 1);
        }
        int[] noModule = {-1, 1, 6, Integer.MIN_VALUE, Integer.MAX_VALUE};
        for (int m : noModule) {
            x.due(NO_SUCH, "call", m, 0, 1, 2, 3, 4, 1);
        }
        Probe y = new Probe("9 fuel", 100);
        y.accepts("A;+a(I)I=[$1?b()+b()+b()+b()+b()+b()+b()+b()+a($1-1):0];b()I=1");
        y.due(2, "link");
        int[][] fuels = {{-1, 0}, {Integer.MIN_VALUE, 0}, {0, 0}, {1, 1}, {10, 10}, {18, 18}};
        for (int[] fuel : fuels) {
            y.due(2, "call", 0, 0, 2, 0, 0, 0, fuel[0]);
            y.due(fuel[1], "took", 1);
        }
        y.due(0, "call", 0, 0, 2, 0, 0, 0, 19);
        y.due(16, "result", 0);
        Probe z = new Probe("9 most fuel", 500);
        z.accepts("A;+a(I)I=[$1?a($1-1)+a($1-1):1]");
        z.due(1, "link");
        int[][] many = {{2999, 2999}, {3000, 3000}, {3001, 3000}, {Integer.MAX_VALUE, 3000}};
        for (int[] fuel : many) {
            z.due(2, "call", 0, 0, 12, 0, 0, 0, fuel[0]);
            z.due(fuel[1], "took", 1);
        }
        z.due(0, "call", 0, 0, 10, 0, 0, 0, 2047);
        z.due(1024, "result", 0);
    }

    private static void callOrder() {
        Probe x = new Probe("9 order", 100);
        x.accepts("A;+e(PPI)I=1;d(PPI)I=1");
        x.due(ILLEGAL_STATE, "call", 0, f('e'), 0, 0, 0, 0, 1);
        x.due(ILLEGAL_STATE, "call", 9, 99, 0, 0, 0, 0, 1);
        x.due(2, "link");
        x.due(NO_SUCH, "call", 0, f('d'), 0, 0, 0, 0, 1);
        x.due(ILLEGAL_ARGUMENT, "call", 0, f('e'), 0, 0, 0, 0, 1);
    }

    private static void evaluation() {
        Object[][] rows = {{"1-2-3", -4}, {"1-2+3", 2}, {"10-2*3", 4}, {"2*3-10", -4}, {"(10-2)*3", 24},
            {"9999*9999*9999", (int) (9999L * 9999 * 9999)}, {"0-9999*9999*9999*9999", -(int) (99980001L * 99980001L)},
            {"$1*$1", 25}, {"$2.0-$2.1", -1}, {"{3,4}.0*10+{3,4}.1", 34}, {"[0?1:2]", 2}, {"[7?1:2]", 1},
            {"[0-1?1:2]", 1}, {"[1?{1,2}:{3,4}].1", 2}, {"[0?{1,2}:{3,4}].0", 3}, {"b($2,$1)", 675},
            {"c($2).0*10+c($2).1", 76}, {"[0?a($1,$2):3]", 3}, {"[1?3:a($1,$2)]", 3}, {"b(c(c($2)),1+1)", 672},
            {"0012", 12}, {"($2).1", 7}, {"[[1?0:1]?8:9]", 9}, {"{{1,2}.1,c({3,4}).0}.1", 4}};
        for (Object[] row : rows) {
            Probe x = new Probe("9 value of " + row[0], 100);
            x.accepts("A;+a(IP)I=" + row[0] + ";b(PI)I=$1.0*100+$1.1*10+$2;c(P)P={$1.1,$1.0}");
            x.due(3, "link");
            x.due(0, "call", 0, 0, 5, 6, 7, 0, 20);
            x.due(row[1], "result", 0);
        }
        Probe x = new Probe("9 wrap", 100);
        x.accepts("A;+a(II)I=$1+$2;+b(II)I=$1-$2;+c(II)I=$1*$2");
        x.due(3, "link");
        x.due(0, "call", 0, 0, Integer.MAX_VALUE, 1, 0, 0, 1);
        x.due(Integer.MIN_VALUE, "result", 0);
        x.due(0, "call", 0, 1, Integer.MIN_VALUE, 1, 0, 0, 1);
        x.due(Integer.MAX_VALUE, "result", 0);
        x.due(0, "call", 0, 2, 65536, 65537, 0, 0, 1);
        x.due(65536, "result", 0);
    }

    /** The stack is looked at after the fuel, and only when a function is entered. */
    private static void enterings() {
        Probe x = new Probe("9 enterings", 10);
        x.accepts("A;+a(PI)I=1+b();b()I=1;+c(PP)I=1+b();+d(PP)I=[0?1+(2+(3+(4+5))):6]");
        x.due(4, "link");
        x.due(0, "call", 0, f('a'), 0, 0, 0, 0, 2);
        x.due(8, "took", 0);
        x.due(2, "took", 1);
        x.due(0, "call", 0, f('c'), 0, 0, 0, 0, 2);
        x.due(9, "took", 0);
        x.due(2, "call", 0, f('c'), 0, 0, 0, 0, 1);
        x.due(7, "took", 0);
        x.due(1, "took", 1);
        x.due(0, "call", 0, f('d'), 0, 0, 0, 0, 1);
        x.due(10, "took", 0);
        Probe y = new Probe("9 both", 8);
        y.accepts("A;+a(PP)I=1+b();b()I=1;+c(PP)I=1+(2+(3+4))");
        y.due(3, "link");
        y.due(2, "call", 0, f('a'), 0, 0, 0, 0, 1);
        y.due(7, "took", 0);
        y.due(1, "call", 0, f('a'), 0, 0, 0, 0, 2);
        y.due(7, "took", 0);
        y.due(2, "took", 1);
        y.due(2, "call", 0, f('c'), 0, 0, 0, 0, 0);
        y.due(0, "took", 1);
        y.due(1, "call", 0, f('c'), 0, 0, 0, 0, 1);
        y.due(0, "took", 0);
        y.due(1, "took", 1);
    }

    private static void result() {
        Probe x = new Probe("10 result", 20);
        x.accepts("A;+a(P)P=$1;+b(P)I=$1.0*{3,4}.0;+c()I=c()");
        x.due(3, "link");
        x.due(0, "call", 0, 0, 11, 12, 13, 14, 1);
        x.due(11, "result", 0);
        x.due(12, "result", 1);
        int[] others = {-1, 2, Integer.MIN_VALUE, Integer.MAX_VALUE};
        for (int k : others) {
            x.due(0, "result", k);
        }
        x.due(0, "call", 0, 1, 11, 12, 13, 14, 1);
        x.due(33, "result", 0);
        x.due(0, "result", 1);
        x.due(0, "call", 0, 0, 11, 12, 13, 14, 1);
        x.due(1, "call", 0, 2, 11, 12, 13, 14, 99);
        x.due(0, "result", 0);
        x.due(0, "result", 1);
        x.due(0, "call", 0, 0, 11, 12, 13, 14, 1);
        x.due(2, "call", 0, 2, 11, 12, 13, 14, 2);
        x.due(0, "result", 0);
        x.due(0, "result", 1);
    }

    private static void took() {
        Probe x = new Probe("11 took", 30);
        x.accepts("A;+a(I)I=[$1?a($1-1)*$1:b()];b()I=1+(1+(1+1));+c()I=[b()?d():0];d()I=1");
        x.due(4, "link");
        x.due(0, "call", 0, 0, 0, 0, 0, 0, 9);
        x.due(8, "took", 0);
        x.due(2, "took", 1);
        x.due(0, "call", 0, 0, 6, 0, 0, 0, 9);
        x.due(26, "took", 0);
        x.due(8, "took", 1);
        // The most stays when a function that needs less is entered later.
        x.due(0, "call", 0, 2, 0, 0, 0, 0, 9);
        x.due(7, "took", 0);
        x.due(3, "took", 1);
        x.due(1, "call", 0, 0, 60, 0, 0, 0, 99);
        x.due(28, "took", 0);
        x.due(10, "took", 1);
        x.due(2, "call", 0, 0, 60, 0, 0, 0, 3);
        x.due(10, "took", 0);
        x.due(3, "took", 1);
        x.due(2, "call", 0, 0, 60, 0, 0, 0, 0);
        x.due(0, "took", 0);
        x.due(0, "took", 1);
        int[] others = {-1, 2, Integer.MIN_VALUE, Integer.MAX_VALUE};
        for (int what : others) {
            x.due(-1, "took", what);
        }
    }

    /** What a call left stays through all else, calls that throw among them. */
    private static void latestCall() {
        Probe x = new Probe("10 11 latest", 30);
        x.accepts("A;+a()P={5,6};+b(PPP)I=1");
        x.due(2, "link");
        x.due(0, "call", 0, 0, 0, 0, 0, 0, 9);
        x.due(NO_SUCH, "call", 0, 9, 0, 0, 0, 0, 9);
        x.due(ILLEGAL_ARGUMENT, "call", 0, 1, 0, 0, 0, 0, 9);
        x.accepts("A;+a()P={7,8}");
        x.due(ILLEGAL_STATE, "call", 0, 0, 0, 0, 0, 0, 9);
        x.due("void", "drop", 0);
        x.due(ILLEGAL_STATE, "link");
        x.due(5, "result", 0);
        x.due(6, "result", 1);
        x.due(3, "took", 0);
        x.due(1, "took", 1);
    }
}
