/** The sentences before the promises that name a boundary: a test each, whose label quotes the sentence. */
public final class TermsTest {
    private static final int TEXT = 1;
    private static final int TYPES = 2;

    public static void main(String[] args) {
        calls512();
        buffer();
        spaces();
        types();
        signature();
        functionNames();
        moduleNames();
        items();
        imports();
        definition();
        sameDefinitions();
        sameImports();
        sums();
        products();
        numberBehindFactor();
        digits();
        parameters();
        groups();
        pairs();
        choices();
        calls();
        callsOfImports();
        depth();
        typeOfDigits();
        typeOfSums();
        typeOfPairs();
        typeOfNumberOfPair();
        typeOfChoices();
        typeOfCalls();
        whatIsCalledIsThere();
        parameterIsThere();
        typeOfDefinition();
        place();
        importedModuleIsThere();
        importedDefinition();
        leftToRight();
        wrap();
        onlyOneOfChoice();
        heightAtFirst();
        heightOfOperands();
        heightOfArguments();
        heightOfEntering();
        room();
        roomWithoutEntered();
        roomOfChoice();
        stackOver();
        fuelOut();
        Probe.end();
    }

    private static void calls512() {
        String sentence = "What it is: An object is used for at most 512 calls after it has been made";
        Probe x = new Probe(sentence, 500);
        x.links(2, "A;+a(I)I=[$1?a($1-1)+a($1-1):b()];b()I=1");
        for (int left = x.callsLeft(); left > 1; left--) {
            x.calls(2, "A.a", 3000, 20);
        }
        x.due(3000, "took", 1);
        Probe y = new Probe(sentence, 500);
        String longest = "A;+a()I=" + "1+".repeat(55) + "12";
        while (y.callsLeft() > 32 + 3) {
            y.accepts(longest);
        }
        y.due(1, "link");
        y.calls(0, "A.a", 1);
        y.results(67, 0);
    }

    private static void buffer() {
        String sentence = "Terms: THE BUFFER holds at most 120 characters, 32 .. 126";
        Probe x = new Probe(sentence, 100);
        x.due(false, "put", 31, 1);
        x.due(false, "put", 127, 1);
        for (int character = 32; character <= 126; character++) {
            x.due(true, "put", character, 1);
        }
        x.text("x".repeat(25));
        x.due(false, "put", 'x', 1);
        x.due(Probe.ILLEGAL_ARGUMENT, "module");
        // The fullest buffer is a text like another.
        String longest = "F;+a()I=" + "1+".repeat(55) + "12";
        Probe.compare(sentence, 120, longest.length());
        x.accepts(longest);
        x.text(longest);
        x.due(false, "put", '3', 1);
        x.due(5, "module");
        x.due(1, "link");
        x.calls(0, "F.a", 1);
        x.results(67, 0);
    }

    private static void spaces() {
        String sentence = "Terms: there are no spaces in texts";
        String text = "A;?B.b()I;+a(IP)I=[$1?12+{3,4}.0*B.b()-$2.1:a((5),$2)]";
        Probe.acceptsAll(sentence, text);
        for (int i = 0; i <= text.length(); i++) {
            Probe.refusesAll(sentence, TEXT, text.substring(0, i) + " " + text.substring(i));
        }
    }

    private static void types() {
        String sentence = "Terms: TYPES are I (an int: one word) and P (a pair of ints: two words)";
        Probe x = new Probe(sentence, 100);
        x.accepts("A;a(I)I=1;b(P)P=$1");
        x.about(1, "A.a", 2);
        x.about(1, "A.a", 3);
        x.about(2, "A.b", 2);
        x.about(2, "A.b", 3);
        for (char other : "HJOQip10".toCharArray()) {
            Probe.refusesAll(sentence, TEXT, "A;a(" + other + ")I=1", "A;a()" + other + "=1", "A;?B.a(" + other + ")I",
                    "A;?B.a()" + other);
        }
    }

    private static void signature() {
        String sentence = "Terms: A SIGNATURE is ( , 0 to 3 types, ) and a type, that of the result.";
        String[] right = {"()I", "(I)I", "(PI)I", "(III)I", "(PPP)I"};
        for (String one : right) {
            Probe.acceptsAll(sentence, "A;a" + one + "=1", "A;?B.a" + one);
        }
        String[] wrong = {"(IIII)I", "(PPPP)I", "(III", "(IIII", "(I", "(", "", "()", "(I)", "()II", "I", "I)I", "(II",
            "(I,I)I", "(,)I", "(())I", "[]I", "()I()I"};
        for (String one : wrong) {
            Probe.refusesAll(sentence, TEXT, "A;a" + one + "=1", "A;?B.a" + one);
        }
    }

    private static void functionNames() {
        String sentence = "Terms: NAMES of functions are a .. z";
        Probe.acceptsAll(sentence, "A;a()I=1", "A;z()I=1", "A;?B.a()I", "A;?B.z()I", "A;z()I=z()",
                "A;?B.z()I;a()I=B.z()+a()");
        Probe x = new Probe(sentence, 100);
        x.links(5, "A;+a()I=z()*10+F.z();z()I=1;?F.z()I;?F.a()I;+b()I=F.a()", "F;+z()I=2;+a()I=z()*10+4");
        x.calls(0, "A.a", 3);
        x.results(12, 0);
        x.calls(0, "A.b", 3);
        x.results(24, 0);
        for (char other : "`{AZ1_".toCharArray()) {
            Probe.refusesAll(sentence, TEXT, "A;" + other + "()I=1", "A;+" + other + "()I=1", "A;?B." + other + "()I",
                    "A;a()I=A." + other + "()");
        }
        Probe.refusesAll(sentence, TEXT, "A;ab()I=1", "A;?B.ab()I", "A;a()I=ab()", "A;a()I=`()", "A;()I=1", "A;?B.()I");
    }

    private static void moduleNames() {
        String sentence = "Terms: of modules A .. F";
        for (char name = 'A'; name <= 'F'; name++) {
            Probe.acceptsAll(sentence, name + ";a()I=1", "A;?" + name + ".a()I;b()I=" + name + ".a()");
        }
        for (char other : "@GZaf1".toCharArray()) {
            Probe.refusesAll(sentence, TEXT, other + ";a()I=1", "A;?" + other + ".a()I", "A;a()I=" + other + ".a()");
        }
        Probe.refusesAll(sentence, TEXT, "AB;a()I=1", "A;?AB.a()I", "A;a()I=AB.a()", ";a()I=1", "A;?.a()I");
    }

    private static void items() {
        String sentence = "Terms: A MODULE is its name and 1 to 6 ITEMS, each with ; before it.";
        String six = "A;a()I=1;b()I=1;c()I=1;d()I=1;e()I=1;f()I=1";
        String sixImports = "A;?B.a()I;?B.b()I;?B.c()I;?B.d()I;?B.e()I;?B.f()I";
        Probe.acceptsAll(sentence, "A;a()I=1", "A;?B.a()I", six, sixImports,
                "A;?B.a()I;?B.b()I;?B.c()I;d()I=1;a()I=1;?C.a()I");
        Probe.refusesAll(sentence, TEXT, "", "A", "A;", ";", six + ";g()I=1", six + ";?B.a()I", sixImports
                + ";?B.g()I", sixImports + ";a()I=1", six + ";", "A;a()I=1;", "A;?B.a()I;", "A;;a()I=1",
                "A;a()I=1;;b()I=1", "Aa()I=1", "A?B.a()I", "A;a()I=1b()I=1", "A;a()I=1,b()I=1", "A;?B.a()I?B.b()I",
                "A;a()I=1A;b()I=1", "a()I=1");
        Probe x = new Probe(sentence, 100);
        x.links(6, six);
        x.about(0, "A.f", 0);
    }

    private static void imports() {
        String sentence = "Terms: An IMPORT: ? , a module's name, . , a function's name, a signature.";
        Probe.acceptsAll(sentence, "A;?B.b()I", "A;?A.b()I", "A;?A.b(PIP)P;b(PIP)P=$1");
        Probe.refusesAll(sentence, TEXT, "A;B.b()I", "A;?.b()I", "A;?Bb()I", "A;?B.()I", "A;?B.b", "A;?B.b()", "A;?B.",
                "A;?B", "A;?", "A;??B.b()I", "A;+?B.b()I", "A;?+B.b()I", "A;?B.+b()I", "A;?B..b()I", "A;?B.b()I=1",
                "A;?b.B()I", "A;?b()I");
    }

    private static void definition() {
        String sentence = "Terms: A DEFINITION: perhaps + (it is EXPORTED), a name, a signature, = , an EXPRESSION.";
        Probe x = new Probe(sentence, 100);
        x.accepts("A;+a()I=1;b()I=1");
        x.about(1, "A.a", 1);
        x.about(0, "A.b", 1);
        Probe.refusesAll(sentence, TEXT, "A;++a()I=1", "A;-a()I=1", "A;a+()I=1", "A;+()I=1", "A;a=1", "A;a()I1",
                "A;a()I==1", "A;a()I=", "A;+a()I=", "A;a()I", "A;a", "A;+", "A;a()I=;b()I=1", "A;a()I=1=1");
    }

    private static void sameDefinitions() {
        String sentence = "Terms: There are no two definitions of the same name";
        Probe.refusesAll(sentence, TEXT, "A;a()I=1;a()I=1", "A;a()I=1;+a()I=1", "A;a()I=1;a(P)P=$1",
                "A;z()I=1;b()I=1;z()I=1", "A;a()I=1;b()I=1;c()I=1;d()I=1;e()I=1;a()I=1", "A;a()I=1;?B.b()I;a()I=1");
        Probe.acceptsAll(sentence, "A;a()I=1;b()I=1", "A;?A.a()I;?B.a()I;a()I=1");
    }

    private static void sameImports() {
        String sentence = "Terms: no two imports of the same name from the same module";
        Probe.refusesAll(sentence, TEXT, "A;?B.a()I;?B.a()I", "A;?B.a()I;?B.a(P)I", "A;?B.a()I;?C.a()I;?B.a()I",
                "A;?A.a()I;?A.a()I", "A;?B.a()I;b()I=1;?B.a()I");
        Probe.acceptsAll(sentence, "A;?B.a()I;?C.a()I;?B.b()I;?A.a()I;a()I=1");
    }

    private static void sums() {
        String sentence = "Terms: EXPRESSIONS: products with + or - between them";
        Probe.acceptsAll(sentence, "A;a()I=1", "A;a()I=1+2", "A;a()I=1-2", "A;a()I=1*2-3*4+5");
        Probe.refusesAll(sentence, TEXT, "A;a()I=+", "A;a()I=+1", "A;a()I=-1", "A;a()I=1+", "A;a()I=1-",
                "A;a()I=1+-1", "A;a()I=1++1", "A;a()I=1/1", "A;a()I=1%1", "A;a()I=(1)(1)", "A;a()I=(-1)",
                "A;a()I=(1+)", "A;a(I)I=$1$1");
        gives(sentence, "9-3-2", 4);
        gives(sentence, "9-3+2", 8);
        gives(sentence, "9-(3-2)", 8);
    }

    private static void products() {
        String sentence = "Terms: a PRODUCT: factors with * between them";
        Probe.refusesAll(sentence, TEXT, "A;a()I=*", "A;a()I=*1", "A;a()I=1*", "A;a()I=1**1", "A;a()I=1*+1",
                "A;a()I=1+*1");
        gives(sentence, "2*3*4", 24);
        gives(sentence, "2+3*4", 14);
        gives(sentence, "2*3+4", 10);
        gives(sentence, "2*(3+4)", 14);
        gives(sentence, "20-2*3*2-1", 7);
    }

    private static void numberBehindFactor() {
        String sentence = "Terms: a FACTOR, perhaps with .0 or .1 behind it";
        Probe.acceptsAll(sentence, "A;a(P)I=$1.0", "A;a(P)I=$1.1", "A;a(P)I=($1).1", "A;a()I={1,2}.0*{1,2}.1",
                "A;a(P)I=[1?$1:$1].0", "A;a()P={b().0,b().1};b()P={1,2}", "A;?B.b()P;a()I=B.b().1");
        Probe.refusesAll(sentence, TEXT, "A;a(P)I=$1.2", "A;a(P)I=$1.9", "A;a(P)I=$1./", "A;a(P)I=$1.",
                "A;a(P)I=$1.0.0", "A;a(P)I=$1.0.1", "A;a(P)I=$1.00", "A;a(P)I=$1.01", "A;a(P)I=$1..0", "A;a(P)I=.0",
                "A;a(P)I=$1.a", "A;a(P)I=$1.$1", "A;a(P)I=$.01");
    }

    private static void digits() {
        String sentence = "Terms: 1 to 4 digits";
        gives(sentence, "0", 0);
        gives(sentence, "9", 9);
        gives(sentence, "0000", 0);
        gives(sentence, "0012", 12);
        gives(sentence, "1234", 1234);
        gives(sentence, "9999", 9999);
        Probe.refusesAll(sentence, TEXT, "A;a()I=12345", "A;a()I=00000", "A;a()I=1+00001", "A;a()I=(99999)", "A;a()I=/",
                "A;a()I=:", "A;a()I=1234567890");
    }

    private static void parameters() {
        String sentence = "Terms: $ and a digit 1 .. 3 (that parameter)";
        Probe x = new Probe(sentence, 100);
        x.links(3, "A;+a(III)I=$1;+b(III)I=$2;+c(III)I=$3");
        for (int k = 0; k < 3; k++) {
            x.due(0, "call", 0, k, 11, 12, 13, 0, 1);
            x.results(11 + k, 0);
        }
        Probe y = new Probe(sentence, 100);
        y.links(3, "A;+a(IPI)I=$1;+b(IPI)P=$2;+c(IPI)I=$3");
        y.calls(0, "A.a", 1, 11, 12, 13, 14);
        y.results(11, 0);
        y.calls(0, "A.b", 1, 11, 12, 13, 14);
        y.results(12, 13);
        y.calls(0, "A.c", 1, 11, 12, 13, 14);
        y.results(14, 0);
        Probe.refusesAll(sentence, TEXT, "A;a(III)I=$", "A;a(III)I=$0", "A;a(III)I=$4", "A;a(III)I=$9", "A;a(III)I=$11",
                "A;a(III)I=$a", "A;a(III)I=$$1", "A;a(III)I=$(1)", "A;a(III)I=1$1");
    }

    private static void groups() {
        String sentence = "Terms: ( E )";
        gives(sentence, "(1)", 1);
        gives(sentence, "((1+2))*3", 9);
        Probe.refusesAll(sentence, TEXT, "A;a()I=()", "A;a()I=(1", "A;a()I=1)", "A;a()I=(1,2)", "A;a()I=(1]",
                "A;a()I=)1(", "A;a()I=(1;b()I=1)");
    }

    private static void pairs() {
        String sentence = "Terms: { E , E } (a pair)";
        gives(sentence, "{3,4}.0", 3);
        gives(sentence, "{3,4}.1", 4);
        gives(sentence, "{1+2,{3,4}.1*5}.1", 20);
        Probe.refusesAll(sentence, TEXT, "A;a()P={}", "A;a()P={1}", "A;a()P={1,}", "A;a()P={,1}", "A;a()P={,}",
                "A;a()P={1,2,3}", "A;a()P={1,2", "A;a()P=1,2}", "A;a()P={1,2)", "A;a()P={1;2}");
    }

    private static void choices() {
        String sentence = "Terms: [ E ? E : E ] (the second one, if the first is not 0, else the third)";
        Probe x = new Probe(sentence, 100);
        x.links(2, "A;+a(I)I=[$1?2:3];+b(I)P=[$1?{2,3}:{4,5}]");
        int[] notZero = {1, -1, 2, 256, 65536, Integer.MIN_VALUE, Integer.MAX_VALUE};
        for (int first : notZero) {
            x.calls(0, "A.a", 1, first);
            x.results(2, 0);
            x.calls(0, "A.b", 1, first);
            x.results(2, 3);
        }
        x.calls(0, "A.a", 1, 0);
        x.results(3, 0);
        x.calls(0, "A.b", 1, 0);
        x.results(4, 5);
        gives(sentence, "[1-1?8:9]", 9);
        gives(sentence, "[[1?0:1]?8:[0?6:7]]+1", 8);
        Probe.refusesAll(sentence, TEXT, "A;a()I=[]", "A;a()I=[1]", "A;a()I=[1?2]", "A;a()I=[1?2:]", "A;a()I=[1?:3]",
                "A;a()I=[?2:3]", "A;a()I=[1:2?3]", "A;a()I=[1?2:3", "A;a()I=[1?2:3:4]", "A;a()I=[1?2?3]",
                "A;a()I=1?2:3", "A;a()I=[1?2:3)");
    }

    private static void calls() {
        String sentence = "Terms: (a CALL of a definition of this module, wherever it stands)";
        Probe x = new Probe(sentence, 100);
        x.links(3, "A;c()I=3;+a(I)I=[$1?b($1)+c()+a($1-1):0];b(I)I=$1*100");
        x.calls(0, "A.a", 20, 2);
        x.results(306, 0);
        Probe.refusesAll(sentence, TEXT, "A;a()I=a", "A;a()I=a(", "A;a()I=a)", "A;a()I=a(,)", "A;a(I)I=a(1,)",
                "A;a(I)I=a(,1)", "A;a(I)I=a(1", "A;a(II)I=a(1;2)", "A;a(I)I=a{1}", "A;a(I)I=a[1]", "A;a(I)I=a1",
                "A;a(II)I=a(1,,2)", "A;a()I=a()()");
    }

    private static void callsOfImports() {
        String sentence = "Terms: or a module's name, . , and such a call (of an import)";
        Probe x = new Probe(sentence, 100);
        // A definition and an import may bear one name: the module's name tells them apart.
        x.links(4, "A;+a()I=B.b()*100+C.b()*10+b();?B.b()I;?C.b()I;b()I=1", "B;+b()I=2", "C;+b()I=3");
        x.calls(0, "A.a", 4);
        x.results(231, 0);
        String head = "A;?B.b(I)I;a()I=";
        Probe.refusesAll(sentence, TEXT, head + "B", head + "B.", head + "B.b", head + "B.b(", head + "B.b(1", head
                + "Bb(1)", head + "B.(1)", head + "B.B.b(1)", head + "B..b(1)", head + "B(1)", head + "B.b(1,)", head
                + "B.0", head + "?B.b(1)", head + "(B).b(1)");
    }

    private static void depth() {
        String sentence = "Terms: Factors with brackets of any kind, calls among them, lie at most 8 deep in one "
                + "another.";
        String[][] brackets = {{"(", ")"}, {"{", ",1}.0"}, {"{1,", "}.0"}, {"[", "?1:1]"}, {"[1?", ":1]"},
            {"[1?1:", "]"}, {"a(", ")"}, {"B.a(", ")"}};
        String head = "A;?B.a(I)I;a(I)I=";
        for (String[] pair : brackets) {
            Probe.acceptsAll(sentence, head + pair[0].repeat(8) + "$1" + pair[1].repeat(8));
            Probe.refusesAll(sentence, TEXT, head + pair[0].repeat(9) + "$1" + pair[1].repeat(9));
            // The kinds count together: one of each other kind round eight of this one, or within.
            Probe.refusesAll(sentence, TEXT, head + "(" + pair[0].repeat(8) + "$1" + pair[1].repeat(8) + ")", head
                    + pair[0].repeat(8) + "a(1)" + pair[1].repeat(8), head + pair[0].repeat(8) + "{1,2}.0"
                    + pair[1].repeat(8));
        }
        Probe.acceptsAll(sentence, "A;?B.a(I)I;a(I)I=({[a(B.a(({[1?1:1],1}.0)))?1:1],1}.0)");
        Probe.refusesAll(sentence, TEXT, "A;?B.a(I)I;a(I)I=({[a(B.a(({[(1)?1:1],1}.0)))?1:1],1}.0)");
        // Side by side they are not in one another, and a call of no arguments has brackets, too.
        String eight = "((((((((1))))))))";
        Probe.acceptsAll(sentence, "A;a()I=" + eight + "+" + eight + "*" + eight, "A;a()I=(((((((a())))))))",
                "A;b(II)I=b(" + eight.substring(1, 16) + "," + eight.substring(1, 16) + ")");
        Probe.refusesAll(sentence, TEXT, "A;a()I=((((((((a()))))))))", "A;a()I=" + eight + "+(" + eight + ")",
                "A;b(II)I=b(1," + eight + ")", "A;a()I=" + "(".repeat(113), "A;a()I=" + "a(".repeat(56));
        // So deep it is worked out, too.
        gives(sentence, "1+(2+(3+(4+(5+(6+(7+(8+(9))))))))", 45);
    }

    private static void typeOfDigits() {
        String sentence = "Terms, TYPES: digits are I";
        Probe.acceptsAll(sentence, "A;a()I=1");
        Probe.refusesAll(sentence, TYPES, "A;a()P=1", "A;a()I=1.0", "A;a()I=1234.1", "A;a()P=0");
    }

    private static void typeOfSums() {
        String sentence = "Terms, TYPES: + - * are of two I and give I";
        for (char operator : "+-*".toCharArray()) {
            Probe.acceptsAll(sentence, "A;a(IP)I=$1" + operator + "$2.0");
            Probe.refusesAll(sentence, TYPES, "A;a(IP)I=$1" + operator + "$2", "A;a(IP)I=$2" + operator + "$1",
                    "A;a(P)P=$1" + operator + "$1", "A;a(IP)P=$1" + operator + "$2", "A;a(I)P=$1" + operator + "$1",
                    "A;a(P)I=1" + operator + "1" + operator + "$1", "A;a(I)I=($1" + operator + "$1).0", "A;a(P)I=$1"
                    + operator + "$1");
        }
    }

    private static void typeOfPairs() {
        String sentence = "Terms, TYPES: a pair is of two I";
        Probe.acceptsAll(sentence, "A;a(I)P={$1,$1}");
        Probe.refusesAll(sentence, TYPES, "A;a(P)P={$1,1}", "A;a(P)P={1,$1}", "A;a(P)P={$1,$1}", "A;a()P={{1,2},3}",
                "A;a()P={1,{2,3}}", "A;a()I={1,2}");
    }

    private static void typeOfNumberOfPair() {
        String sentence = "Terms, TYPES: .0 and .1 are of a P and give I, its first and second number";
        Probe x = new Probe(sentence, 100);
        x.links(2, "A;+a(P)I=$1.0;+b(P)I=$1.1");
        x.calls(0, "A.a", 1, 11, 12);
        x.results(11, 0);
        x.calls(0, "A.b", 1, 11, 12);
        x.results(12, 0);
        Probe.refusesAll(sentence, TYPES, "A;a(I)I=$1.0", "A;a(I)I=$1.1", "A;a()I=(1).0", "A;a()I=[1?1:1].1",
                "A;a()I=a().0", "A;a(P)P=$1.0", "A;a(P)P=$1.1", "A;a(P)I=($1.0).0");
    }

    private static void typeOfChoices() {
        String sentence = "Terms, TYPES: in [ the first is I, the others are of one type, which it has";
        Probe.acceptsAll(sentence, "A;a(IP)I=[$1?$1:$1]", "A;a(IP)P=[$1?$2:$2]");
        Probe.refusesAll(sentence, TYPES, "A;a(IP)I=[$2?$1:$1]", "A;a(IP)I=[$1?$1:$2]", "A;a(IP)I=[$1?$2:$1]",
                "A;a(IP)P=[$1?$1:$2]", "A;a(IP)P=[$1?$2:$1]", "A;a(IP)I=[$1?$2:$2]", "A;a(IP)P=[$1?$1:$1]",
                "A;a(IP)P=[$2?$2:$2]");
    }

    private static void typeOfCalls() {
        String sentence = "Terms, TYPES: a call has as many expressions as there are parameters, of their types, "
                + "and gives the result's type";
        String[][] rows = {{"()I", "", "1", "$2"}, {"(I)I", "1", "", "1,2", "$2"}, {"(P)I", "$2", "", "1", "$2,$2"},
            {"(IP)I", "1,$2", "1", "$2", "$2,1", "1,1", "$2,$2", "1,$2,1", ""},
            {"(IPI)I", "1,$2,1", "1,$2", "1,$2,$2", "1,$2,1,1", "$2,$2,1", "1,1,1", "1,$2,1,$2"}};
        for (String[] row : rows) {
            for (String called : new String[] {"b", "B.b"}) {
                String head = "A;" + (called.equals("b") ? "b" + row[0] + "=1" : "?B.b" + row[0]) + ";a(IP)I=";
                Probe.acceptsAll(sentence, head + called + "(" + row[1] + ")");
                for (int i = 2; i < row.length; i++) {
                    Probe.refusesAll(sentence, TYPES, head + called + "(" + row[i] + ")");
                }
            }
        }
        Probe.acceptsAll(sentence, "A;b()P={1,2};a()P=b()", "A;?B.b()P;a()P=B.b()");
        Probe.refusesAll(sentence, TYPES, "A;b()P={1,2};a()I=b()", "A;?B.b()P;a()I=B.b()", "A;b()I=1;a()P=b()",
                "A;?B.b()I;a()P=B.b()", "A;a(I)I=a(1" + ",1".repeat(54) + ")");
    }

    private static void whatIsCalledIsThere() {
        String sentence = "Terms, TYPES: what is called, and the parameter that $ tells, is there";
        Probe.acceptsAll(sentence, "A;?B.b()I;a()I=B.b()", "A;?A.a()I;a()I=A.a()");
        Probe.refusesAll(sentence, TYPES, "A;a()I=b()", "A;a()I=z()", "A;a()I=A.a()", "A;a()I=B.a()",
                "A;?B.b()I;a()I=b()", "A;?B.b()I;a()I=B.a()", "A;?B.b()I;a()I=C.b()", "A;?B.b()I;a()I=A.b()",
                "A;a()I=b(1)", "A;a()I=[1?1:b()]", "A;a()I=0*b()", "A;a()P=b()");
        // A module that is there does not matter: a module is checked by itself.
        Probe x = new Probe(sentence, 100);
        x.accepts("B;+b()I=1");
        x.refuses(TYPES, "A;a()I=B.b()");
        x.accepts("A;?C.b(P)P;a(P)P=C.b($1)");
    }

    private static void parameterIsThere() {
        String sentence = "Terms, TYPES: the parameter that $ tells, is there, and a parameter has its type";
        Probe.acceptsAll(sentence, "A;a(I)I=$1", "A;a(PI)I=$2", "A;a(PPI)I=$3", "A;a(PIP)P=$3");
        Probe.refusesAll(sentence, TYPES, "A;a()I=$1", "A;a()P=$1", "A;a(I)I=$2", "A;a(II)I=$3", "A;a()I=$3",
                "A;a(P)I=$1", "A;a(I)P=$1", "A;a(PI)I=$1", "A;a(IP)I=$2", "A;a(IPP)I=$3", "A;a()I=$1.0",
                "A;a(II)I=$1;b(I)I=$2", "A;a()I=a($1)", "A;a(I)I=a(1,$2)", "A;a()I=[1?$1:$1]");
    }

    private static void typeOfDefinition() {
        String sentence = "Terms, TYPES: A definition's expression has its result's type.";
        Probe.acceptsAll(sentence, "A;a()I=1;b()P={1,2}");
        Probe.refusesAll(sentence, TYPES, "A;a()I={1,2}", "A;a()P=1", "A;a()I=1;b()I=1;c()I=1;d()I=1;e()I=1;f()P=1",
                "A;a()P=1;b()I=1");
    }

    private static void place() {
        String sentence = "Terms: It takes the place of an earlier one of its name.";
        Probe x = new Probe(sentence, 100);
        x.links(3, "A;+a()I=1;b()I=2", "B;+a()I=9");
        x.links(2, "A;+c(P)P={$1.1,$1.0}");
        x.about(Probe.NO_SUCH, "A.a", 0);
        x.about(Probe.NO_SUCH, "A.b", 0);
        x.about(1, "A.c", 0);
        x.calls(Probe.NO_SUCH, "A.a", 9);
        x.calls(0, "A.c", 9, 3, 4);
        x.results(4, 3);
        x.calls(0, "B.a", 9);
        x.results(9, 0);
        // The same text again changes nothing but that it is not linked.
        x.links(2, "A;+c(P)P={$1.1,$1.0}");
        x.calls(0, "A.c", 9, 5, 6);
        x.results(6, 5);
    }

    private static void importedModuleIsThere() {
        String sentence = "Terms: each import of each module that is there must be of a module that is there, too";
        Probe x = new Probe(sentence, 100);
        x.accepts("A;?F.a()I;+b()I=1");
        x.due(Probe.UNSUPPORTED, "link");
        x.links(2, "F;+a()I=1");
        x.due("void", "drop", 5);
        x.due(Probe.UNSUPPORTED, "link");
        x.accepts("F;?E.a()I;+a()I=1");
        x.due(Probe.UNSUPPORTED, "link");
        // Of modules that are gone no import has to fit.
        x.links(3, "E;+a()I=1");
        x.due("void", "drop", 0);
        x.due("void", "drop", 4);
        x.due(Probe.UNSUPPORTED, "link");
        x.due("void", "drop", 5);
        x.links(1, "A;+b()I=1");
        // An import of the module itself is of one that is there.
        x.links(1, "A;?A.b(I)I;+b(I)I=[$1?A.b($1-1):7]");
        x.calls(0, "A.b", 4, 3);
        x.results(7, 0);
    }

    private static void importedDefinition() {
        String sentence = "Terms: and exports a definition of that name with the same signature";
        String[] unfit = {"B;b(IP)P=$2", "B;+c(IP)P=$2", "B;+b(IP)I=$1", "B;+b(PI)P=$1", "B;+b(P)P=$1", "B;+b(IPI)P=$2",
            "B;+b()P={1,2}", "B;+b(II)P={1,2}", "B;+b(PP)P=$2", "B;?C.b(IP)P"};
        for (String text : unfit) {
            Probe x = new Probe(sentence, 100);
            x.accepts("C;+b(IP)P=$2");
            x.accepts("A;?B.b(IP)P;+a()I=1");
            x.accepts(text);
            x.due(Probe.UNSUPPORTED, "link");
            x.unfit(0, 0);
            x.links(3, "B;+b(IP)P=$2");
            x.unfit(-1, -1);
        }
        Probe x = new Probe(sentence, 100);
        x.accepts("A;?A.a()I;a()I=A.a()");
        x.due(Probe.UNSUPPORTED, "link");
    }

    /** The first operand runs out of fuel, the second one out of stack: which one is first tells. */
    private static void leftToRight() {
        String sentence = "Terms: A CALL works the definition's expression out: operands from left to right";
        String[] left = {"b()+c()", "b()-c()", "b()*c()", "{b(),c()}.0", "[b()?c():c()]", "e(b(),c())"};
        String[] right = {"c()+b()", "c()-b()", "c()*b()", "{c(),b()}.0", "[c()?b():b()]", "e(c(),b())"};
        String others = ";b()I=d();c()I=1+(2+(3+(4+(5+6))));d()I=1;e(II)I=1";
        for (int i = 0; i < left.length; i++) {
            Probe x = new Probe(sentence, 8);
            x.links(5, "A;+a()I=" + left[i] + others);
            x.calls(2, "A.a", 2);
            Probe y = new Probe(sentence, 8);
            y.links(5, "A;+a()I=" + right[i] + others);
            y.calls(1, "A.a", 2);
        }
    }

    private static void wrap() {
        String sentence = "Terms: sums and products wrap";
        int least = Integer.MIN_VALUE;
        int most = Integer.MAX_VALUE;
        Probe x = new Probe(sentence, 100);
        x.links(3, "A;+a(II)I=$1+$2;+b(II)I=$1-$2;+c(II)I=$1*$2");
        int[][] rows = {{most, 1, least, most - 1, most}, {least, 1, least + 1, most, least}, {least, least, 0, 0, 0},
            {most, most, -2, 0, 1}, {least, -1, most, least + 1, least}, {0, least, least, least, 0},
            {65536, 65536, 131072, 0, 0}, {65536, 32768, 98304, 32768, least}, {46341, 46341, 92682, 0, -2147479015}};
        for (int[] row : rows) {
            for (int k = 0; k < 3; k++) {
                x.due(0, "call", 0, k, row[0], row[1], 0, 0, 1);
                x.results(row[2 + k], 0);
            }
        }
        gives(sentence, "9999*9999*9999", (int) (9999L * 9999 * 9999));
    }

    private static void onlyOneOfChoice() {
        String sentence = "Terms: only one of the last two in [ is worked out";
        Probe x = new Probe(sentence, 100);
        x.links(3, "A;+a(I)I=[$1?b():c()+c()];b()I=1;c()I=2");
        x.calls(0, "A.a", 2, 1);
        x.took(3 + 2, 2);
        x.calls(0, "A.a", 3, 0);
        x.results(4, 0);
        x.due(3, "took", 1);
        // The other one would never end.
        Probe y = new Probe(sentence, 8);
        y.links(2, "A;+a(I)I=[$1?3:a($1)];+b(I)I=[$1?b($1):4]");
        y.calls(0, "A.a", 1, 1);
        y.results(3, 0);
        y.calls(0, "A.b", 1, 0);
        y.results(4, 0);
    }

    private static void heightAtFirst() {
        String sentence = "Terms: The HEIGHT of the stack, 0 at first";
        Probe x = new Probe(sentence, 100);
        x.links(1, "A;+a()I=1");
        x.calls(0, "A.a", 1);
        x.took(2, 1);
        // It is so again for each call, after one that ended as STACK or FUEL, too.
        x.links(2, "A;+a()I=1;+b()I=1+b()");
        x.calls(1, "A.b", 3000);
        x.calls(0, "A.a", 1);
        x.took(2, 1);
        x.calls(2, "A.b", 5);
        x.calls(0, "A.a", 1);
        x.took(2, 1);
    }

    /** Function b has room 5, so that the most is reached in it: two words for each of a and b, and b's room. */
    private static void heightOfOperands() {
        String sentence = "Terms: in E + E, E - E, E * E and { E , E } one word is put on it when the first is "
                + "worked out, " + "and taken when the second is";
        Object[][] rows = {{"b()", 0}, {"1+b()", 1}, {"1-b()", 1}, {"1*b()", 1}, {"{1,b()}.0", 1}, {"b()+1", 0},
            {"b()-1", 0}, {"b()*1", 0}, {"{b(),1}.0", 0}, {"1+2+b()", 1}, {"1*2*b()", 1}, {"1+2*b()", 2}, {"1*2+b()",
            1}, {"1*b()+2", 1}, {"(1+2)*b()", 1}, {"1+(2-b())", 2}, {"{1+2,b()}.0", 1}, {"{1,2+b()}.0", 2},
            {"{1,{2,b()}.0}.0", 2}, {"[1+2?b():0]", 0}, {"[1?b():0]+1", 0}, {"1+[2?b():0]", 1}, {"{1,2}.0+b()", 1},
            {"($1+$2.0)*$2.1-b()", 1}};
        for (Object[] row : rows) {
            tops(sentence, (String) row[0], (Integer) row[1]);
        }
    }

    private static void heightOfArguments() {
        String sentence = "Terms: In a call each argument is worked out in turn, and its words are put on it.";
        Object[][] rows = {{"c(b())", 0}, {"e(b(),$2,1)", 0}, {"e(1,d(b()),1)", 1}, {"e(1,$2,b())", 3},
            {"1+e(1,$2,b())", 4}, {"e(1,$2,b()+1)", 3}, {"e(1,$2,1+b())", 4}, {"e(e(1,$2,b()),$2,1)", 3},
            {"e(1,$2,e(1,$2,b()))", 6}, {"c(c(c(b())))", 0}};
        for (Object[] row : rows) {
            tops(sentence, (String) row[0], (Integer) row[1]);
        }
    }

    private static void heightOfEntering() {
        String sentence = "Terms: two words more are put; when its result is there, these and the arguments' words "
                + "are taken";
        Object[][] rows = {{"c(1)+b()", 1}, {"e(1,$2,1)+b()", 1}, {"[e(1,$2,1)?b():0]", 0}, {"e(c(1),d(1),b())", 3},
            {"{e(1,$2,1),b()}.0", 1}, {"c(1)*c(2)+b()", 1}};
        for (Object[] row : rows) {
            tops(sentence, (String) row[0], (Integer) row[1]);
        }
        // Each entering within an entering puts its two words and its arguments' words.
        Probe x = new Probe(sentence, 500);
        x.links(2, "A;+a(I)I=[$1?a($1-1):0];+b(IP)I=[$1?b($1-1,$2):0]");
        x.calls(0, "A.a", 3000, 0);
        x.took(3 + 1, 1);
        x.calls(0, "A.a", 3000, 9);
        x.took(10 * 3 + 1, 10);
        x.calls(0, "A.b", 3000, 9, 0, 0);
        x.took(10 * 5 + 3, 10);
    }

    private static void room() {
        String sentence = "Terms: The ROOM of a definition: the most words that are put on the stack at a time "
                + "while its expression is worked out";
        Object[][] rows = {{"1", 0}, {"$1", 0}, {"$2.1", 0}, {"(((1)))", 0}, {"1+2", 1}, {"1-2-3-4", 1}, {"1*2*3", 1},
            {"1+2*3", 2}, {"1*2+3", 1}, {"1*2+3*4", 2}, {"1+(2+(3+4))", 3}, {"((1+2)+3)+4", 1}, {"{1,2}.0", 1},
            {"{1+2,3}.0", 1}, {"{1,2+3}.0", 2}, {"{1,{2,{3,4}.0}.0}.0", 3}, {"1+d(2).0", 2}, {"c(1)", 1}, {"f($2)", 2},
            {"1+f($2)", 3}, {"e(1,$2,3)", 4}, {"e(1,{2,3},4)", 4}, {"e(1,$2,3+4)", 4}, {"e(1,$2,3+4*5)", 5},
            {"e(1,{2,3+4*5},6)", 4}, {"e(1,{2,3+4*(5+6)},7)", 5}, {"e(c(1),$2,f($2))", 5}, {"c(1)+c(2)", 2},
            {"c(c(c(1)))", 1}, {"e(1,$2,3)+1+1", 4}, {"e(1,$2,e(1,$2,e(1,$2,3)))", 10}};
        for (Object[] row : rows) {
            roomOf(sentence, (String) row[0], (Integer) row[1]);
        }
    }

    private static void roomWithoutEntered() {
        String sentence = "Terms: those that entered functions put, and the two words of an entering, not counted";
        roomOf(sentence, "b()", 0);
        roomOf(sentence, "1+b()", 1);
        roomOf(sentence, "c(b())", 1);
        roomOf(sentence, "e(b(),$2,b())", 4);
        Probe x = new Probe(sentence, 100);
        x.accepts("A;a(I)I=a(a($1));b()I=C.a({1,2});?C.a(P)I");
        x.about(1, "A.a", 0);
        x.about(2, "A.b", 0);
    }

    private static void roomOfChoice() {
        String sentence = "Terms: (both last ones of [ counted)";
        roomOf(sentence, "[1?2:3]", 0);
        roomOf(sentence, "[1+2?3:4]", 1);
        roomOf(sentence, "[1?2+3:4]", 1);
        roomOf(sentence, "[0?2+3:4]", 1);
        roomOf(sentence, "[1?2:3+4]", 1);
        roomOf(sentence, "[0?2:3+4]", 1);
        roomOf(sentence, "[1?2+3*4:5+6]", 2);
        roomOf(sentence, "[1?2+3:4+5*6]", 2);
        roomOf(sentence, "1+[1?2:3+4]", 2);
        roomOf(sentence, "[1?2:3+4]+1", 1);
        // What is not worked out counts for the stack, too.
        Probe x = new Probe(sentence, 8);
        x.links(2, "A;+a(PI)I=[0?1+(2+(3+4)):5];+b(PP)I=[0?1+(2+(3+4)):5]");
        x.calls(0, "A.a", 1);
        x.took(8, 1);
        x.calls(1, "A.b", 1);
        x.took(0, 1);
    }

    private static void stackOver() {
        String sentence = "Terms: If, when a function has been entered, HEIGHT and its room are more than SIZE "
                + "together, " + "the run is over: STACK.";
        for (int size = 10; size <= 13; size++) {
            Probe x = new Probe(sentence, size);
            x.links(3, "A;+a(I)I=1+b($1,$1);b(II)I=1+(2+(3+4));+c(I)I=[$1?1+b($1,$1):8]");
            // In b: the word of a and two, 1, the arguments $1 and $1 and two; and b's room.
            boolean fits = size >= 1 + 2 + 1 + 2 + 2 + 3;
            x.calls(fits ? 0 : 1, "A.a", 2);
            x.took(fits ? 11 : 6, 2);
            // What is not entered does not matter.
            x.calls(0, "A.c", 1, 0);
            x.results(8, 0);
            x.calls(fits ? 0 : 1, "A.c", 2, 1);
            x.results(fits ? 11 : 0, 0);
        }
        Probe y = new Probe(sentence, 8);
        y.links(3, "A;+a(PP)I=1+(2+3);+b(PP)I=1+(2+(3+4));+c(PPI)I=1");
        y.calls(0, "A.a", 1);
        y.calls(1, "A.b", 1);
    }

    private static void fuelOut() {
        String sentence = "Terms: Each entering costs one FUEL; if there is none, the run is over before it: FUEL.";
        Probe x = new Probe(sentence, 100);
        x.links(2, "A;+a(I)I=[$1?b()+b()+a($1-1):0];b()I=1");
        for (int fuel = 0; fuel <= 8; fuel++) {
            x.calls(fuel < 7 ? 2 : 0, "A.a", fuel, 2);
            x.due(Math.min(7, fuel), "took", 1);
            x.results(fuel < 7 ? 0 : 4, 0);
        }
        // An entering of an import costs as much.
        Probe y = new Probe(sentence, 100);
        y.links(2, "A;?B.b()I;+a()I=B.b()", "B;+b()I=5");
        y.calls(2, "A.a", 0);
        y.calls(2, "A.a", 1);
        y.took(2, 1);
        y.calls(0, "A.a", 2);
        y.took(4, 2);
        // Before it: where neither fuel nor stack is left, it is FUEL; and with fuel the entering is paid for.
        Probe z = new Probe(sentence, 8);
        z.links(3, "A;+a(PP)I=1+b();b()I=1;+c(PP)I=1+(2+(3+4))");
        z.calls(2, "A.a", 1);
        z.took(7, 1);
        z.calls(1, "A.a", 2);
        z.took(7, 2);
        z.calls(2, "A.c", 0);
        z.took(0, 0);
        z.calls(1, "A.c", 1);
        z.took(0, 1);
    }

    /** The expression of a function on no words gives that number. */
    private static void gives(String sentence, String expression, int number) {
        Probe x = new Probe(sentence + ", " + expression, 100);
        x.links(1, "A;+a()I=" + expression);
        x.calls(0, "A.a", 1);
        x.results(number, 0);
    }

    /** In a function on three words, so many are on the stack, beside these and two, when it enters b. */
    private static void tops(String sentence, String expression, int words) {
        Probe x = new Probe(sentence + ", " + expression, 500);
        x.links(5, "A;+a(IP)I=" + expression + ";b()I=0*(1+(2+(3+(4+(5+(6+(7+8)))))));c(I)I=1;d(I)P={1,1};e(IPI)I=1");
        x.calls(0, "A.a", 3000, 1, 2, 3);
        x.due(3 + 2 + words + 2 + 8, "took", 0);
    }

    private static void roomOf(String sentence, String expression, int words) {
        Probe x = new Probe(sentence + ", " + expression, 100);
        x.accepts("A;a(IP)I=" + expression + ";b()I=1+(2+(3+4));c(I)I=1;d(I)P={1,1};e(IPI)I=1;f(P)I=1");
        x.about(words, "A.a", 0);
        x.about(3, "A.b", 0);
    }
}
