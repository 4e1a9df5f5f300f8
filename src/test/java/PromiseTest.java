/** The sentences of the promises: a test each, whose label tells the promise and quotes the sentence. */
public final class PromiseTest {
    private static final String ILLEGAL_STATE = Probe.ILLEGAL_STATE;
    private static final String ILLEGAL_ARGUMENT = Probe.ILLEGAL_ARGUMENT;
    private static final String NO_SUCH = Probe.NO_SUCH;
    private static final String UNSUPPORTED = Probe.UNSUPPORTED;
    private static final int LEAST = Integer.MIN_VALUE;
    private static final int MOST = Integer.MAX_VALUE;

    public static void main(String[] args) {
        newObject();
        put();
        module();
        fault();
        drop();
        link();
        unfit();
        about();
        call();
        result();
        took();
        Probe.end();
    }

    private static void newObject() {
        stackHasSize();
        stackTooSmall();
        stackTooLarge();
        nothingThere();
    }

    private static void stackHasSize() {
        String sentence = "Promise 1: The stack has size words";
        for (int size : new int[] {8, 9, 10, 57, 58, 499, 500}) {
            stackOf(sentence, size, size);
        }
    }

    private static void stackTooSmall() {
        String sentence = "Promise 1: below 8 counts as 8";
        for (int size : new int[] {8, 7, 1, 0, -1, -8, -500, LEAST}) {
            stackOf(sentence, size, 8);
        }
    }

    private static void stackTooLarge() {
        String sentence = "Promise 1: above 500 as 500";
        for (int size : new int[] {500, 501, 502, 1000, 65536 + 8, MOST}) {
            stackOf(sentence, size, 500);
        }
    }

    /** Enterings go as far as so many words do, and no further, be they even or odd. */
    private static void stackOf(String sentence, int size, int words) {
        Probe x = new Probe(sentence + ", " + size, size);
        x.links(3, "A;+a()I=a();+b(I)I=[$1?b($1-1):0];+c(I)I=a()");
        x.calls(1, "A.a", 3000);
        x.took(words / 2 * 2, words / 2 + 1);
        x.calls(1, "A.c", 3000);
        x.took((words - 1) / 2 * 2 + 1, (words - 1) / 2 + 1);
        // b($1) needs three words for each of $1 + 1 enterings, and its room of one.
        int enterings = (words - 1) / 3;
        x.calls(0, "A.b", 3000, enterings - 1);
        x.took(3 * enterings + 1, enterings);
        x.calls(1, "A.b", 3000, enterings);
        x.took(3 * enterings + 1, enterings + 1);
    }

    private static void nothingThere() {
        String sentence = "Promise 1: No modules, an empty buffer.";
        Probe x = new Probe(sentence, 100);
        for (int m = 0; m < 6; m++) {
            x.due(NO_SUCH, "drop", m);
            x.due(NO_SUCH, "about", m, 0, 0);
        }
        x.due(ILLEGAL_STATE, "link");
        x.calls(ILLEGAL_STATE, "A.a", 1);
        x.refuses(1, "");
        x.text("x".repeat(120));
        x.due(false, "put", 'x', 1);
        new Probe(sentence, 100).accepts("A;a()I=1");
        Probe.compare("The public face: NONE = -1", -1, ModuleLinker.NONE);
    }

    private static void put() {
        putBytes();
        putCount();
        putNoCharacter();
        putTooMany();
    }

    private static void putBytes() {
        String sentence = "Promise 2: Appends the n lowest bytes of word (n is 1 .. 4), the highest of them first, "
                + "to the buffer";
        Probe x = new Probe(sentence, 100);
        // The bytes above them do not matter.
        x.due(true, "put", 0xff00ff00 | 'D', 1);
        x.due(true, "put", 0x80000000 | ';' << 8 | 'z', 2);
        x.due(true, "put", 0x01000000 | '(' << 16 | ')' << 8 | 'I', 3);
        x.due(true, "put", '=' << 24 | '1' << 16 | '+' << 8 | '2', 4);
        x.due(3, "module");
        x.about(1, "D.z", 0);
        // The same text, a character at a time and two at a time.
        for (char character : "E;z()I=1+2".toCharArray()) {
            x.due(true, "put", character, 1);
        }
        x.due(4, "module");
        x.about(1, "E.z", 0);
        String text = "F;z()I=1+2";
        for (int i = 0; i < text.length(); i += 2) {
            x.due(true, "put", text.charAt(i) << 8 | text.charAt(i + 1), 2);
        }
        x.due(5, "module");
        x.about(1, "F.z", 0);
    }

    private static void putCount() {
        String sentence = "Promise 2: false, changing nothing, when n is not as said";
        Probe x = new Probe(sentence, 100);
        for (char character : "A;a()I=1".toCharArray()) {
            for (int n : new int[] {0, 5, -1, 8, 257, LEAST, LEAST + 1, MOST}) {
                x.due(false, "put", 0x31313131, n);
            }
            x.due(true, "put", character, 1);
        }
        x.due(0, "module");
    }

    private static void putNoCharacter() {
        String sentence = "Promise 2: one of them is no character as said";
        for (int n = 1; n <= 4; n++) {
            for (int place = 0; place < n; place++) {
                Probe x = new Probe(sentence, 100);
                x.text("A;a()I=1");
                for (int wrong : new int[] {0, 1, 10, 31, 127, 128, 160, 255}) {
                    x.due(false, "put", 0x31313131 & ~(255 << 8 * place) | wrong << 8 * place, n);
                }
                // None of the others was appended.
                x.due(0, "module");
                for (int right : new int[] {32, 126}) {
                    x.due(true, "put", 0x31313131 & ~(255 << 8 * place) | right << 8 * place, n);
                }
            }
        }
    }

    private static void putTooMany() {
        String sentence = "Promise 2: or it would have more than 120";
        String longest = "A;+a()I=" + "1+".repeat(55) + "12";
        for (int free = 0; free <= 4; free++) {
            Probe x = new Probe(sentence, 100);
            x.text(longest.substring(0, 120 - free));
            for (int n = free + 1; n <= 4; n++) {
                x.due(false, "put", 0x31313131, n);
            }
            x.text(longest.substring(120 - free));
            for (int n = 1; n <= 4; n++) {
                x.due(false, "put", 0x31313131, n);
            }
            x.due(0, "module");
            x.due(1, "link");
            x.calls(0, "A.a", 1);
            x.results(67, 0);
            // The buffer takes as many again.
            x.text("x".repeat(120));
            x.due(false, "put", 'x', 1);
        }
    }

    private static void module() {
        bufferIsEmptyAfterwards();
        moduleAnswers();
        moduleEndsLinked();
        moduleRefused();
    }

    private static void bufferIsEmptyAfterwards() {
        String sentence = "Promise 3: The buffer, which is empty afterwards always, is compiled.";
        for (String before : new String[] {"A;a()I=1", "A;a()I=", "A;a()I={1,2}", "", "x".repeat(120)}) {
            Probe x = new Probe(sentence, 100);
            x.text(before);
            x.answer("module");
            x.refuses(1, "");
            x.text(before);
            x.answer("module");
            x.accepts("B;b()I=1");
            x.text(before);
            x.answer("module");
            x.text("x".repeat(120));
            x.due(false, "put", 'x', 1);
        }
    }

    private static void moduleAnswers() {
        String sentence = "Promise 3: Answers the module (0 for A).";
        Probe x = new Probe(sentence, 100);
        for (int m = 0; m < 6; m++) {
            x.text((char) ('A' + m) + ";a()I=1");
            x.due(m, "module");
            x.due(0, "about", m, 0, 0);
        }
        x.due(6, "link");
    }

    private static void moduleEndsLinked() {
        String sentence = "Promise 3: It is not linked then.";
        Probe x = new Probe(sentence, 100);
        x.links(1, "A;+a()I=1");
        x.calls(0, "A.a", 1);
        // A new one, one in the place of another, and the very same text again.
        for (String text : new String[] {"F;+f()I=1", "F;+g()I=1", "F;+g()I=1", "A;+a()I=1"}) {
            x.accepts(text);
            x.calls(ILLEGAL_STATE, "A.a", 1);
            x.answer("link");
            x.calls(0, "A.a", 1);
        }
    }

    private static void moduleRefused() {
        String sentence = "Promise 3: IllegalArgumentException, nothing else being changed, when it is not ACCEPTED.";
        for (String text : new String[] {"", "A", "A;+a(", "A;+a(P)P=$1;", "A;+a(P)P=$1.0", "A;+b()I=$1",
            "A;?F.a()I;+a()P=1"}) {
            Probe x = new Probe(sentence + " " + text, 100);
            x.accepts("A;?C.c()I;+a(P)P={$1.1,$1.0+1*2}");
            x.due(UNSUPPORTED, "link");
            x.text(text);
            x.due(ILLEGAL_ARGUMENT, "module");
            x.unfit(0, 0);
            x.accepts("C;+c()I=5");
            x.due(2, "link");
            x.calls(0, "A.a", 1, 3, 4);
            x.text(text);
            x.due(ILLEGAL_ARGUMENT, "module");
            // What was linked, is; and what the latest call left, and the module that was there, stay.
            x.results(4, 5);
            x.took(2 + 2 + 3, 1);
            x.unfit(-1, -1);
            x.about(3, "A.a", 0);
            x.about(NO_SUCH, "A.b", 0);
            x.calls(0, "A.a", 1, 30, 40);
            x.results(40, 32);
            x.due(2, "link");
        }
        // A refused text brings no module.
        Probe y = new Probe(sentence, 100);
        y.refuses(1, "A;+a()I=1;");
        y.refuses(2, "A;+a()I=$1");
        y.due(ILLEGAL_STATE, "link");
        y.due(NO_SUCH, "drop", 0);
        y.about(NO_SUCH, "A.a", 0);
    }

    private static void fault() {
        faultNone();
        faultOfText();
        faultOfTypes();
        faultOfLatest();
    }

    private static void faultNone() {
        String sentence = "Promise 4: 0 it was accepted, or there was none";
        Probe x = new Probe(sentence, 100);
        x.due(0, "fault");
        x.text("A;a()I=");
        x.due(0, "fault");
        x.text("1");
        x.due(0, "module");
        x.due(0, "fault");
    }

    private static void faultOfText() {
        String sentence = "Promise 4: 1 its text is none as said";
        // A text that is none stays so, whatever its types are, before the fault and behind it.
        Probe.refusesAll(sentence, 1, "", "A;a()I={1,2};b()I=", "A;a()I={1,2};a()I=1", "A;a()I=b()+$1;",
                "A;a(P)I=$1+$1+$4", "A;a()I=1;a()I={1,2}", "A;a()P=12345", "A;a()I=(1;b()I=$1", "A;a()I=b(1,2,3,4,)",
                "A;a()I=$1 ", "A;a()P=((((((((((1))))))))))");
    }

    private static void faultOfTypes() {
        String sentence = "Promise 4: 2 it is, but types are not as said";
        Probe.refusesAll(sentence, 2, "A;a()P=1", "A;a()I=$3", "A;a()I=b()", "A;a()I=B.b()", "A;a(I)I=a()",
                "A;a()I=1;b()I=1;c()I=1;d()I=1;e()I=1;f()I=$1", "A;a()P=((((((((1))))))))", "A;a()P=9999");
    }

    private static void faultOfLatest() {
        String sentence = "Promise 4: Of the latest module()";
        Probe x = new Probe(sentence, 100);
        String[] texts = {"A;a()I=1", "A", "A;a()P=1", "A", "A;a()I=1", "A;a()P=1", "A;a()I=1"};
        int[] faults = {0, 1, 2, 1, 0, 2, 0};
        for (int i = 0; i < texts.length; i++) {
            x.text(texts[i]);
            x.answer("module");
            x.due(faults[i], "fault");
            // No other call changes it, one that is refused neither.
            x.text("x");
            x.due(false, "put", 0, 0);
            x.answer("link");
            x.due(NO_SUCH, "drop", 5);
            x.answer("call", 0, 0, 0, 0, 0, 0, 1);
            x.answer("about", 0, 1, 0);
            x.due(faults[i], "fault");
            x.due(faults[i], "fault");
            x.answer("module");
        }
    }

    private static void drop() {
        dropGoes();
        dropNone();
    }

    private static void dropGoes() {
        String sentence = "Promise 5: Module m goes; it is not linked then.";
        for (int m = 0; m < 6; m++) {
            Probe x = new Probe(sentence + " " + m, 100);
            for (int k = 0; k < 6; k++) {
                x.accepts((char) ('A' + k) + ";+a()I=" + k);
            }
            x.due(6, "link");
            x.due("void", "drop", m);
            x.due(NO_SUCH, "about", m, 0, 0);
            for (int k = 0; k < 6; k++) {
                x.due(ILLEGAL_STATE, "call", k, 0, 0, 0, 0, 0, 1);
            }
            x.due(5, "link");
            for (int k = 0; k < 6; k++) {
                x.due(k == m ? NO_SUCH : 0, "call", k, 0, 0, 0, 0, 0, 1);
            }
            // The place is free for another, in which nothing of the earlier one is left.
            x.accepts((char) ('A' + m) + ";+b()I=1");
            x.due(NO_SUCH, "about", m, 0, 0);
            x.due(0, "about", m, 1, 0);
            x.due(6, "link");
        }
    }

    private static void dropNone() {
        String sentence = "Promise 5: NoSuchElementException when it is not there.";
        Probe x = new Probe(sentence, 100);
        x.links(2, "A;+a()I=1", "F;+a()I=1");
        for (int m : new int[] {-1, 1, 4, 6, 7, 256, LEAST, MOST}) {
            x.due(NO_SUCH, "drop", m);
        }
        // It is linked still.
        x.calls(0, "A.a", 1);
        x.due("void", "drop", 5);
        x.due(NO_SUCH, "drop", 5);
        x.due(1, "link");
        x.due(NO_SUCH, "drop", 5);
        x.calls(0, "A.a", 1);
        x.due("void", "drop", 0);
        x.due(NO_SUCH, "drop", 0);
    }

    private static void link() {
        linkAnswers();
        linkNoModules();
        linkUnfit();
    }

    private static void linkAnswers() {
        String sentence = "Promise 6: Answers how many definitions there are.";
        Probe x = new Probe(sentence, 100);
        // Those that are not exported count, imports do not; there may be none.
        x.links(1, "A;a()I=1");
        x.links(3, "B;+a()I=1;b()I=1");
        x.links(4, "C;?B.a()I;a()I=1");
        x.due(4, "link");
        x.links(3, "C;?B.a()I");
        x.due("void", "drop", 2);
        x.due("void", "drop", 1);
        x.due("void", "drop", 0);
        for (int m = 0; m < 6; m++) {
            x.accepts((char) ('A' + m) + ";a()I=1;b()I=1;c()I=1;d()I=1;e()I=1;f()I=1");
            x.due(6 * (m + 1), "link");
        }
        Probe y = new Probe(sentence, 100);
        y.accepts("A;?B.b()I");
        y.due(UNSUPPORTED, "link");
        y.links(1, "B;+b()I=1");
    }

    private static void linkNoModules() {
        String sentence = "Promise 6: IllegalStateException when there are no modules";
        Probe x = new Probe(sentence, 100);
        x.due(ILLEGAL_STATE, "link");
        x.due(ILLEGAL_STATE, "link");
        x.refuses(1, "A");
        x.due(ILLEGAL_STATE, "link");
        x.links(1, "C;+a()I=1");
        x.due("void", "drop", 2);
        x.due(ILLEGAL_STATE, "link");
        x.calls(ILLEGAL_STATE, "C.a", 1);
        x.links(1, "C;+a()I=1");
    }

    private static void linkUnfit() {
        String sentence = "Promise 6: UnsupportedOperationException when an import does not fit: it is not linked "
                + "then.";
        Probe x = new Probe(sentence, 100);
        x.links(1, "A;+a()I=1");
        x.accepts("F;?E.a()I");
        x.due(UNSUPPORTED, "link");
        x.calls(ILLEGAL_STATE, "A.a", 1);
        x.due(UNSUPPORTED, "link");
        x.calls(ILLEGAL_STATE, "A.a", 1);
        // An import that is never called has to fit, too, and the last of six as well as the first.
        x.accepts("F;?A.a()I;b()I=1;c()I=1;d()I=1;e()I=1;?A.b()I");
        x.due(UNSUPPORTED, "link");
        x.calls(ILLEGAL_STATE, "A.a", 1);
        x.links(7, "A;+a()I=1;+b()I=1;c()I=1");
        x.calls(0, "A.a", 1);
        // Modules may be linked in a ring.
        Probe y = new Probe(sentence, 100);
        y.accepts("A;?B.b(I)I;+a(I)I=[$1?B.b($1-1):10]");
        y.due(UNSUPPORTED, "link");
        y.links(2, "B;?A.a(I)I;+b(I)I=[$1?A.a($1-1):20]");
        y.calls(0, "A.a", 9, 4);
        y.results(10, 0);
        y.calls(0, "A.a", 9, 5);
        y.results(20, 0);
    }

    private static void unfit() {
        unfitFirst();
        unfitItems();
        unfitLatest();
        unfitNone();
        unfitOther();
    }

    private static void unfitFirst() {
        String sentence = "Promise 7: the first by modules, then by items";
        Probe x = new Probe(sentence, 100);
        x.accepts("F;?E.a()I;?E.b()I");
        x.due(UNSUPPORTED, "link");
        x.unfit(5, 0);
        x.accepts("C;c()I=1;?F.a()I;?A.a()I;?F.b()I");
        x.due(UNSUPPORTED, "link");
        x.unfit(2, 1);
        x.accepts("A;+a()I=1;b()I=1;?C.d()I");
        x.due(UNSUPPORTED, "link");
        x.unfit(0, 2);
        x.accepts("A;+a()I=1");
        x.due(UNSUPPORTED, "link");
        x.unfit(2, 1);
        x.accepts("C;?A.a()I;c()I=1");
        x.due(UNSUPPORTED, "link");
        x.unfit(5, 0);
        x.accepts("E;+a()I=1;b()I=1");
        x.due(UNSUPPORTED, "link");
        x.unfit(5, 1);
        x.links(4, "E;+a()I=1;+b()I=1");
        x.unfit(-1, -1);
    }

    private static void unfitItems() {
        String sentence = "Promise 7: its module (what 0), its item (1; from 0 on)";
        for (int m = 0; m < 6; m++) {
            for (int item = 0; item < 6; item++) {
                Probe x = new Probe(sentence, 100);
                StringBuilder text = new StringBuilder().append((char) ('A' + m));
                for (int i = 0; i < 6; i++) {
                    text.append(i == item ? ";?A.z()I" : ";" + (char) ('a' + i) + "()I=1");
                }
                x.accepts(text.toString());
                x.due(UNSUPPORTED, "link");
                x.unfit(m, item);
            }
        }
    }

    private static void unfitLatest() {
        String sentence = "Promise 7: The import that the latest link() that had modules found unfit";
        Probe x = new Probe(sentence, 100);
        x.accepts("B;b()I=1;?C.c()I");
        x.unfit(-1, -1);
        x.due(UNSUPPORTED, "link");
        x.unfit(1, 1);
        // No other call changes it, what goes and comes neither.
        x.accepts("C;+c()I=1");
        x.unfit(1, 1);
        x.due("void", "drop", 1);
        x.unfit(1, 1);
        x.due("void", "drop", 2);
        x.unfit(1, 1);
        // This link() has no modules.
        x.due(ILLEGAL_STATE, "link");
        x.unfit(1, 1);
        x.refuses(1, "B");
        x.calls(ILLEGAL_STATE, "B.b", 1);
        x.unfit(1, 1);
        x.links(1, "C;+c()I=1");
        x.unfit(-1, -1);
    }

    private static void unfitNone() {
        String sentence = "Promise 7: NONE when there was none";
        Probe x = new Probe(sentence, 100);
        x.unfit(-1, -1);
        x.due(ILLEGAL_STATE, "link");
        x.unfit(-1, -1);
        x.links(1, "A;+a()I=1");
        x.unfit(-1, -1);
        x.accepts("B;?C.c()I");
        x.unfit(-1, -1);
        x.due(UNSUPPORTED, "link");
        x.unfit(1, 0);
        x.due("void", "drop", 1);
        x.due(1, "link");
        x.unfit(-1, -1);
        // It was none, too, when there are no modules any more.
        x.due("void", "drop", 0);
        x.due(ILLEGAL_STATE, "link");
        x.unfit(-1, -1);
    }

    private static void unfitOther() {
        String sentence = "Promise 7: NONE for another what.";
        Probe x = new Probe(sentence, 100);
        int[] others = {-1, 2, 3, 256, LEAST, MOST};
        for (int what : others) {
            x.due(-1, "unfit", what);
        }
        x.accepts("B;b()I=1;?C.c()I");
        x.due(UNSUPPORTED, "link");
        for (int what : others) {
            x.due(-1, "unfit", what);
        }
        x.unfit(1, 1);
    }

    private static void about() {
        aboutDefinition();
        aboutRoom();
        aboutExported();
        aboutWords();
        aboutNone();
        aboutOther();
    }

    private static void aboutDefinition() {
        String sentence = "Promise 8: Of definition f (0 for a) of module m";
        Probe x = new Probe(sentence, 100);
        x.accepts("A;a()I=1;z()I=1+(2+3)");
        x.accepts("F;z(P)P=$1;a()I=1+2");
        x.due(0, "about", 0, 0, 0);
        x.due(2, "about", 0, 25, 0);
        x.due(1, "about", 5, 0, 0);
        x.due(0, "about", 5, 25, 0);
        x.due(2, "about", 5, 25, 2);
        // It is the same when they are linked.
        x.due(4, "link");
        x.due(2, "about", 0, 25, 0);
        x.due(1, "about", 5, 0, 0);
    }

    private static void aboutRoom() {
        String sentence = "Promise 8: its room (what 0)";
        Probe x = new Probe(sentence, 8);
        x.accepts("A;a()I=1;b()I=1+2;c(PPP)I=1+c($1,$2,$3)");
        x.about(0, "A.a", 0);
        x.about(1, "A.b", 0);
        x.about(7, "A.c", 0);
        // It may be more than the stack has.
        x.accepts("A;c(PPP)I=1*c($1,$2,{1,1*c($1,$2,{1,1*c($1,$2,{1,c($1,$2,{1,2+3*4})})})})");
        x.about(25, "A.c", 0);
    }

    private static void aboutExported() {
        String sentence = "Promise 8: whether it is exported (1; 1 or 0)";
        Probe x = new Probe(sentence, 100);
        x.accepts("A;+a()I=1;b()I=1;+c()I=1");
        x.about(1, "A.a", 1);
        x.about(0, "A.b", 1);
        x.about(1, "A.c", 1);
        x.accepts("A;a()I=1;+b()I=1");
        x.about(0, "A.a", 1);
        x.about(1, "A.b", 1);
    }

    private static void aboutWords() {
        String sentence = "Promise 8: the words of its parameters (2), of its result (3)";
        String[] parameters = {"", "I", "P", "II", "IP", "PI", "PP", "III", "IPI", "PIP", "PPP"};
        int[] words = {0, 1, 2, 2, 3, 3, 4, 3, 4, 5, 6};
        for (int i = 0; i < parameters.length; i++) {
            Probe x = new Probe(sentence + " " + parameters[i], 100);
            x.accepts("A;a(" + parameters[i] + ")I=1;b(" + parameters[i] + ")P={1,2}");
            x.about(words[i], "A.a", 2);
            x.about(1, "A.a", 3);
            x.about(words[i], "A.b", 2);
            x.about(2, "A.b", 3);
        }
    }

    private static void aboutNone() {
        String sentence = "Promise 8: NoSuchElementException when there is none";
        Probe x = new Probe(sentence, 100);
        x.accepts("B;?A.x()I;+a()I=1;?B.y()I;?B.a()I");
        for (int what = 0; what < 4; what++) {
            for (int f : new int[] {-1, 1, 23, 24, 25, 26, LEAST, MOST}) {
                x.due(NO_SUCH, "about", 1, f, what);
            }
            for (int m : new int[] {-1, 0, 2, 5, 6, LEAST, MOST}) {
                x.due(NO_SUCH, "about", m, 0, what);
            }
        }
        x.due("void", "drop", 1);
        x.about(NO_SUCH, "B.a", 0);
    }

    private static void aboutOther() {
        String sentence = "Promise 8: or for another what";
        Probe x = new Probe(sentence, 100);
        x.accepts("B;+a()I=1");
        for (int what : new int[] {-1, 4, 5, 256, LEAST, MOST}) {
            x.due(NO_SUCH, "about", 1, 0, what);
            x.due(NO_SUCH, "about", 0, 0, what);
        }
    }

    private static void call() {
        callWords();
        callOtherWords();
        callHeight();
        fuelTooSmall();
        fuelTooLarge();
        callAnswers();
        callNotLinked();
        callNoSuch();
        callTooManyWords();
    }

    private static void callWords() {
        String sentence = "Promise 9: its parameters' words being a, b, c, ..";
        String[] parameters = {"I", "P", "II", "IP", "PI", "PP", "III", "PII", "IPI", "IIP"};
        for (String one : parameters) {
            Probe x = new Probe(sentence + " " + one, 100);
            StringBuilder text = new StringBuilder("A");
            for (int k = 1; k <= one.length(); k++) {
                char type = one.charAt(k - 1);
                text.append(";+").append((char) ('a'
                        + k - 1)).append('(').append(one).append(')').append(type).append("=$").append(k);
            }
            x.links(one.length(), text.toString());
            int word = 11;
            for (int k = 0; k < one.length(); k++) {
                boolean pair = one.charAt(k) == 'P';
                x.due(0, "call", 0, k, 11, 12, 13, 14, 1);
                x.results(word, pair ? word + 1 : 0);
                word += pair ? 2 : 1;
            }
        }
        Probe y = new Probe(sentence, 100);
        y.links(1, "A;+a(PP)P={$1.0-$2.0,$1.1-$2.1}");
        y.calls(0, "A.a", 1, LEAST, MOST, 1, -1);
        y.results(MOST, LEAST);
    }

    private static void callOtherWords() {
        String sentence = "Promise 9: (those that it does not have do not matter";
        Probe x = new Probe(sentence, 100);
        x.links(3, "A;+a()I=b(7);b(I)I=$1;+c(I)P={$1,b(8)}");
        for (int word : new int[] {0, 1, -1, LEAST, MOST}) {
            x.calls(0, "A.a", 9, word, word, word, word);
            x.results(7, 0);
            x.took(0 + 2 + 1 + 2, 2);
            x.calls(0, "A.c", 9, 5, word, word, word);
            x.results(5, 8);
            x.took(1 + 2 + 2 + 2, 2);
        }
    }

    private static void callHeight() {
        String sentence = "Promise 9: HEIGHT is as many as it has)";
        String[] parameters = {"", "I", "P", "II", "IP", "PP", "III", "IPI"};
        int[] words = {0, 1, 2, 2, 3, 4, 3, 4};
        for (int i = 0; i < parameters.length; i++) {
            Probe x = new Probe(sentence + " " + parameters[i], 100);
            x.links(2, "A;+a(" + parameters[i] + ")I=1;+b(" + parameters[i] + ")I=1+(2+3)");
            x.calls(0, "A.a", 1, 1, 2, 3, 4);
            x.took(words[i] + 2, 1);
            x.calls(0, "A.b", 1, 1, 2, 3, 4);
            x.took(words[i] + 2 + 2, 1);
        }
    }

    private static void fuelTooSmall() {
        String sentence = "Promise 9: with some fuel (below 0 counts as 0";
        Probe x = new Probe(sentence, 100);
        x.links(1, "A;+a()I=1");
        for (int fuel : new int[] {0, -1, -2, -3000, LEAST}) {
            x.calls(0, "A.a", 1);
            x.calls(2, "A.a", fuel);
            x.took(0, 0);
            x.results(0, 0);
        }
        x.calls(0, "A.a", 1);
        x.took(2, 1);
    }

    private static void fuelTooLarge() {
        String sentence = "Promise 9: above 3000 as 3000";
        Probe x = new Probe(sentence, 500);
        // A call on d, n, e costs 1 + d * (n + 2) + e + 1.
        x.links(2, "A;+a(III)I=[$1?a($1-1,$2,$3)+b($2):b($3)];b(I)I=[$1?b($1-1):1]");
        for (int fuel : new int[] {3000, 3001, 3002, 6000, 65536, MOST}) {
            x.calls(0, "A.a", fuel, 50, 57, 48);
            x.due(3000, "took", 1);
            x.results(51, 0);
            x.calls(2, "A.a", fuel, 50, 57, 49);
            x.due(3000, "took", 1);
            x.results(0, 0);
        }
        x.calls(2, "A.a", 2999, 50, 57, 48);
        x.due(2999, "took", 1);
        x.calls(0, "A.a", 2999, 50, 57, 47);
        x.due(2999, "took", 1);
    }

    private static void callAnswers() {
        String sentence = "Promise 9: Answers 0 when there is a result, 1 for STACK, 2 for FUEL.";
        Probe x = new Probe(sentence, 50);
        x.links(1, "A;+a(I)I=[$1?a($1-1):7]");
        x.calls(0, "A.a", 3000, 15);
        x.results(7, 0);
        x.calls(1, "A.a", 3000, 16);
        x.calls(0, "A.a", 16, 15);
        x.calls(2, "A.a", 15, 15);
        x.calls(1, "A.a", 17, 16);
        x.calls(2, "A.a", 16, 16);
        x.calls(1, "A.a", 3000, -1);
        // A result of 0 is one.
        x.links(1, "A;+a()I=0");
        x.calls(0, "A.a", 1);
        x.results(0, 0);
    }

    private static void callNotLinked() {
        String sentence = "Promise 9: IllegalStateException when it is not linked";
        Probe x = new Probe(sentence, 100);
        x.calls(ILLEGAL_STATE, "A.a", 1);
        x.accepts("A;+a()I=1;+b(PPP)I=1");
        x.calls(ILLEGAL_STATE, "A.a", 1);
        // It is the first to be told, before what else is wrong.
        x.calls(ILLEGAL_STATE, "A.b", 1);
        x.calls(ILLEGAL_STATE, "A.c", 1);
        x.due(ILLEGAL_STATE, "call", -1, 99, 0, 0, 0, 0, -1);
        x.due(2, "link");
        x.calls(0, "A.a", 1);
        x.accepts("B;?A.z()I");
        x.calls(ILLEGAL_STATE, "A.a", 1);
        x.due(UNSUPPORTED, "link");
        x.calls(ILLEGAL_STATE, "A.a", 1);
        x.due("void", "drop", 1);
        x.calls(ILLEGAL_STATE, "A.a", 1);
        x.due(2, "link");
        x.calls(0, "A.a", 1);
    }

    private static void callNoSuch() {
        String sentence = "Promise 9: NoSuchElementException when there is no such exported definition";
        Probe x = new Probe(sentence, 100);
        x.links(4, "A;+a()I=1;b()I=1;d(PPI)I=1;?C.c()I", "C;+c()I=1");
        x.calls(NO_SUCH, "A.b", 1);
        x.calls(NO_SUCH, "A.c", 1);
        // Not exported comes before too many words.
        x.calls(NO_SUCH, "A.d", 1);
        for (int f : new int[] {-1, 4, 25, 26, LEAST, MOST}) {
            x.due(NO_SUCH, "call", 0, f, 0, 0, 0, 0, 1);
        }
        for (int m : new int[] {-1, 1, 3, 5, 6, LEAST, MOST}) {
            x.due(NO_SUCH, "call", m, 0, 0, 0, 0, 0, 1);
        }
        x.calls(NO_SUCH, "A.b", 0);
        x.calls(0, "A.a", 1);
    }

    private static void callTooManyWords() {
        String sentence = "Promise 9: IllegalArgumentException when it has more than four words of parameters";
        String[] tooMany = {"PPI", "PIP", "IPP", "PPP"};
        for (String parameters : tooMany) {
            Probe x = new Probe(sentence + " " + parameters, 8);
            x.links(2, "A;+a(" + parameters + ")I=1;+b()I=1");
            x.calls(ILLEGAL_ARGUMENT, "A.a", 1);
            x.calls(ILLEGAL_ARGUMENT, "A.a", 0);
            x.calls(0, "A.b", 1);
        }
        for (String parameters : new String[] {"PP", "PII", "IPI", "IIP"}) {
            Probe x = new Probe(sentence + " " + parameters, 8);
            x.links(1, "A;+a(" + parameters + ")I=1");
            x.calls(0, "A.a", 1);
        }
        // Another function may call it.
        Probe y = new Probe(sentence, 100);
        y.links(2, "A;+a(PPP)I=$1.0*100+$2.1*10+$3.1;+b(PP)I=a($1,$2,{7,8})");
        y.calls(0, "A.b", 2, 1, 2, 3, 4);
        y.results(148, 0);
    }

    private static void result() {
        resultOfLatest();
        resultNone();
        resultOfInt();
        resultOther();
    }

    private static void resultOfLatest() {
        String sentence = "Promise 10: The first (k 0) or second (1) number of the result of the latest call (that "
                + "threw nothing)";
        Probe x = new Probe(sentence, 100);
        x.links(3, "A;+a(P)P=$1;+b(PPP)I=1;c()I=1");
        x.calls(0, "A.a", 1, 11, 12);
        x.results(11, 12);
        x.calls(0, "A.a", 1, LEAST, MOST);
        x.results(LEAST, MOST);
        // Calls that throw do not count, and no other call changes it.
        x.calls(NO_SUCH, "A.c", 1);
        x.results(LEAST, MOST);
        x.calls(ILLEGAL_ARGUMENT, "A.b", 1);
        x.results(LEAST, MOST);
        x.due(3, "link");
        x.results(LEAST, MOST);
        x.refuses(1, "A");
        x.accepts("A;+a(P)P=$1");
        x.calls(ILLEGAL_STATE, "A.a", 1, 3, 4);
        x.results(LEAST, MOST);
        x.due("void", "drop", 0);
        x.due(ILLEGAL_STATE, "link");
        x.results(LEAST, MOST);
    }

    private static void resultNone() {
        String sentence = "Promise 10: 0 when there was none (also for STACK and FUEL)";
        Probe x = new Probe(sentence, 20);
        x.results(0, 0);
        x.calls(ILLEGAL_STATE, "A.a", 1);
        x.results(0, 0);
        x.links(3, "A;+a()P={5,6};+b()P=[1+b().0?{7,8}:{9,9}];+c()P=b()");
        x.results(0, 0);
        x.calls(NO_SUCH, "A.z", 1);
        x.results(0, 0);
        for (String function : new String[] {"A.b", "A.c"}) {
            x.calls(0, "A.a", 1);
            x.results(5, 6);
            x.calls(1, function, 99);
            x.results(0, 0);
            x.calls(0, "A.a", 1);
            x.results(5, 6);
            x.calls(2, function, 2);
            x.results(0, 0);
            x.calls(0, "A.a", 1);
            x.calls(2, function, 0);
            x.results(0, 0);
        }
    }

    private static void resultOfInt() {
        String sentence = "Promise 10: for the second one of an I";
        Probe x = new Probe(sentence, 100);
        x.links(4, "A;+a()P={5,6};+b()I={7,8}.0;+c()I={7,8}.1;+d(P)I=[$1.1?$1.0:a().1]");
        x.calls(0, "A.a", 1);
        x.results(5, 6);
        x.calls(0, "A.b", 1);
        x.results(7, 0);
        x.calls(0, "A.c", 1);
        x.results(8, 0);
        x.calls(0, "A.d", 1, 3, 4);
        x.results(3, 0);
        x.calls(0, "A.d", 2, 3, 0);
        x.results(6, 0);
    }

    private static void resultOther() {
        String sentence = "Promise 10: and for another k";
        Probe x = new Probe(sentence, 100);
        x.links(1, "A;+a()P={5,6}");
        x.calls(0, "A.a", 1);
        for (int k : new int[] {-1, 2, 3, 256, LEAST, MOST}) {
            x.due(0, "result", k);
        }
        x.results(5, 6);
    }

    private static void took() {
        tookMost();
        tookNoMoreThanSize();
        tookFuel();
        tookBefore();
        tookOther();
        tookOfLatest();
    }

    private static void tookMost() {
        String sentence = "Promise 11: the most that HEIGHT and the room of an entered function were together";
        Probe x = new Probe(sentence, 100);
        x.links(5, "A;+a(I)I=[$1?a($1-1)*$1:b()];b()I=1+(1+(1+1));+c()I=[b()?d():0];d()I=1;+e()I=d()+b()");
        x.calls(0, "A.a", 9, 0);
        x.took(3 + 2 + 3, 2);
        x.calls(0, "A.a", 9, 6);
        x.took(7 * 3 + 2 + 3, 8);
        // The most stays when a function that needs less is entered later, and grows when one needs more.
        x.calls(0, "A.c", 9);
        x.took(2 + 2 + 3, 3);
        x.calls(0, "A.e", 9);
        x.took(2 + 1 + 2 + 3, 3);
        // The room counts where it is not used, and the most may be that of the first function.
        x.links(2, "A;+a(I)I=[$1?b():1+(2+(3+(4+5)))];b()I=1");
        x.calls(0, "A.a", 9, 1);
        x.took(1 + 2 + 4, 2);
    }

    private static void tookNoMoreThanSize() {
        String sentence = "Promise 11: no more than SIZE (the one with which it ended as STACK does not count) "
                + "(what 0)";
        for (int size = 8; size <= 20; size++) {
            Probe x = new Probe(sentence + " " + size, size);
            x.links(3, "A;+a()I=a();+b(PP)I=1+(2+(3+(4+5)));+c(I)I=1+c($1)");
            x.calls(1, "A.a", 3000);
            x.took(size / 2 * 2, size / 2 + 1);
            x.calls(size >= 10 ? 0 : 1, "A.b", 3000);
            x.took(size >= 10 ? 10 : 0, 1);
            // c has room 2, and each entering of it puts 4 words, but for the first one, which puts 3.
            int enterings = (size - 1) / 4;
            x.calls(1, "A.c", 3000);
            x.took(4 * enterings + 1, enterings + 1);
        }
    }

    private static void tookFuel() {
        String sentence = "Promise 11: how much fuel it took (1)";
        Probe x = new Probe(sentence, 30);
        x.links(1, "A;+a(I)I=[$1?a($1-1)*$1:1]");
        x.calls(0, "A.a", 3000, 5);
        x.took(19, 6);
        x.calls(0, "A.a", 6, 5);
        x.took(19, 6);
        // What has been entered when the fuel is out; and the entering with which it ended as STACK.
        x.calls(2, "A.a", 5, 5);
        x.took(16, 5);
        x.calls(2, "A.a", 0, 5);
        x.took(0, 0);
        x.calls(1, "A.a", 3000, 50);
        x.took(28, 10);
    }

    private static void tookBefore() {
        String sentence = "Promise 11: 0 before";
        Probe x = new Probe(sentence, 100);
        x.took(0, 0);
        x.calls(ILLEGAL_STATE, "A.a", 1);
        x.took(0, 0);
        x.links(1, "A;+a()I=1");
        x.took(0, 0);
        x.calls(NO_SUCH, "A.b", 1);
        x.took(0, 0);
        x.calls(0, "A.a", 1);
        x.took(2, 1);
    }

    private static void tookOther() {
        String sentence = "Promise 11: NONE for another what.";
        Probe x = new Probe(sentence, 100);
        int[] others = {-1, 2, 3, 256, LEAST, MOST};
        for (int what : others) {
            x.due(-1, "took", what);
        }
        x.links(1, "A;+a()I=1");
        x.calls(0, "A.a", 1);
        for (int what : others) {
            x.due(-1, "took", what);
        }
        x.took(2, 1);
    }

    /** A call that throws is read here as one that leaves what took() tells, as it leaves result(). */
    private static void tookOfLatest() {
        String sentence = "Promise 11: Of the latest call";
        Probe x = new Probe(sentence, 100);
        x.links(4, "A;+a()I=b()+b();b()I=1;+c()I=1;+d(PPP)I=1");
        x.calls(0, "A.a", 9);
        x.took(5, 3);
        x.calls(0, "A.c", 9);
        x.took(2, 1);
        x.calls(0, "A.a", 9);
        x.calls(NO_SUCH, "A.b", 9);
        x.took(5, 3);
        x.calls(ILLEGAL_ARGUMENT, "A.d", 9);
        x.took(5, 3);
        x.accepts("B;+a()I=1");
        x.calls(ILLEGAL_STATE, "A.c", 9);
        x.took(5, 3);
        x.due(5, "link");
        x.due("void", "drop", 0);
        x.took(5, 3);
    }
}
