import java.util.NoSuchElementException;

/** Modules that are compiled one by one, linked together, and called on a machine with a small stack. */
public final class ModuleLinker {
    public static final int NONE = -1;

    private static final int MODULES = 6;
    private static final int ITEMS = 6;
    private static final int LETTERS = 26;
    private static final int TEXT = 120;
    private static final int DEEPEST = 8;
    private static final int PARAMETERS = 3;
    private static final int CALL_WORDS = 4;
    private static final int SMALLEST_STACK = 8;
    private static final int LARGEST_STACK = 500;
    private static final int MOST_FUEL = 3000;

    // No character of a text gives more than two instructions.
    private static final int CODE = 2 * TEXT;
    // There are no jumps back, so an entering works at most CODE instructions off.
    private static final int MOST_STEPS = (MOST_FUEL + 1) * CODE;

    // A type is the number of its words.
    private static final int INT = 1;
    private static final int PAIR = 2;

    private static final int ACCEPTED = 0;
    private static final int TEXT_FAULT = 1;
    private static final int TYPE_FAULT = 2;

    private static final int DONE = 0;
    private static final int STACK_OVER = 1;
    private static final int FUEL_OUT = 2;
    private static final int RUNNING = 3;

    // An instruction is its kind and, above these bits, its operand.
    private static final int KIND_BITS = 4;
    private static final int KIND_MASK = 15;
    private static final int NUMBER = 0;
    private static final int INT_PARAMETER = 1;
    private static final int PAIR_PARAMETER = 2;
    private static final int PUSH_INT = 3;
    private static final int PUSH_PAIR = 4;
    private static final int ADD = 5;
    private static final int SUBTRACT = 6;
    private static final int MULTIPLY = 7;
    private static final int MAKE_PAIR = 8;
    private static final int TAKE_SECOND = 9;
    private static final int JUMP_IF_ZERO = 10;
    private static final int JUMP = 11;
    private static final int ENTER = 12;
    private static final int LEAVE = 13;

    private final char[] buffer = new char[TEXT];
    private int length;
    private final Unit[] units = new Unit[MODULES];
    private final boolean[] present = new boolean[MODULES];
    // A text is compiled into this one, so that a refused text leaves the others as they are.
    private Unit spare = new Unit();
    private final Compiler compiler = new Compiler();
    private final Machine machine;
    private int latestFault = ACCEPTED;
    private boolean linked;
    private int unfitModule = NONE;
    private int unfitItem = NONE;

    public ModuleLinker(int size) {
        for (int m = 0; m < MODULES; m++) {
            units[m] = new Unit();
        }
        machine = new Machine(Math.max(SMALLEST_STACK, Math.min(LARGEST_STACK, size)));
    }

    public boolean put(int word, int n) {
        if (n < 1 || n > 4 || length + n > TEXT) {
            return false;
        }
        for (int k = 0; k < n; k++) {
            int character = byteOf(word, k);
            if (character < 32 || character > 126) {
                return false;
            }
        }
        for (int k = n - 1; k >= 0; k--) {
            buffer[length] = (char) byteOf(word, k);
            length++;
        }
        return true;
    }

    public int module() throws IllegalArgumentException {
        latestFault = compiler.compile(buffer, length, spare);
        length = 0;
        if (latestFault != ACCEPTED) {
            throw new IllegalArgumentException();
        }
        int m = spare.name;
        Unit earlier = units[m];
        units[m] = spare;
        spare = earlier;
        present[m] = true;
        linked = false;
        return m;
    }

    public int fault() {
        return latestFault;
    }

    public void drop(int m) throws NoSuchElementException {
        if (!isPresent(m)) {
            throw new NoSuchElementException();
        }
        present[m] = false;
        linked = false;
    }

    public int link() throws IllegalStateException, UnsupportedOperationException {
        if (!hasModules()) {
            throw new IllegalStateException();
        }
        findUnfit();
        linked = unfitModule == NONE;
        if (!linked) {
            throw new UnsupportedOperationException();
        }
        return countDefinitions();
    }

    public int unfit(int what) {
        switch (what) {
            case 0:
                return unfitModule;
            case 1:
                return unfitItem;
            default:
                return NONE;
        }
    }

    public int about(int m, int f, int what) throws NoSuchElementException {
        Item definition = definitionOf(m, f);
        if (definition == null || what < 0 || what > 3) {
            throw new NoSuchElementException();
        }
        switch (what) {
            case 0:
                return definition.room;
            case 1:
                return definition.exported ? 1 : 0;
            case 2:
                return definition.words;
            default:
                return typeAt(definition.signature, 0);
        }
    }

    public int call(int m, int f, int a, int b, int c, int d, int fuel)
            throws IllegalStateException, NoSuchElementException, IllegalArgumentException {
        if (!linked) {
            throw new IllegalStateException();
        }
        Item definition = definitionOf(m, f);
        if (definition == null || !definition.exported) {
            throw new NoSuchElementException();
        }
        if (definition.words > CALL_WORDS) {
            throw new IllegalArgumentException();
        }
        machine.load(a, b, c, d);
        return machine.run(units, m, definition, Math.max(0, Math.min(MOST_FUEL, fuel)));
    }

    public int result(int k) {
        switch (k) {
            case 0:
                return machine.firstResult;
            case 1:
                return machine.secondResult;
            default:
                return 0;
        }
    }

    public int took(int what) {
        switch (what) {
            case 0:
                return machine.most;
            case 1:
                return machine.spent;
            default:
                return NONE;
        }
    }

    private boolean isPresent(int m) {
        return m >= 0 && m < MODULES && present[m];
    }

    private Item definitionOf(int m, int f) {
        return isPresent(m) ? units[m].find(NONE, f) : null;
    }

    private boolean hasModules() {
        for (int m = 0; m < MODULES; m++) {
            if (present[m]) {
                return true;
            }
        }
        return false;
    }

    private int countDefinitions() {
        int count = 0;
        for (int m = 0; m < MODULES; m++) {
            if (present[m]) {
                count += units[m].countDefinitions();
            }
        }
        return count;
    }

    private void findUnfit() {
        unfitModule = NONE;
        unfitItem = NONE;
        for (int m = 0; m < MODULES && unfitModule == NONE; m++) {
            int item = present[m] ? firstUnfit(units[m]) : NONE;
            if (item != NONE) {
                unfitModule = m;
                unfitItem = item;
            }
        }
    }

    private int firstUnfit(Unit unit) {
        for (int i = 0; i < unit.count; i++) {
            Item item = unit.items[i];
            if (item.owner != NONE && !fits(item)) {
                return i;
            }
        }
        return NONE;
    }

    private boolean fits(Item wanted) {
        Item definition = definitionOf(wanted.owner, wanted.name);
        return definition != null && definition.exported && definition.signature == wanted.signature;
    }

    private static int byteOf(int word, int k) {
        return (word >>> (8 * k)) & 255;
    }

    /** The type of parameter k (from 1 on), 0 when there is none; that of the result when k is 0. */
    private static int typeAt(int signature, int k) {
        return k > PARAMETERS ? 0 : (signature >> (2 * k)) & 3;
    }

    /** The words of the parameters before parameter k. */
    private static int wordsBefore(int signature, int k) {
        int words = 0;
        for (int i = 1; i < k; i++) {
            words += typeAt(signature, i);
        }
        return words;
    }

    /** An import or a definition. */
    private static final class Item {
        // The module that an import is from; NONE for a definition.
        private int owner;
        private int name;
        // Two bits a type: the result's lowest, then those of the parameters.
        private int signature;
        // How many words the parameters have.
        private int words;
        private boolean exported;
        // Where a definition's expression begins in the text, then in the code.
        private int start;
        private int room;
    }

    /** A compiled module. */
    private static final class Unit {
        private int name;
        private int count;
        private final Item[] items = new Item[ITEMS];
        private int codeLength;
        private final int[] code = new int[CODE];

        private Unit() {
            for (int i = 0; i < ITEMS; i++) {
                items[i] = new Item();
            }
        }

        /** The import from that module, or the definition when owner is NONE; null when there is none. */
        private Item find(int owner, int name) {
            for (int i = 0; i < count; i++) {
                if (items[i].owner == owner && items[i].name == name) {
                    return items[i];
                }
            }
            return null;
        }

        private int countDefinitions() {
            int definitions = 0;
            for (int i = 0; i < count; i++) {
                if (items[i].owner == NONE) {
                    definitions++;
                }
            }
            return definitions;
        }

        private int emit(int kind, int operand) {
            int at = codeLength;
            if (at < CODE) {
                code[at] = kind | operand << KIND_BITS;
                codeLength++;
            }
            return at;
        }

        /** Makes a jump that was emitted without a target lead to the end of the code so far. */
        private void landHere(int jump) {
            if (jump < CODE) {
                code[jump] |= codeLength << KIND_BITS;
            }
        }
    }

    /**
     * Turns a text into a unit. The items' heads are read first, since a call may be of a definition
     * that stands later; then each expression is read, checked and turned into code in one go.
     */
    private static final class Compiler {
        // What is read behind the end: no character of a text.
        private static final char END = 0;

        private char[] text;
        private int length;
        private int at;
        private Unit unit;
        private boolean textWrong;
        private boolean typesWrong;
        private int signature;
        // The words that the expression has on the stack where the reading stands, and the most so far.
        private int held;
        private int room;

        private int compile(char[] characters, int count, Unit target) {
            text = characters;
            length = count;
            at = 0;
            unit = target;
            unit.count = 0;
            unit.codeLength = 0;
            textWrong = false;
            typesWrong = false;
            readHeads();
            for (int i = 0; i < unit.count && !textWrong; i++) {
                if (unit.items[i].owner == NONE) {
                    readBody(unit.items[i]);
                }
            }
            if (textWrong) {
                return TEXT_FAULT;
            }
            return typesWrong ? TYPE_FAULT : ACCEPTED;
        }

        private void readHeads() {
            unit.name = readAmong('A', 'F');
            for (int i = 0; i < ITEMS && (i == 0 || peek() == ';'); i++) {
                take(';');
                readHead(unit.items[i]);
                unit.count = i + 1;
            }
            if (peek() != END) {
                refuse();
            }
        }

        private void readHead(Item item) {
            item.owner = NONE;
            item.exported = false;
            if (takeIf('?')) {
                item.owner = readAmong('A', 'F');
                take('.');
            } else {
                item.exported = takeIf('+');
            }
            item.name = readAmong('a', 'z');
            // The item itself is not counted yet, so what is found is an earlier one.
            if (unit.find(item.owner, item.name) != null) {
                refuse();
            }
            item.signature = readSignature();
            item.words = wordsBefore(item.signature, PARAMETERS + 1);
            if (item.owner == NONE) {
                take('=');
                item.start = at;
                skipBody();
            }
        }

        // No expression holds a ; so its end is known before it is read.
        private void skipBody() {
            for (int i = at; i < length && text[i] != ';'; i++) {
                at = i + 1;
            }
        }

        private int readSignature() {
            int types = 0;
            take('(');
            for (int k = 1; k <= PARAMETERS && peek() != ')'; k++) {
                types |= readType() << (2 * k);
            }
            take(')');
            return types | readType();
        }

        private int readType() {
            if (takeIf('P')) {
                return PAIR;
            }
            take('I');
            return INT;
        }

        private void readBody(Item definition) {
            at = definition.start;
            definition.start = unit.codeLength;
            signature = definition.signature;
            held = 0;
            room = 0;
            need(typeAt(signature, 0), readExpression(0));
            if (peek() != END && peek() != ';') {
                refuse();
            }
            unit.emit(LEAVE, 0);
            definition.room = room;
        }

        private int readExpression(int depth) {
            int type = readProduct(depth);
            for (int i = 0; i < TEXT && (peek() == '+' || peek() == '-'); i++) {
                int kind = peek() == '+' ? ADD : SUBTRACT;
                at++;
                need(INT, type);
                hold(INT);
                type = readProduct(depth);
                need(INT, type);
                release(INT);
                unit.emit(kind, 0);
            }
            return type;
        }

        private int readProduct(int depth) {
            int type = readFactor(depth);
            for (int i = 0; i < TEXT && takeIf('*'); i++) {
                need(INT, type);
                hold(INT);
                type = readFactor(depth);
                need(INT, type);
                release(INT);
                unit.emit(MULTIPLY, 0);
            }
            return type;
        }

        private int readFactor(int depth) {
            int type = readWhole(depth);
            if (!takeIf('.')) {
                return type;
            }
            need(PAIR, type);
            // The first number of a pair stands already where an int does.
            if (!takeIf('0')) {
                take('1');
                unit.emit(TAKE_SECOND, 0);
            }
            return INT;
        }

        /** Reads a factor without what may stand behind it; depth counts the brackets round it. */
        private int readWhole(int depth) {
            char next = peek();
            if (isIn(next, '0', '9')) {
                return readNumber();
            }
            if (next == '$') {
                return readParameter();
            }
            // All others have brackets.
            if (depth >= DEEPEST) {
                return refuse();
            }
            if (isIn(next, 'a', 'z')) {
                return readCall(NONE, depth + 1);
            }
            if (isIn(next, 'A', 'F')) {
                int owner = readAmong('A', 'F');
                take('.');
                return readCall(owner, depth + 1);
            }
            switch (next) {
                case '(':
                    return readGroup(depth + 1);
                case '{':
                    return readPair(depth + 1);
                case '[':
                    return readChoice(depth + 1);
                default:
                    return refuse();
            }
        }

        private int readNumber() {
            int number = 0;
            for (int i = 0; i < 4 && isIn(peek(), '0', '9'); i++) {
                number = 10 * number + readAmong('0', '9');
            }
            unit.emit(NUMBER, number);
            return INT;
        }

        private int readParameter() {
            take('$');
            int k = 1 + readAmong('1', '3');
            int type = typeAt(signature, k);
            if (type == 0) {
                typesWrong = true;
                return INT;
            }
            unit.emit(type == PAIR ? PAIR_PARAMETER : INT_PARAMETER, wordsBefore(signature, k));
            return type;
        }

        private int readGroup(int depth) {
            take('(');
            int type = readExpression(depth);
            take(')');
            return type;
        }

        private int readPair(int depth) {
            take('{');
            need(INT, readExpression(depth));
            hold(INT);
            take(',');
            need(INT, readExpression(depth));
            release(INT);
            take('}');
            unit.emit(MAKE_PAIR, 0);
            return PAIR;
        }

        private int readChoice(int depth) {
            take('[');
            need(INT, readExpression(depth));
            int toThird = unit.emit(JUMP_IF_ZERO, 0);
            take('?');
            int type = readExpression(depth);
            int toEnd = unit.emit(JUMP, 0);
            take(':');
            unit.landHere(toThird);
            need(type, readExpression(depth));
            unit.landHere(toEnd);
            take(']');
            return type;
        }

        private int readCall(int owner, int depth) {
            int name = readAmong('a', 'z');
            Item called = unit.find(owner, name);
            int types = called == null ? 0 : called.signature;
            take('(');
            readArguments(types, depth);
            take(')');
            unit.emit(ENTER, (owner == NONE ? unit.name : owner) * LETTERS + name);
            if (called == null) {
                typesWrong = true;
                return INT;
            }
            return typeAt(types, 0);
        }

        private void readArguments(int types, int depth) {
            int count = 0;
            int words = 0;
            boolean more = peek() != ')';
            for (int i = 0; i < TEXT && more; i++) {
                int type = readExpression(depth);
                count++;
                need(typeAt(types, count), type);
                hold(type);
                words += type;
                more = takeIf(',');
            }
            need(0, typeAt(types, count + 1));
            release(words);
        }

        private void hold(int words) {
            held += words;
            room = Math.max(room, held);
            unit.emit(words == PAIR ? PUSH_PAIR : PUSH_INT, 0);
        }

        private void release(int words) {
            held -= words;
        }

        private void need(int wanted, int type) {
            if (wanted != type) {
                typesWrong = true;
            }
        }

        private char peek() {
            return at < length ? text[at] : END;
        }

        private boolean takeIf(char wanted) {
            if (at >= length || text[at] != wanted) {
                return false;
            }
            at++;
            return true;
        }

        private void take(char wanted) {
            if (!takeIf(wanted)) {
                refuse();
            }
        }

        /** The place of the next character among those from low to high. */
        private int readAmong(char low, char high) {
            char next = peek();
            if (!isIn(next, low, high)) {
                refuse();
                return 0;
            }
            at++;
            return next - low;
        }

        // To go to the end makes all that is still open stop at once. Answers some type.
        private int refuse() {
            textWrong = true;
            at = length;
            return INT;
        }

        private static boolean isIn(char character, char low, char high) {
            return character >= low && character <= high;
        }
    }

    /** Works code out. What has been worked out last stands in two registers, beside the stack. */
    private static final class Machine {
        private final int size;
        private Unit[] units;
        // The height is checked when a function is entered, for all that its own expression puts.
        private final int[] stack = new int[LARGEST_STACK];
        private int height;
        private int base;
        private Unit unit;
        private int next;
        private int first;
        private int second;
        private int fuel;
        private int outcome;
        private int most;
        private int spent;
        private int firstResult;
        private int secondResult;

        private Machine(int size) {
            this.size = size;
        }

        private void load(int a, int b, int c, int d) {
            stack[0] = a;
            stack[1] = b;
            stack[2] = c;
            stack[3] = d;
        }

        /** Calls a definition of module m whose parameters have been loaded. */
        private int run(Unit[] all, int m, Item definition, int fuelGiven) {
            units = all;
            height = definition.words;
            base = 0;
            fuel = fuelGiven;
            most = 0;
            spent = 0;
            outcome = RUNNING;
            enter(all[m], definition, NONE);
            for (int i = 0; i < MOST_STEPS && outcome == RUNNING; i++) {
                step();
            }
            boolean done = outcome == DONE;
            firstResult = done ? first : 0;
            secondResult = done && typeAt(definition.signature, 0) == PAIR ? second : 0;
            return outcome;
        }

        /** The two words of an entering are where to go on afterwards, and the caller's base. */
        private void enter(Unit home, Item definition, int goOn) {
            if (spent == fuel) {
                outcome = FUEL_OUT;
                return;
            }
            spent++;
            int needed = height + 2 + definition.room;
            if (needed > size) {
                outcome = STACK_OVER;
                return;
            }
            most = Math.max(most, needed);
            int arguments = height - definition.words;
            push(goOn);
            push(base);
            base = arguments;
            unit = home;
            next = definition.start;
        }

        private void leave() {
            int callersBase = pop();
            int goOn = pop();
            height = base;
            base = callersBase;
            // NONE, where the function that was called first goes on, is no place in the code.
            if (goOn < 0 || goOn >= MODULES * CODE) {
                outcome = DONE;
                return;
            }
            unit = units[goOn / CODE];
            next = goOn % CODE;
        }

        private void step() {
            int instruction = next < CODE ? unit.code[next] : LEAVE;
            int operand = instruction >> KIND_BITS;
            next++;
            switch (instruction & KIND_MASK) {
                case NUMBER:
                    first = operand;
                    break;
                case INT_PARAMETER:
                    first = wordAt(base + operand);
                    break;
                case PAIR_PARAMETER:
                    first = wordAt(base + operand);
                    second = wordAt(base + operand + 1);
                    break;
                case PUSH_INT:
                    push(first);
                    break;
                case PUSH_PAIR:
                    push(first);
                    push(second);
                    break;
                case ADD:
                    first = pop() + first;
                    break;
                case SUBTRACT:
                    first = pop() - first;
                    break;
                case MULTIPLY:
                    first = pop() * first;
                    break;
                case MAKE_PAIR:
                    second = first;
                    first = pop();
                    break;
                case TAKE_SECOND:
                    first = second;
                    break;
                case JUMP_IF_ZERO:
                    next = first == 0 ? operand : next;
                    break;
                case JUMP:
                    next = operand;
                    break;
                case ENTER:
                    enterNamed(operand / LETTERS, operand % LETTERS);
                    break;
                default:
                    leave();
                    break;
            }
        }

        private void enterNamed(int m, int name) {
            // What is linked has it; the tests only keep a wrong index and a null from being used.
            Item definition = m >= 0 && m < MODULES ? units[m].find(NONE, name) : null;
            if (definition == null) {
                outcome = STACK_OVER;
                return;
            }
            enter(units[m], definition, unit.name * CODE + next);
        }

        private int wordAt(int place) {
            return place >= 0 && place < LARGEST_STACK ? stack[place] : 0;
        }

        private void push(int word) {
            if (height < LARGEST_STACK) {
                stack[height] = word;
                height++;
            }
        }

        private int pop() {
            if (height == 0) {
                return 0;
            }
            height--;
            return stack[height];
        }
    }
}
