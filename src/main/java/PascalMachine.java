import java.util.NoSuchElementException;

/**
 * A compiler and machine for a small language of nested procedures.
 *
 * Every row is made in a constructor and used again, so that no call makes
 * an object but the exception that it may throw.
 */
public final class PascalMachine {
    private static final int MAX_TEXT = 300;
    private static final int MAX_APPENDED = 8;
    private static final int LOWEST_CODE = 32;
    private static final int HIGHEST_CODE = 126;
    private static final int MAX_TOKENS = 150;
    private static final int MAX_WORD = 6;
    private static final int MAX_DIGITS = 9;
    private static final int MAX_VARIABLES = 12;
    private static final int MAX_PROCEDURES = 6;
    private static final int MAX_PARAMETERS = 3;
    private static final int MAX_BLOCKS = 4;
    private static final int MAX_BRACKETS = 8;
    private static final int MAX_NESTED = 8;
    private static final int MAX_OUTPUT = 32;
    private static final int MAX_STEPS = 400;
    private static final int MAX_CALLS = 10;

    private final char[] text = new char[MAX_TEXT];
    private int length = 0;
    private final Compiler compiler = new Compiler();
    private final Machine machine = new Machine();
    private boolean hasProgram = false;

    public PascalMachine() {
    }

    public int append(long value, int n) throws IllegalArgumentException, IllegalStateException {
        if (n < 1 || n > MAX_APPENDED || !hasOnlyCodes(value, n)) {
            throw new IllegalArgumentException();
        }
        if (length + n > MAX_TEXT) {
            throw new IllegalStateException();
        }
        for (int i = n - 1; i >= 0; i--) {
            text[length] = (char) byteAt(value, i);
            length++;
        }
        return length;
    }

    public int cut(int n) throws IllegalArgumentException {
        if (n < 0 || n > length) {
            throw new IllegalArgumentException();
        }
        length -= n;
        return length;
    }

    public int compile() throws IllegalArgumentException {
        int declared = compiler.translate(text, length);
        // The two codes change places, so that the next text, which may turn
        // out to have a fault, is not written over the program.
        Code replaced = machine.program;
        machine.program = compiler.code;
        compiler.code = replaced;
        hasProgram = true;
        return declared;
    }

    public int fault() {
        return compiler.faultPlace;
    }

    public int run() throws NoSuchElementException, ArithmeticException, IllegalStateException, IndexOutOfBoundsException {
        if (!hasProgram) {
            throw new NoSuchElementException();
        }
        machine.execute();
        return machine.written;
    }

    public int output(int index) throws NoSuchElementException {
        if (index < 0 || index >= machine.written) {
            throw new NoSuchElementException();
        }
        return machine.values[index];
    }

    public int count(int what) throws IllegalArgumentException {
        switch (what) {
            case 0:
                return machine.written;
            case 1:
                return machine.lost;
            case 2:
                return machine.steps;
            case 3:
                return machine.deepest;
            case 4:
                return length;
            default:
                throw new IllegalArgumentException();
        }
    }

    private static boolean hasOnlyCodes(long value, int n) {
        for (int i = 0; i < n; i++) {
            int code = byteAt(value, i);
            if (code < LOWEST_CODE || code > HIGHEST_CODE) {
                return false;
            }
        }
        return true;
    }

    private static int byteAt(long value, int index) {
        return (int) (value >>> (8 * index)) & 255;
    }

    /** What a token can be; those with a spelling are known by it alone. */
    private enum Kind {
        VAR("var"), PROC("proc"), BEGIN("begin"), END("end"), IF("if"), THEN("then"), ELSE("else"),
        WHILE("while"), DO("do"), WRITE("write"),
        ASSIGN(":="), SEMICOLON(";"), COMMA(","), OPEN("("), CLOSE(")"), DOT("."),
        EQUAL("="), LESS("<"), GREATER(">"),
        PLUS("+"), MINUS("-"), TIMES("*"), OVER("/"), REST("%"), AT("@"),
        NAME(""), NUMBER(""), NO_TOKEN(""), NOTHING("");

        final String spelling;

        Kind(String spelling) {
            this.spelling = spelling;
        }
    }

    /**
     * The tokens of a text, of which one is the current one. What ends them,
     * the text's end or what is no token, is the last of them: whether that is
     * the fault is left to the grammar.
     */
    private static final class Tokens {
        private static final Kind[] KINDS = Kind.values();

        private final Kind[] kinds = new Kind[MAX_TOKENS + 1];
        private final int[] places = new int[MAX_TOKENS + 1];
        private final long[] contents = new long[MAX_TOKENS + 1];
        private char[] text = new char[0];
        private int length = 0;
        private int end = 0;
        private int current = 0;

        void read(char[] text, int length) {
            this.text = text;
            this.length = length;
            end = 0;
            current = 0;
            boolean hasMore = true;
            for (int i = 0; i <= MAX_TOKENS && hasMore; i++) {
                kinds[i] = readToken(i);
                hasMore = kinds[i] != Kind.NOTHING && kinds[i] != Kind.NO_TOKEN;
            }
        }

        private Kind readToken(int index) {
            int place = behindBlanks();
            if (place == length) {
                // A token that lacks has its place behind the last one, not behind the blanks.
                places[index] = end;
                return Kind.NOTHING;
            }
            places[index] = place;
            if (index == MAX_TOKENS) {
                return Kind.NO_TOKEN;
            }
            if (isLetter(text[place])) {
                return readWord(index, place);
            }
            return isDigit(text[place]) ? readNumber(index, place) : readSign(place);
        }

        private int behindBlanks() {
            int place = end;
            while (place < length && text[place] == ' ') {
                place++;
            }
            return place;
        }

        private Kind readWord(int index, int place) {
            long word = 0;
            for (end = place; end < length && (isLetter(text[end]) || isDigit(text[end])); end++) {
                word = word << 8 | text[end];
            }
            contents[index] = word;
            return end - place > MAX_WORD ? Kind.NO_TOKEN : kindSpelled(place, Kind.NAME);
        }

        private Kind readNumber(int index, int place) {
            long number = 0;
            for (end = place; end < length && isDigit(text[end]); end++) {
                number = number * 10 + (text[end] - '0');
            }
            contents[index] = number;
            return end - place > MAX_DIGITS ? Kind.NO_TOKEN : Kind.NUMBER;
        }

        private Kind readSign(int place) {
            end = Math.min(length, place + (text[place] == ':' ? 2 : 1));
            return kindSpelled(place, Kind.NO_TOKEN);
        }

        private Kind kindSpelled(int place, Kind otherwise) {
            for (int i = 0; i < KINDS.length; i++) {
                if (isSpelled(place, KINDS[i].spelling)) {
                    return KINDS[i];
                }
            }
            return otherwise;
        }

        private boolean isSpelled(int place, String spelling) {
            if (spelling.length() != end - place) {
                return false;
            }
            for (int i = 0; i < spelling.length(); i++) {
                if (spelling.charAt(i) != text[place + i]) {
                    return false;
                }
            }
            return true;
        }

        private static boolean isLetter(char c) {
            return c >= 'a' && c <= 'z';
        }

        private static boolean isDigit(char c) {
            return c >= '0' && c <= '9';
        }

        Kind kind() {
            return kinds[current];
        }

        int place() {
            return places[current];
        }

        /** A name's characters, packed, or a number's value. */
        long content() {
            return contents[current];
        }

        boolean isBefore(Kind kind) {
            return current < MAX_TOKENS && kinds[current + 1] == kind;
        }

        /** To be called at a token alone, and so never at the last one. */
        void advance() {
            if (current < MAX_TOKENS) {
                current++;
            }
        }

        boolean accept(Kind kind) {
            if (kinds[current] != kind) {
                return false;
            }
            advance();
            return true;
        }
    }

    /**
     * The names that are known where the compiler stands: those of the blocks
     * around, the innermost block's last. The limits are of the whole text, so
     * what was declared is counted apart from what is known.
     */
    private static final class Names {
        static final int VARIABLE = 0;
        static final int REFERENCE = 1;
        static final int PROCEDURE = 2;

        private final long[] words = new long[MAX_VARIABLES + MAX_PROCEDURES];
        private final int[] kinds = new int[MAX_VARIABLES + MAX_PROCEDURES];
        private final int[] levels = new int[MAX_VARIABLES + MAX_PROCEDURES];
        private final int[] numbers = new int[MAX_VARIABLES + MAX_PROCEDURES];
        private final int[] slots = new int[MAX_BLOCKS];
        private int known = 0;
        private int level = 0;
        private int variables = 0;
        private int procedures = 0;

        void clear() {
            known = 0;
            level = 0;
            slots[level] = 0;
            variables = 0;
            procedures = 0;
        }

        int declared() {
            return variables + procedures;
        }

        void open() {
            if (level < MAX_BLOCKS - 1) {
                level++;
                slots[level] = 0;
            }
        }

        void close() {
            while (known > 0 && levels[known - 1] == level) {
                known--;
            }
            level--;
        }

        /** Answers whether the name could be declared in the innermost block. */
        boolean declare(long word, int kind) {
            int same = find(word);
            boolean isTwice = same >= 0 && levels[same] == level;
            if (isTwice || isFull(kind)) {
                return false;
            }
            words[known] = word;
            kinds[known] = kind;
            levels[known] = level;
            numbers[known] = kind == PROCEDURE ? procedures : slots[level];
            known++;
            if (kind == PROCEDURE) {
                procedures++;
            } else {
                variables++;
                slots[level]++;
            }
            return true;
        }

        private boolean isFull(int kind) {
            return kind == PROCEDURE ? procedures == MAX_PROCEDURES : variables == MAX_VARIABLES;
        }

        /** Answers the index of what the name stands for, or -1. */
        int find(long word) {
            for (int i = known - 1; i >= 0; i--) {
                if (words[i] == word) {
                    return i;
                }
            }
            return -1;
        }

        boolean isProcedure(int index) {
            return kinds[index] == PROCEDURE;
        }

        boolean isReference(int index) {
            return kinds[index] == REFERENCE;
        }

        /** How many blocks one must go outward to come to the one that declares the name. */
        int hops(int index) {
            return level - levels[index];
        }

        /** The slot of a variable or parameter in its block, or the number of a procedure. */
        int number(int index) {
            return numbers[index];
        }

        int lastProcedure() {
            return procedures - 1;
        }
    }

    /** A program in instructions of an operation and two operands each. */
    private static final class Code {
        static final int STEP = 0;
        static final int PUSH = 1;
        static final int LOAD = 2;
        static final int LOAD_THROUGH = 3;
        static final int ADDRESS = 4;
        static final int STORE = 5;
        static final int STORE_THROUGH = 6;
        static final int NEGATE = 7;
        static final int ADD = 8;
        static final int SUBTRACT = 9;
        static final int MULTIPLY = 10;
        static final int DIVIDE = 11;
        static final int REMAINDER = 12;
        static final int EQUAL = 13;
        static final int LESS = 14;
        static final int GREATER = 15;
        static final int JUMP = 16;
        static final int JUMP_UNLESS = 17;
        static final int CALL = 18;
        static final int RETURN = 19;
        static final int WRITE = 20;

        // No token brings more than two instructions.
        private static final int CAPACITY = 2 * MAX_TOKENS;

        final int[] operations = new int[CAPACITY];
        final int[] firsts = new int[CAPACITY];
        final int[] seconds = new int[CAPACITY];
        final int[] entries = new int[MAX_PROCEDURES];
        final int[] parameters = new int[MAX_PROCEDURES];
        // Bit i tells whether parameter i is one by reference.
        final int[] references = new int[MAX_PROCEDURES];
        int size = 0;
        int start = 0;

        /** Answers where the instruction stands. */
        int add(int operation, int first, int second) {
            int at = size;
            if (at < CAPACITY) {
                operations[at] = operation;
                firsts[at] = first;
                seconds[at] = second;
                size++;
            }
            return at;
        }

        boolean isReference(int procedure, int parameter) {
            return parameter < MAX_PARAMETERS && (references[procedure] >> parameter & 1) == 1;
        }

        void jumpToEnd(int at) {
            if (at < size) {
                firsts[at] = size;
            }
        }

        /** Makes of an instruction that loads a variable one that tells where the variable is. */
        void takeAddress(int at) {
            if (at < size) {
                // What is by reference has the address itself in its cell.
                operations[at] = operations[at] == LOAD_THROUGH ? LOAD : ADDRESS;
            }
        }
    }

    /**
     * Reads a text by the grammar, a method for each of its words, and writes
     * the code as it goes. The first fault ends the reading by an exception
     * that goes on to the caller of compile.
     */
    private static final class Compiler {
        private final Tokens tokens = new Tokens();
        private final Names names = new Names();
        Code code = new Code();
        int faultPlace = -1;

        /** Answers how many names the text declares. */
        int translate(char[] text, int length) {
            tokens.read(text, length);
            names.clear();
            code.size = 0;
            code.start = block(1);
            expect(Kind.DOT);
            if (tokens.kind() != Kind.NOTHING) {
                refuse(tokens.place());
            }
            faultPlace = -1;
            return names.declared();
        }

        private void refuse(int place) {
            faultPlace = place;
            throw new IllegalArgumentException();
        }

        private void expect(Kind kind) {
            if (!tokens.accept(kind)) {
                refuse(tokens.place());
            }
        }

        private void declareName(int kind) {
            if (tokens.kind() != Kind.NAME || !names.declare(tokens.content(), kind)) {
                refuse(tokens.place());
            }
            tokens.advance();
        }

        /** Answers where the code of the block's own statements begins. */
        private int block(int depth) {
            if (tokens.accept(Kind.VAR)) {
                variables();
            }
            for (int i = 0; i < MAX_TOKENS && tokens.kind() == Kind.PROC; i++) {
                procedure(depth);
            }
            int entry = code.size;
            expect(Kind.BEGIN);
            statements(0);
            code.add(Code.RETURN, 0, 0);
            return entry;
        }

        private void variables() {
            declareName(Names.VARIABLE);
            for (int i = 0; i < MAX_TOKENS && tokens.accept(Kind.COMMA); i++) {
                declareName(Names.VARIABLE);
            }
            expect(Kind.SEMICOLON);
        }

        private void procedure(int depth) {
            if (depth == MAX_BLOCKS) {
                refuse(tokens.place());
            }
            tokens.advance();
            declareName(Names.PROCEDURE);
            int procedure = names.lastProcedure();
            code.parameters[procedure] = 0;
            code.references[procedure] = 0;
            names.open();
            if (tokens.accept(Kind.OPEN)) {
                parameters(procedure);
            }
            expect(Kind.SEMICOLON);
            code.entries[procedure] = block(depth + 1);
            names.close();
            expect(Kind.SEMICOLON);
        }

        private void parameters(int procedure) {
            parameter(procedure);
            for (int i = 0; i < MAX_TOKENS && tokens.accept(Kind.COMMA); i++) {
                parameter(procedure);
            }
            expect(Kind.CLOSE);
        }

        private void parameter(int procedure) {
            boolean isReference = tokens.accept(Kind.AT);
            int index = code.parameters[procedure];
            if (index == MAX_PARAMETERS) {
                refuse(tokens.place());
            }
            declareName(isReference ? Names.REFERENCE : Names.VARIABLE);
            if (isReference) {
                code.references[procedure] |= 1 << index;
            }
            code.parameters[procedure]++;
        }

        /** Reads what stands between a begin and its end, and the end. */
        private void statements(int depth) {
            statement(depth);
            for (int i = 0; i < MAX_TOKENS && tokens.accept(Kind.SEMICOLON); i++) {
                statement(depth);
            }
            expect(Kind.END);
        }

        /** The depth is the number of begin, if and while around the statement. */
        private void statement(int depth) {
            switch (tokens.kind()) {
                case NAME:
                    if (tokens.isBefore(Kind.ASSIGN)) {
                        assignment();
                    } else {
                        procedureCall();
                    }
                    break;
                case BEGIN:
                    goDeeper(depth);
                    statements(depth + 1);
                    break;
                case IF:
                    goDeeper(depth);
                    ifStatement(depth + 1);
                    break;
                case WHILE:
                    goDeeper(depth);
                    whileStatement(depth + 1);
                    break;
                case WRITE:
                    tokens.advance();
                    writeStatement();
                    break;
                default:
                    break;
            }
        }

        private void goDeeper(int depth) {
            if (depth == MAX_NESTED) {
                refuse(tokens.place());
            }
            tokens.advance();
        }

        private void assignment() {
            int name = names.find(tokens.content());
            if (name < 0 || names.isProcedure(name)) {
                refuse(tokens.place());
            }
            code.add(Code.STEP, 0, 0);
            tokens.advance();
            expect(Kind.ASSIGN);
            expression(0);
            int operation = names.isReference(name) ? Code.STORE_THROUGH : Code.STORE;
            code.add(operation, names.hops(name), names.number(name));
        }

        private void procedureCall() {
            int place = tokens.place();
            int name = names.find(tokens.content());
            if (name < 0 || !names.isProcedure(name)) {
                refuse(place);
            }
            code.add(Code.STEP, 0, 0);
            tokens.advance();
            int procedure = names.number(name);
            if (arguments(procedure) != code.parameters[procedure]) {
                refuse(place);
            }
            code.add(Code.CALL, names.hops(name), procedure);
        }

        /** Answers how many arguments there are. */
        private int arguments(int procedure) {
            if (!tokens.accept(Kind.OPEN)) {
                return 0;
            }
            int read = 0;
            boolean hasMore = true;
            while (hasMore && read < MAX_TOKENS) {
                boolean isName = tokens.kind() == Kind.NAME;
                int place = tokens.place();
                int at = code.size;
                expression(0);
                if (code.isReference(procedure, read)) {
                    // An expression that begins with a name and is one instruction is that name.
                    if (!isName || code.size != at + 1) {
                        refuse(place);
                    }
                    code.takeAddress(at);
                }
                read++;
                hasMore = tokens.accept(Kind.COMMA);
            }
            expect(Kind.CLOSE);
            return read;
        }

        private void ifStatement(int depth) {
            code.add(Code.STEP, 0, 0);
            int toElse = condition();
            expect(Kind.THEN);
            statement(depth);
            if (tokens.accept(Kind.ELSE)) {
                int toEnd = code.add(Code.JUMP, 0, 0);
                code.jumpToEnd(toElse);
                statement(depth);
                code.jumpToEnd(toEnd);
            } else {
                code.jumpToEnd(toElse);
            }
        }

        private void whileStatement(int depth) {
            int test = code.add(Code.STEP, 0, 0);
            int toEnd = condition();
            expect(Kind.DO);
            statement(depth);
            code.add(Code.JUMP, test, 0);
            code.jumpToEnd(toEnd);
        }

        private void writeStatement() {
            code.add(Code.STEP, 0, 0);
            expect(Kind.OPEN);
            expression(0);
            expect(Kind.CLOSE);
            code.add(Code.WRITE, 0, 0);
        }

        /** Answers where the jump stands that is made if the condition does not hold. */
        private int condition() {
            expression(0);
            int comparison = comparison();
            if (comparison < 0) {
                refuse(tokens.place());
            }
            tokens.advance();
            expression(0);
            code.add(comparison, 0, 0);
            return code.add(Code.JUMP_UNLESS, 0, 0);
        }

        private int comparison() {
            switch (tokens.kind()) {
                case EQUAL:
                    return Code.EQUAL;
                case LESS:
                    return Code.LESS;
                case GREATER:
                    return Code.GREATER;
                default:
                    return -1;
            }
        }

        /** The depth is the number of brackets around the expression. */
        private void expression(int depth) {
            boolean isNegative = tokens.accept(Kind.MINUS);
            term(depth);
            if (isNegative) {
                code.add(Code.NEGATE, 0, 0);
            }
            for (int i = 0; i < MAX_TOKENS && (tokens.kind() == Kind.PLUS || tokens.kind() == Kind.MINUS); i++) {
                int operation = tokens.kind() == Kind.PLUS ? Code.ADD : Code.SUBTRACT;
                tokens.advance();
                term(depth);
                code.add(operation, 0, 0);
            }
        }

        private void term(int depth) {
            factor(depth);
            int operation = multiplication();
            for (int i = 0; i < MAX_TOKENS && operation >= 0; i++) {
                tokens.advance();
                factor(depth);
                code.add(operation, 0, 0);
                operation = multiplication();
            }
        }

        private int multiplication() {
            switch (tokens.kind()) {
                case TIMES:
                    return Code.MULTIPLY;
                case OVER:
                    return Code.DIVIDE;
                case REST:
                    return Code.REMAINDER;
                default:
                    return -1;
            }
        }

        private void factor(int depth) {
            switch (tokens.kind()) {
                case NUMBER:
                    code.add(Code.PUSH, (int) tokens.content(), 0);
                    tokens.advance();
                    break;
                case NAME:
                    variable();
                    break;
                case OPEN:
                    if (depth == MAX_BRACKETS) {
                        refuse(tokens.place());
                    }
                    tokens.advance();
                    expression(depth + 1);
                    expect(Kind.CLOSE);
                    break;
                default:
                    refuse(tokens.place());
            }
        }

        private void variable() {
            int name = names.find(tokens.content());
            if (name < 0 || names.isProcedure(name)) {
                refuse(tokens.place());
            }
            int operation = names.isReference(name) ? Code.LOAD_THROUGH : Code.LOAD;
            code.add(operation, names.hops(name), names.number(name));
            tokens.advance();
        }
    }

    /**
     * Runs a program. Frame d holds the variables of the d-th call within one
     * another, frame 0 those of the program; a reference is an index of a cell.
     */
    private static final class Machine {
        private static final int FRAMES = MAX_CALLS + 1;
        private static final int CELLS = FRAMES * MAX_VARIABLES;
        // Inside and outside of each bracket a sum and a product may wait, behind
        // earlier arguments or a condition's left side, for the last operand.
        private static final int STACK = 2 * (MAX_BRACKETS + 1) + MAX_PARAMETERS;
        // A step, a return or the start is followed by less than a code's length
        // of instructions before the next one, so no run comes near this.
        private static final int MAX_INSTRUCTIONS = 1000000;

        Code program = new Code();
        private final int[] cells = new int[CELLS];
        private final int[] outerFrames = new int[FRAMES];
        private final int[] returns = new int[FRAMES];
        private final int[] stack = new int[STACK];
        private int top = 0;
        private int depth = 0;
        private int next = 0;
        final int[] values = new int[MAX_OUTPUT];
        int written = 0;
        int lost = 0;
        int steps = 0;
        int deepest = 0;

        /** A failure ends it by an exception that goes on to the caller of run. */
        void execute() {
            begin();
            for (int i = 0; i < MAX_INSTRUCTIONS && next < program.size; i++) {
                int at = next;
                next++;
                perform(program.operations[at], program.firsts[at], program.seconds[at]);
            }
        }

        private void begin() {
            next = program.start;
            top = 0;
            depth = 0;
            written = 0;
            lost = 0;
            steps = 0;
            deepest = 0;
            clearFrame();
        }

        private void clearFrame() {
            for (int i = 0; i < MAX_VARIABLES; i++) {
                store(depth * MAX_VARIABLES + i, 0);
            }
        }

        private void perform(int operation, int first, int second) {
            switch (operation) {
                case Code.STEP:
                    takeStep();
                    break;
                case Code.PUSH:
                    push(first);
                    break;
                case Code.LOAD:
                    push(load(address(first, second)));
                    break;
                case Code.LOAD_THROUGH:
                    push(load(load(address(first, second))));
                    break;
                case Code.ADDRESS:
                    push(address(first, second));
                    break;
                case Code.STORE:
                    store(address(first, second), pop());
                    break;
                case Code.STORE_THROUGH:
                    store(load(address(first, second)), pop());
                    break;
                case Code.NEGATE:
                    push(-pop());
                    break;
                case Code.JUMP:
                    next = first;
                    break;
                case Code.JUMP_UNLESS:
                    next = pop() == 0 ? first : next;
                    break;
                case Code.CALL:
                    enter(frameOutward(first), second);
                    break;
                case Code.RETURN:
                    leave();
                    break;
                case Code.WRITE:
                    put(pop());
                    break;
                default:
                    combine(operation);
            }
        }

        private void takeStep() {
            if (steps == MAX_STEPS) {
                throw new IllegalStateException();
            }
            steps++;
        }

        private void combine(int operation) {
            int right = pop();
            int left = pop();
            if (operation >= Code.EQUAL) {
                push(isTrue(operation, left, right) ? 1 : 0);
            } else {
                push(calculate(operation, left, right));
            }
        }

        private static boolean isTrue(int comparison, int left, int right) {
            switch (comparison) {
                case Code.EQUAL:
                    return left == right;
                case Code.LESS:
                    return left < right;
                default:
                    return left > right;
            }
        }

        private static int calculate(int operation, int left, int right) {
            switch (operation) {
                case Code.ADD:
                    return left + right;
                case Code.SUBTRACT:
                    return left - right;
                case Code.MULTIPLY:
                    return left * right;
                default:
                    return divide(operation == Code.DIVIDE, left, right);
            }
        }

        private static int divide(boolean isQuotient, int left, int right) {
            if (right == 0) {
                throw new ArithmeticException();
            }
            return isQuotient ? left / right : left % right;
        }

        private void enter(int outerFrame, int procedure) {
            if (depth == MAX_CALLS) {
                throw new IndexOutOfBoundsException();
            }
            depth++;
            deepest = Math.max(deepest, depth);
            outerFrames[depth] = outerFrame;
            returns[depth] = next;
            clearFrame();
            for (int i = program.parameters[procedure] - 1; i >= 0; i--) {
                store(depth * MAX_VARIABLES + i, pop());
            }
            next = program.entries[procedure];
        }

        private void leave() {
            if (depth == 0) {
                next = program.size;
            } else {
                next = returns[depth];
                depth--;
            }
        }

        private void put(int value) {
            if (written < MAX_OUTPUT) {
                values[written] = value;
                written++;
            } else {
                lost++;
            }
        }

        private int frameOutward(int hops) {
            int frame = depth;
            for (int i = 0; i < hops; i++) {
                frame = outerFrames[frame];
            }
            return frame;
        }

        private int address(int hops, int slot) {
            return frameOutward(hops) * MAX_VARIABLES + slot;
        }

        private int load(int address) {
            return address >= 0 && address < CELLS ? cells[address] : 0;
        }

        private void store(int address, int value) {
            if (address >= 0 && address < CELLS) {
                cells[address] = value;
            }
        }

        private void push(int value) {
            if (top < STACK) {
                stack[top] = value;
                top++;
            }
        }

        private int pop() {
            if (top == 0) {
                return 0;
            }
            top--;
            return stack[top];
        }
    }
}
