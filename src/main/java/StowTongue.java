import java.util.ArrayList;
import java.util.Arrays;

/**
 * A small language whose objects stay from program to program. Each program is done whole or not at
 * all, what it leaves waits in a log till it is safe, and a loss of power takes back what waits.
 */
public final class StowTongue {
    public static final int REFUSED = -1, NONE = -2, FULL = -3;

    private static final int MOST_TAPE = 1500;
    private static final int FEED_BYTES = 20;
    private static final int MOST_FUEL = 2000;
    private static final int FAULT_BASE = 100;
    private static final long BEYOND_INTS = 1L << 40;

    private final byte[] tape;
    private int tapeSize;
    private final Out out;
    private final Parser parser;
    private final Machine machine;
    private final Log log;
    private final Sweeper sweeper;
    private long valueHead;
    private long valueTail;
    private int fuelTaken;

    public StowTongue() {
        tape = new byte[MOST_TAPE];
        out = new Out();
        parser = new Parser();
        machine = new Machine();
        log = new Log();
        sweeper = new Sweeper();
    }

    public int feed(int a, int b, int c, int d, int e) {
        if (tapeSize + FEED_BYTES > MOST_TAPE) {
            return FULL;
        }
        addFour(a);
        addFour(b);
        addFour(c);
        addFour(d);
        addFour(e);
        return tapeSize;
    }

    private void addFour(int bytes) {
        for (int shift = 24; shift >= 0 && tapeSize < MOST_TAPE; shift -= 8) {
            tape[tapeSize] = (byte) (bytes >> shift);
            tapeSize++;
        }
    }

    public int end(int n) {
        if (n < 0 || n > tapeSize) {
            return REFUSED;
        }
        tapeSize = n;
        return n;
    }

    public int run(int fuel) {
        if (fuel < 0 || fuel > MOST_FUEL) {
            return REFUSED;
        }
        int fault = parser.read(tape, tapeSize);
        tapeSize = 0;
        if (fault >= 0) {
            return FAULT_BASE + fault;
        }
        out.clear();
        forgetLatestRun();
        Store after = log.workCopy();
        if (!parser.tellInto(after)) {
            return Machine.NO_PLACE;
        }
        int error = machine.perform(parser.program(), after, out, fuel);
        fuelTaken = machine.taken();
        if (error == 0) {
            valueHead = machine.resultHead();
            valueTail = machine.resultTail();
            log.append(Log.commitBytes(log.latest(), after, parser.toldTokens()));
        }
        return error;
    }

    private void forgetLatestRun() {
        fuelTaken = 0;
        valueHead = 0;
        valueTail = 0;
    }

    public long value() {
        if (Cell.sortOf(valueHead) == Cell.TEXT) {
            out.clear();
            out.addText(valueHead, valueTail);
        }
        return asAnswer(valueHead, valueTail);
    }

    private static long asAnswer(long head, long tail) {
        switch (Cell.sortOf(head)) {
            case Cell.INT:
                return tail;
            case Cell.TEXT:
                return BEYOND_INTS + 1;
            case Cell.RECORD:
                return BEYOND_INTS + 2;
            case Cell.ROW:
                return BEYOND_INTS + 3;
            default:
                return BEYOND_INTS;
        }
    }

    public int octet(int k) {
        if (k == -1) {
            return out.size();
        }
        return k >= 0 && k < out.size() ? out.byteAt(k) : NONE;
    }

    public long root() {
        long name = Lexer.wholeName(tape, tapeSize);
        tapeSize = 0;
        Store store = log.latest();
        int at = name == 0 ? -1 : store.rootAt(name);
        if (at < 0) {
            return BEYOND_INTS;
        }
        long head = store.rootHead[at];
        long tail = store.rootTail[at];
        long signs = Cell.sortOf(head) == Cell.TEXT ? Cell.signsOf(head, tail) : 0;
        return asAnswer(head, tail) + 8 * signs;
    }

    public int sync() {
        int waited = log.waiting();
        log.settle(waited);
        return waited;
    }

    public int crash(int n) {
        if (n < 0) {
            return REFUSED;
        }
        int left = log.wholeWithin(n);
        log.settle(left);
        log.loseWaiting();
        return left;
    }

    public int sweep() {
        Store after = log.workCopy();
        int gone = sweeper.clean(after);
        if (gone > 0) {
            log.append(Log.SWEEP_BYTES);
        }
        return gone;
    }

    public int count(int what) {
        Store store = log.latest();
        switch (what) {
            case 0:
                return store.objects();
            case 1:
                return store.roots();
            case 2:
                return store.functions();
            case 3:
                return store.functionTokens();
            case 4:
                return log.safeBytes() + log.waitingBytes();
            case 5:
                return log.waitingBytes();
            case 6:
                return log.waiting();
            case 7:
                return fuelTaken;
            default:
                return REFUSED;
        }
    }

    /**
     * A VALUE lies in two longs, so that none is ever made as an object: the sort in the top byte of
     * the head; a text's signs by seven bits from the left, eight in the head and eight in the tail;
     * an int, or an OBJECT's number, in the tail. So two VALUES are the same if both longs are, and
     * two ints or two texts have the order of their longs. nil is 0 and 0.
     */
    private static final class Cell {
        static final int NIL = 0, INT = 1, TEXT = 2, RECORD = 3, ROW = 4;
        static final int MOST_SIGNS = 16;
        private static final int SORT_SHIFT = 56;
        private static final int SIGN_BITS = 7;

        static long headOf(int sort) {
            return (long) sort << SORT_SHIFT;
        }

        static int sortOf(long head) {
            return (int) (head >>> SORT_SHIFT);
        }

        static boolean isObject(long head) {
            int sort = sortOf(head);
            return sort == RECORD || sort == ROW;
        }

        static boolean isTrue(long head, long tail) {
            int sort = sortOf(head);
            return sort != NIL && (sort != INT || tail != 0);
        }

        /** The bits that sign number at of a text adds to its half. */
        static long placed(int sign, int at) {
            return (long) sign << (SIGN_BITS * (7 - (at & 7)));
        }

        static int signAt(long head, long tail, int at) {
            long half = at < 8 ? head : tail;
            return (int) (half >>> (SIGN_BITS * (7 - (at & 7)))) & 127;
        }

        static int signsOf(long head, long tail) {
            for (int i = 0; i < MOST_SIGNS; i++) {
                if (signAt(head, tail, i) == 0) {
                    return i;
                }
            }
            return MOST_SIGNS;
        }
    }

    private static final class Out {
        private static final int MOST = 600;

        private final byte[] bytes = new byte[MOST];
        private int size;
        private boolean spilled;

        void clear() {
            size = 0;
            spilled = false;
        }

        int size() {
            return size;
        }

        /** Whether there was a byte too many since the last clear. */
        boolean spilled() {
            return spilled;
        }

        int byteAt(int at) {
            return at >= 0 && at < size ? bytes[at] : NONE;
        }

        void add(int sign) {
            if (size < MOST) {
                bytes[size] = (byte) sign;
                size++;
            } else {
                spilled = true;
            }
        }

        void addText(long head, long tail) {
            int signs = Cell.signsOf(head, tail);
            for (int i = 0; i < signs; i++) {
                add(Cell.signAt(head, tail, i));
            }
        }

        void addNumber(long number) {
            if (number < 0) {
                add('-');
            }
            long rest = Math.abs(number);
            long unit = 1;
            for (int i = 0; i < 10 && rest / unit >= 10; i++) {
                unit *= 10;
            }
            for (int i = 0; i < 11 && unit > 0; i++) {
                add((int) ('0' + rest / unit % 10));
                unit /= 10;
            }
        }
    }

    /** Cuts a text into tokens, one at a time, so that a FAULT ahead of a bad byte is found first. */
    private static final class Lexer {
        static final int END = 0, BAD = 1, NAME = 2, NUMBER = 3, TEXT = 4;
        static final int FUN = 5, LET = 6, IF = 7, ELSE = 8, WHILE = 9, RETURN = 10, ABORT = 11;
        static final int PRINT = 12, NIL = 13, SIZE = 14, PUSH = 15, POP = 16;
        /** Signs of two bytes; those of one byte are their own kind. */
        static final int SAME = 256, UNLIKE = 257, AT_MOST = 258, AND = 259, OR = 260;

        private static final int WORD_COUNT = 12;
        /** In the order of their kinds, from FUN on. */
        private static final String WORDS =
                "fun let if else while return abort print nil size push pop ";
        private static final String SIGNS = "{}()[],;:.=+-*/%<!";
        private static final int MOST_NAME = 8;
        private static final long TOO_GREAT = 1L + Integer.MAX_VALUE;

        private final long[] words = new long[WORD_COUNT];
        private byte[] text = new byte[0];
        private int length;
        private int next;
        private int taken;
        private int kind;
        private int place;
        private int number;
        private long head;
        private long tail;

        Lexer() {
            int word = 0;
            int at = 0;
            for (int i = 0; i < WORDS.length() && word < WORD_COUNT; i++) {
                char sign = WORDS.charAt(i);
                if (sign == ' ') {
                    word++;
                    at = 0;
                } else {
                    words[word] |= Cell.placed(sign, at);
                    at++;
                }
            }
        }

        void begin(byte[] newText, int newLength) {
            text = newText;
            length = Math.min(newLength, newText.length);
            next = 0;
            taken = -1;
            advance();
        }

        void advance() {
            taken++;
            skipBlanks();
            place = next;
            int first = byteAt(next);
            if (first < 0) {
                kind = END;
            } else if (isLetter(first)) {
                scanName();
            } else if (isDigit(first)) {
                scanNumber();
            } else if (first == '"') {
                scanText();
            } else {
                scanSign(first);
            }
        }

        /** Behind a FAULT no token may match any more. */
        void stop() {
            kind = BAD;
        }

        int kind() {
            return kind;
        }

        int place() {
            return place;
        }

        /** How many tokens lie before this one. */
        int taken() {
            return taken;
        }

        int number() {
            return number;
        }

        long head() {
            return head;
        }

        long tail() {
            return tail;
        }

        /** The name that all the bytes make together, or 0. */
        static long wholeName(byte[] bytes, int size) {
            if (size < 1 || size > MOST_NAME || size > bytes.length || !isLetter(bytes[0])) {
                return 0;
            }
            long name = 0;
            for (int i = 0; i < size; i++) {
                if (!isLetter(bytes[i]) && !isDigit(bytes[i])) {
                    return 0;
                }
                name |= Cell.placed(bytes[i], i);
            }
            return name;
        }

        private static boolean isLetter(int sign) {
            return sign >= 'a' && sign <= 'z';
        }

        private static boolean isDigit(int sign) {
            return sign >= '0' && sign <= '9';
        }

        private static boolean isTextSign(int sign) {
            return sign >= 32 && sign <= 126 && sign != '"';
        }

        private int byteAt(int at) {
            return at >= 0 && at < length ? text[at] & 255 : -1;
        }

        private void skipBlanks() {
            for (; next < length; next++) {
                int sign = byteAt(next);
                if (sign != ' ' && sign != 10) {
                    return;
                }
            }
        }

        private void scanName() {
            int size = 0;
            head = 0;
            for (; next < length; next++) {
                int sign = byteAt(next);
                if (!isLetter(sign) && !isDigit(sign)) {
                    break;
                }
                if (size < MOST_NAME) {
                    head |= Cell.placed(sign, size);
                }
                size++;
            }
            kind = size > MOST_NAME ? BAD : wordKind(head);
        }

        private int wordKind(long word) {
            for (int i = 0; i < WORD_COUNT; i++) {
                if (words[i] == word) {
                    return FUN + i;
                }
            }
            return NAME;
        }

        private void scanNumber() {
            long found = 0;
            for (; next < length && isDigit(byteAt(next)); next++) {
                found = Math.min(found * 10 + byteAt(next) - '0', TOO_GREAT);
            }
            number = (int) found;
            kind = found == TOO_GREAT ? BAD : NUMBER;
        }

        private void scanText() {
            int size = 0;
            head = Cell.headOf(Cell.TEXT);
            tail = 0;
            next++;
            for (; next < length && isTextSign(byteAt(next)); next++) {
                if (size < 8) {
                    head |= Cell.placed(byteAt(next), size);
                } else if (size < Cell.MOST_SIGNS) {
                    tail |= Cell.placed(byteAt(next), size);
                }
                size++;
            }
            kind = byteAt(next) == '"' && size <= Cell.MOST_SIGNS ? TEXT : BAD;
            next++;
        }

        private void scanSign(int first) {
            kind = pairKind(first, byteAt(next + 1));
            next++;
            if (kind != BAD) {
                next++;
            } else if (SIGNS.indexOf((char) first) >= 0) {
                kind = first;
            }
        }

        private static int pairKind(int first, int second) {
            if (second == '=') {
                return first == '=' ? SAME : first == '!' ? UNLIKE : first == '<' ? AT_MOST : BAD;
            }
            if (first == second) {
                return first == '&' ? AND : first == '|' ? OR : BAD;
            }
            return BAD;
        }
    }

    /** The code of one FUNCTION, or of a program's STATEMENTS; it never changes, so stores share it. */
    private static final class Unit {
        private final long name;
        private final int names;
        private final int locals;
        private final int tokens;
        private final int[] code;
        private final long[] pool;

        Unit(long name, int names, int locals, int tokens, int[] code, long[] pool) {
            this.name = name;
            this.names = names;
            this.locals = locals;
            this.tokens = tokens;
            this.code = code;
            this.pool = pool;
        }

        long name() {
            return name;
        }

        int names() {
            return names;
        }

        int locals() {
            return locals;
        }

        int tokens() {
            return tokens;
        }

        int op(int at) {
            int index = 2 * at;
            return index >= 0 && index < code.length ? code[index] : Machine.RETURN;
        }

        int argument(int at) {
            int index = 2 * at + 1;
            return index >= 1 && index < code.length ? code[index] : 0;
        }

        long constant(int at) {
            return at >= 0 && at < pool.length ? pool[at] : 0;
        }
    }

    /** A Unit while it is written. Each command takes two ints: what it does, and its argument. */
    private static final class Draft {
        private int[] code = new int[128];
        private int size;
        private long[] pool = new long[32];
        private int pooled;
        private long[] locals = new long[16];
        private int localCount;

        void clear() {
            size = 0;
            pooled = 0;
            localCount = 0;
        }

        void add(int op, int argument) {
            if (size + 2 > code.length) {
                code = Arrays.copyOf(code, 2 * code.length);
            }
            code[size] = op;
            code[size + 1] = argument;
            size += 2;
        }

        /** Where the next command will stand. */
        int here() {
            return size / 2;
        }

        /** Lets the jump at that place go to here. */
        void aimHere(int at) {
            int index = 2 * at + 1;
            if (index >= 1 && index < size) {
                code[index] = here();
            }
        }

        int lastOp() {
            return size >= 2 ? code[size - 2] : 0;
        }

        int lastArgument() {
            return size >= 2 ? code[size - 1] : 0;
        }

        void dropLast() {
            size = Math.max(0, size - 2);
        }

        int keep(long first, long second) {
            if (pooled + 2 > pool.length) {
                pool = Arrays.copyOf(pool, 2 * pool.length);
            }
            pool[pooled] = first;
            pool[pooled + 1] = second;
            pooled += 2;
            return pooled - 2;
        }

        int localOf(long name) {
            for (int i = 0; i < localCount; i++) {
                if (locals[i] == name) {
                    return i;
                }
            }
            return -1;
        }

        int makeLocal(long name) {
            int there = localOf(name);
            if (there >= 0) {
                return there;
            }
            if (localCount == locals.length) {
                locals = Arrays.copyOf(locals, 2 * locals.length);
            }
            locals[localCount] = name;
            localCount++;
            return localCount - 1;
        }

        Unit finish(long name, int names, int tokens) {
            add(Machine.NIL, 0);
            add(Machine.RETURN, 0);
            return new Unit(name, names, localCount, tokens,
                    Arrays.copyOf(code, size), Arrays.copyOf(pool, pooled));
        }
    }

    /** Reads a PROGRAM into Units. Behind its first FAULT no token matches, and so all loops end. */
    private static final class Parser {
        private static final int MOST_TOKENS = MOST_TAPE;
        private static final int MOST_DEPTH = 16;
        private static final int MOST_NAMES = 4;
        private static final int OR_LEVEL = 0, AND_LEVEL = 1, COMPARE_LEVEL = 2, PLUS_LEVEL = 3;
        private static final int TIMES_LEVEL = 4;

        private final Lexer lexer = new Lexer();
        private final Draft main = new Draft();
        private final Draft body = new Draft();
        private Draft draft = main;
        private final ArrayList<Unit> told = new ArrayList<Unit>();
        private Unit program = new Unit(0, 0, 0, 0, new int[0], new long[0]);
        private int fault;
        /** Whether the E read last may stand before "=": its last command is what must be turned. */
        private boolean assignable;

        /** The FAULT of the text, or -1. */
        int read(byte[] text, int length) {
            lexer.begin(text, length);
            fault = -1;
            told.clear();
            main.clear();
            draft = main;
            for (int i = 0; i <= MOST_TOKENS && fault < 0 && lexer.kind() != Lexer.END; i++) {
                if (lexer.kind() == Lexer.FUN) {
                    function();
                } else {
                    statement(0);
                }
            }
            if (fault < 0) {
                program = main.finish(0, 0, 0);
            }
            return fault;
        }

        Unit program() {
            return program;
        }

        /** Tells the FUNCTIONS of the text to a store: whether all had a place. */
        boolean tellInto(Store store) {
            for (int i = 0; i < told.size(); i++) {
                if (!store.tell(told.get(i))) {
                    return false;
                }
            }
            return true;
        }

        int toldTokens() {
            int tokens = 0;
            for (int i = 0; i < told.size(); i++) {
                tokens += told.get(i).tokens();
            }
            return tokens;
        }

        private void fail() {
            if (fault < 0) {
                fault = lexer.place();
            }
            lexer.stop();
        }

        private void take(int kind) {
            if (lexer.kind() == kind) {
                lexer.advance();
            } else {
                fail();
            }
        }

        /** Takes a bracket that lies in so many others already. */
        private boolean open(int bracket, int depth) {
            if (lexer.kind() != bracket || depth >= MOST_DEPTH) {
                fail();
                return false;
            }
            lexer.advance();
            return true;
        }

        private long takeName() {
            long name = lexer.head();
            take(Lexer.NAME);
            return name;
        }

        private void function() {
            take(Lexer.FUN);
            body.clear();
            draft = body;
            long name = takeName();
            int names = names();
            int before = lexer.taken();
            block(0);
            if (fault < 0) {
                told.add(body.finish(name, names, lexer.taken() - before));
            }
            draft = main;
        }

        private int names() {
            int size = 0;
            take('(');
            if (lexer.kind() != ')') {
                newName(size);
                for (size = 1; size <= MOST_NAMES && lexer.kind() == ','; size++) {
                    take(',');
                    newName(size);
                }
            }
            take(')');
            return size;
        }

        private void newName(int before) {
            if (before == MOST_NAMES || draft.localOf(lexer.head()) >= 0) {
                fail();
            }
            draft.makeLocal(takeName());
        }

        private void block(int depth) {
            if (!open('{', depth)) {
                return;
            }
            for (int i = 0; i <= MOST_TOKENS && fault < 0 && lexer.kind() != '}'; i++) {
                statement(depth + 1);
            }
            take('}');
        }

        private void statement(int depth) {
            if (lexer.kind() == '{') {
                block(depth);
                return;
            }
            draft.add(Machine.STEP, 0);
            switch (lexer.kind()) {
                case Lexer.LET:
                    letStatement(depth);
                    break;
                case Lexer.IF:
                    ifStatement(depth);
                    break;
                case Lexer.WHILE:
                    whileStatement(depth);
                    break;
                case Lexer.RETURN:
                    returnStatement(depth);
                    break;
                case Lexer.ABORT:
                    take(Lexer.ABORT);
                    draft.add(Machine.ABORT, 0);
                    take(';');
                    break;
                case Lexer.PRINT:
                    take(Lexer.PRINT);
                    expression(depth);
                    draft.add(Machine.PRINT, 0);
                    take(';');
                    break;
                default:
                    plainStatement(depth);
                    break;
            }
        }

        private void letStatement(int depth) {
            take(Lexer.LET);
            // The E of a let stands behind its NAME, which is LOCAL there already.
            int local = draft.makeLocal(takeName());
            take('=');
            expression(depth);
            draft.add(Machine.STORE_LOCAL, local);
            take(';');
        }

        private void ifStatement(int depth) {
            take(Lexer.IF);
            int over = condition(depth);
            block(depth);
            if (lexer.kind() == Lexer.ELSE) {
                int behind = draft.here();
                draft.add(Machine.JUMP, 0);
                draft.aimHere(over);
                take(Lexer.ELSE);
                block(depth);
                draft.aimHere(behind);
            } else {
                draft.aimHere(over);
            }
        }

        private void whileStatement(int depth) {
            take(Lexer.WHILE);
            int again = draft.here();
            int over = condition(depth);
            draft.add(Machine.STEP, 0);
            block(depth);
            draft.add(Machine.JUMP, again);
            draft.aimHere(over);
        }

        /** Gives back where the jump stands that is taken if the E is not TRUE. */
        private int condition(int depth) {
            if (open('(', depth)) {
                expression(depth + 1);
                take(')');
            }
            draft.add(Machine.JUMP_UNLESS, 0);
            return draft.here() - 1;
        }

        private void returnStatement(int depth) {
            take(Lexer.RETURN);
            if (lexer.kind() == ';') {
                draft.add(Machine.NIL, 0);
            } else {
                expression(depth);
            }
            draft.add(Machine.RETURN, 0);
            take(';');
        }

        private void plainStatement(int depth) {
            expression(depth);
            if (lexer.kind() == '=' && assignable) {
                int load = draft.lastOp();
                int argument = draft.lastArgument();
                draft.dropLast();
                take('=');
                expression(depth);
                draft.add(Machine.storeFor(load), argument);
            } else {
                draft.add(Machine.DROP, 0);
            }
            take(';');
        }

        private void expression(int depth) {
            level(OR_LEVEL, depth);
        }

        private static int levelOf(int sign) {
            switch (sign) {
                case Lexer.OR:
                    return OR_LEVEL;
                case Lexer.AND:
                    return AND_LEVEL;
                case Lexer.SAME:
                case Lexer.UNLIKE:
                case '<':
                case Lexer.AT_MOST:
                    return COMPARE_LEVEL;
                case '+':
                case '-':
                    return PLUS_LEVEL;
                case '*':
                case '/':
                case '%':
                    return TIMES_LEVEL;
                default:
                    return -1;
            }
        }

        private static int commandOf(int sign) {
            switch (sign) {
                case Lexer.SAME:
                    return Machine.SAME;
                case Lexer.UNLIKE:
                    return Machine.UNLIKE;
                case '<':
                    return Machine.LESS;
                case Lexer.AT_MOST:
                    return Machine.AT_MOST;
                case '+':
                    return Machine.ADD;
                case '-':
                    return Machine.SUBTRACT;
                case '*':
                    return Machine.TIMES;
                case '/':
                    return Machine.DIVIDE;
                default:
                    return Machine.REST;
            }
        }

        private void level(int level, int depth) {
            if (level > TIMES_LEVEL) {
                signed(depth);
                return;
            }
            level(level + 1, depth);
            int most = level == COMPARE_LEVEL ? 1 : MOST_TOKENS;
            for (int i = 0; i < most && levelOf(lexer.kind()) == level; i++) {
                int sign = lexer.kind();
                take(sign);
                if (level <= AND_LEVEL) {
                    int over = draft.here();
                    draft.add(level == OR_LEVEL ? Machine.KEEP_IF : Machine.KEEP_UNLESS, 0);
                    level(level + 1, depth);
                    draft.aimHere(over);
                } else {
                    level(level + 1, depth);
                    draft.add(commandOf(sign), 0);
                }
                assignable = false;
            }
        }

        private void signed(int depth) {
            int sign = lexer.kind();
            if (sign != '-' && sign != '!') {
                parts(depth);
            } else if (open(sign, depth)) {
                signed(depth + 1);
                draft.add(sign == '-' ? Machine.MINUS : Machine.NOT, 0);
                assignable = false;
            }
        }

        private void parts(int depth) {
            atom(depth);
            for (int i = 0; i < MOST_TOKENS; i++) {
                if (lexer.kind() == '.') {
                    take('.');
                    draft.add(Machine.LOAD_FIELD, keepName(takeName()));
                } else if (lexer.kind() == '[' && open('[', depth)) {
                    expression(depth + 1);
                    take(']');
                    draft.add(Machine.LOAD_ITEM, 0);
                } else {
                    return;
                }
                assignable = true;
            }
        }

        /** A NAME is kept as the text that a RECORD holds for it. */
        private int keepName(long name) {
            return draft.keep(Cell.headOf(Cell.TEXT) | name, 0);
        }

        private void atom(int depth) {
            boolean variable = false;
            switch (lexer.kind()) {
                case Lexer.NUMBER:
                    draft.add(Machine.NUMBER, lexer.number());
                    take(Lexer.NUMBER);
                    break;
                case Lexer.TEXT:
                    draft.add(Machine.TEXT, draft.keep(lexer.head(), lexer.tail()));
                    take(Lexer.TEXT);
                    break;
                case Lexer.NIL:
                    draft.add(Machine.NIL, 0);
                    take(Lexer.NIL);
                    break;
                case Lexer.NAME:
                    variable = variableOrCall(depth);
                    break;
                case Lexer.SIZE:
                    withOne(Machine.SIZE, depth);
                    break;
                case Lexer.POP:
                    withOne(Machine.POP, depth);
                    break;
                case Lexer.PUSH:
                    pushAtom(depth);
                    break;
                case '(':
                    inBrackets(depth);
                    break;
                case '{':
                    draft.add(Machine.RECORD, fields(depth));
                    break;
                case '[':
                    draft.add(Machine.ROW, list('[', ']', depth));
                    break;
                default:
                    fail();
                    break;
            }
            assignable = variable;
        }

        /** Whether it was a variable. */
        private boolean variableOrCall(int depth) {
            long name = takeName();
            if (lexer.kind() == '(') {
                int size = list('(', ')', depth);
                draft.add(Machine.CALL, draft.keep(name, size));
                return false;
            }
            int local = draft.localOf(name);
            if (local >= 0) {
                draft.add(Machine.LOAD_LOCAL, local);
            } else {
                draft.add(Machine.LOAD_ROOT, draft.keep(name, 0));
            }
            return true;
        }

        private void withOne(int command, int depth) {
            take(lexer.kind());
            inBrackets(depth);
            draft.add(command, 0);
        }

        private void inBrackets(int depth) {
            if (open('(', depth)) {
                expression(depth + 1);
                take(')');
            }
        }

        private void pushAtom(int depth) {
            take(Lexer.PUSH);
            if (open('(', depth)) {
                expression(depth + 1);
                take(',');
                expression(depth + 1);
                take(')');
            }
            draft.add(Machine.PUSH, 0);
        }

        /** How many E stand in the list. */
        private int list(int opening, int closing, int depth) {
            int size = 0;
            if (open(opening, depth) && lexer.kind() != closing) {
                expression(depth + 1);
                for (size = 1; size < MOST_TOKENS && lexer.kind() == ','; size++) {
                    take(',');
                    expression(depth + 1);
                }
            }
            take(closing);
            return size;
        }

        /** How many FIELDS stand in the RECORD. */
        private int fields(int depth) {
            int size = 0;
            if (open('{', depth) && lexer.kind() != '}') {
                field(depth + 1);
                for (size = 1; size < MOST_TOKENS && lexer.kind() == ','; size++) {
                    take(',');
                    field(depth + 1);
                }
            }
            take('}');
            return size;
        }

        private void field(int depth) {
            draft.add(Machine.TEXT, keepName(takeName()));
            take(':');
            expression(depth);
        }
    }

    /** ROOTS, OBJECTS and FUNCTIONS as they are at one time. */
    private static final class Store {
        static final int MOST_OBJECTS = 100;
        /** Of a ROW; a FIELD of a RECORD takes two cells, its name as a text and its VALUE. */
        static final int MOST_CELLS = 20;
        private static final int MOST_FIELD_CELLS = 16;
        private static final int MOST_ROOTS = 12;
        private static final int MOST_FUNCTIONS = 10;
        private static final int MOST_FUNCTION_TOKENS = 400;
        private static final int FREE = -1;

        final long[] head = new long[MOST_OBJECTS * MOST_CELLS];
        final long[] tail = new long[MOST_OBJECTS * MOST_CELLS];
        private final int[] cells = new int[MOST_OBJECTS];
        private final long[] rootName = new long[MOST_ROOTS];
        final long[] rootHead = new long[MOST_ROOTS];
        final long[] rootTail = new long[MOST_ROOTS];
        private int roots;
        private final Unit[] told = new Unit[MOST_FUNCTIONS];
        private int functions;

        Store() {
            Arrays.fill(cells, FREE);
        }

        void copyFrom(Store other) {
            System.arraycopy(other.head, 0, head, 0, head.length);
            System.arraycopy(other.tail, 0, tail, 0, tail.length);
            System.arraycopy(other.cells, 0, cells, 0, cells.length);
            System.arraycopy(other.rootName, 0, rootName, 0, rootName.length);
            System.arraycopy(other.rootHead, 0, rootHead, 0, rootHead.length);
            System.arraycopy(other.rootTail, 0, rootTail, 0, rootTail.length);
            for (int i = 0; i < MOST_FUNCTIONS; i++) {
                told[i] = other.told[i];
            }
            roots = other.roots;
            functions = other.functions;
        }

        int objects() {
            int found = 0;
            for (int i = 0; i < MOST_OBJECTS; i++) {
                if (isThere(i)) {
                    found++;
                }
            }
            return found;
        }

        boolean isThere(int object) {
            return object >= 0 && object < MOST_OBJECTS && cells[object] != FREE;
        }

        /** The number of a new OBJECT without anything in it, or -1 if there is no place. */
        int make() {
            for (int i = 0; i < MOST_OBJECTS; i++) {
                if (cells[i] == FREE) {
                    cells[i] = 0;
                    return i;
                }
            }
            return -1;
        }

        void takeAway(int object) {
            if (isThere(object)) {
                cells[object] = FREE;
            }
        }

        int cellsOf(int object) {
            boolean there = object >= 0 && object < MOST_OBJECTS && cells[object] != FREE;
            return there ? cells[object] : 0;
        }

        int firstCell(int object) {
            return object >= 0 && object < MOST_OBJECTS ? object * MOST_CELLS : 0;
        }

        /** Whether there was a place for one more cell. */
        boolean append(int object, long newHead, long newTail) {
            int size = cellsOf(object);
            if (!isThere(object) || size >= MOST_CELLS) {
                return false;
            }
            int at = firstCell(object) + size;
            head[at] = newHead;
            tail[at] = newTail;
            cells[object] = size + 1;
            return true;
        }

        void dropLast(int object) {
            if (cellsOf(object) > 0) {
                cells[object]--;
            }
        }

        /** The cell of the VALUE of a FIELD, or -1. */
        int fieldCell(int object, long name) {
            int first = firstCell(object);
            int behind = first + cellsOf(object);
            for (int at = first; at + 1 < behind; at += 2) {
                if (head[at] == name) {
                    return at + 1;
                }
            }
            return -1;
        }

        /** Whether the FIELD had a place. */
        boolean setField(int object, long name, long newHead, long newTail) {
            int at = fieldCell(object, name);
            if (Cell.sortOf(newHead) == Cell.NIL) {
                dropField(object, at);
                return true;
            }
            if (at >= 0) {
                head[at] = newHead;
                tail[at] = newTail;
                return true;
            }
            if (cellsOf(object) >= MOST_FIELD_CELLS) {
                return false;
            }
            append(object, name, 0);
            return append(object, newHead, newTail);
        }

        private void dropField(int object, int at) {
            if (at < 0) {
                return;
            }
            int behind = at + 1;
            int rest = firstCell(object) + cellsOf(object) - behind;
            System.arraycopy(head, behind, head, at - 1, rest);
            System.arraycopy(tail, behind, tail, at - 1, rest);
            cells[object] -= 2;
        }

        int roots() {
            return roots;
        }

        int rootAt(long name) {
            for (int i = 0; i < roots; i++) {
                if (rootName[i] == name) {
                    return i;
                }
            }
            return -1;
        }

        /** Whether the ROOT had a place. */
        boolean setRoot(long name, long newHead, long newTail) {
            int at = rootAt(name);
            if (Cell.sortOf(newHead) == Cell.NIL) {
                dropRoot(at);
                return true;
            }
            if (at < 0) {
                if (roots >= MOST_ROOTS) {
                    return false;
                }
                at = roots;
                roots++;
            }
            rootName[at] = name;
            rootHead[at] = newHead;
            rootTail[at] = newTail;
            return true;
        }

        private void dropRoot(int at) {
            if (at < 0) {
                return;
            }
            roots--;
            rootName[at] = rootName[roots];
            rootHead[at] = rootHead[roots];
            rootTail[at] = rootTail[roots];
        }

        int functions() {
            return functions;
        }

        Unit functionOf(long name) {
            int at = functionAt(name);
            return at < 0 ? null : told[at];
        }

        private int functionAt(long name) {
            for (int i = 0; i < functions; i++) {
                if (told[i] != null && told[i].name() == name) {
                    return i;
                }
            }
            return -1;
        }

        int functionTokens() {
            int tokens = 0;
            for (int i = 0; i < functions; i++) {
                tokens += told[i] == null ? 0 : told[i].tokens();
            }
            return tokens;
        }

        /** Whether the FUNCTION had a place; one of the same name makes way for it. */
        boolean tell(Unit unit) {
            int at = functionAt(unit.name());
            if (at < 0) {
                if (functions >= MOST_FUNCTIONS) {
                    return false;
                }
                at = functions;
                functions++;
            }
            told[at] = unit;
            return functionTokens() <= MOST_FUNCTION_TOKENS;
        }

        int objectsChangedSince(Store before) {
            int changed = 0;
            for (int i = 0; i < MOST_OBJECTS; i++) {
                if (isThere(i) && !sameObject(before, i)) {
                    changed++;
                }
            }
            return changed;
        }

        private boolean sameObject(Store before, int object) {
            if (cells[object] != before.cells[object]) {
                return false;
            }
            int first = firstCell(object);
            for (int at = first; at < first + cells[object]; at++) {
                if (head[at] != before.head[at] || tail[at] != before.tail[at]) {
                    return false;
                }
            }
            return true;
        }

        int rootsChangedSince(Store before) {
            int changed = 0;
            for (int i = 0; i < roots; i++) {
                int old = before.rootAt(rootName[i]);
                if (old < 0 || before.rootHead[old] != rootHead[i]
                        || before.rootTail[old] != rootTail[i]) {
                    changed++;
                }
            }
            for (int i = 0; i < before.roots; i++) {
                if (rootAt(before.rootName[i]) < 0) {
                    changed++;
                }
            }
            return changed;
        }
    }

    /**
     * The stores behind what is SAFE and behind each COMMIT and sweep that waits, and one more to work
     * in: so all is as before when a program fails or power is lost, without anything being undone.
     */
    private static final class Log {
        static final int SWEEP_BYTES = 8;
        private static final int MOST_WAITING = 8;
        private static final int PLACES = MOST_WAITING + 2;

        /** 0 is SAFE, then come those that wait, then the one to work in. */
        private final Store[] stores = new Store[PLACES];
        private final int[] bytes = new int[PLACES];
        private int waiting;
        private int safeBytes;

        static int commitBytes(Store before, Store after, int toldTokens) {
            return 8 + 16 * after.objectsChangedSince(before)
                    + 6 * after.rootsChangedSince(before) + 3 * toldTokens;
        }

        /** Most runs never need all the stores, so each is made when it is first used. */
        private Store storeAt(int place) {
            Store store = stores[place];
            if (store == null) {
                store = new Store();
                stores[place] = store;
            }
            return store;
        }

        Store latest() {
            return storeAt(waiting);
        }

        Store workCopy() {
            Store work = storeAt(waiting + 1);
            work.copyFrom(latest());
            return work;
        }

        /** Lets what was done in the work copy wait behind the others. */
        void append(int size) {
            waiting++;
            bytes[waiting] = size;
            if (waiting > MOST_WAITING) {
                settle(1);
            }
        }

        /** Makes the oldest ones SAFE. */
        void settle(int many) {
            for (int i = 0; i < many && waiting > 0; i++) {
                settleOldest();
            }
        }

        private void settleOldest() {
            Store spare = stores[0];
            safeBytes += bytes[1];
            for (int i = 0; i + 1 < PLACES; i++) {
                stores[i] = stores[i + 1];
                bytes[i] = bytes[i + 1];
            }
            stores[PLACES - 1] = spare;
            waiting--;
        }

        void loseWaiting() {
            waiting = 0;
        }

        int wholeWithin(int size) {
            int rest = size;
            for (int i = 1; i <= waiting; i++) {
                if (bytes[i] > rest) {
                    return i - 1;
                }
                rest -= bytes[i];
            }
            return waiting;
        }

        int waiting() {
            return waiting;
        }

        int safeBytes() {
            return safeBytes;
        }

        int waitingBytes() {
            int sum = 0;
            for (int i = 1; i <= waiting; i++) {
                sum += bytes[i];
            }
            return sum;
        }
    }

    private static final class Sweeper {
        private final boolean[] reached = new boolean[Store.MOST_OBJECTS];
        private final int[] queue = new int[Store.MOST_OBJECTS];
        private int queued;

        /** Takes away what the ROOTS do not reach: how many. */
        int clean(Store store) {
            for (int i = 0; i < Store.MOST_OBJECTS; i++) {
                reached[i] = false;
            }
            queued = 0;
            for (int i = 0; i < store.roots(); i++) {
                reach(store.rootHead[i], store.rootTail[i]);
            }
            for (int next = 0; next < queued && next < Store.MOST_OBJECTS; next++) {
                reachFrom(store, queue[next]);
            }
            return takeUnreached(store);
        }

        private void reach(long head, long tail) {
            if (Cell.isObject(head) && tail >= 0 && tail < Store.MOST_OBJECTS
                    && !reached[(int) tail] && queued < Store.MOST_OBJECTS) {
                reached[(int) tail] = true;
                queue[queued] = (int) tail;
                queued++;
            }
        }

        private void reachFrom(Store store, int object) {
            int first = store.firstCell(object);
            int behind = first + store.cellsOf(object);
            for (int at = first; at < behind; at++) {
                reach(store.head[at], store.tail[at]);
            }
        }

        private int takeUnreached(Store store) {
            int gone = 0;
            for (int i = 0; i < Store.MOST_OBJECTS; i++) {
                if (!reached[i] && store.isThere(i)) {
                    store.takeAway(i);
                    gone++;
                }
            }
            return gone;
        }
    }

    /**
     * Does the commands of Units on one stack of VALUES: a call's LOCALS, then what its E have found,
     * then the next call's. So calls in one another take no calls of Java in one another.
     */
    private static final class Machine {
        static final int STEP = 0, JUMP = 1, JUMP_UNLESS = 2, KEEP_IF = 3, KEEP_UNLESS = 4, CALL = 5;
        static final int RETURN = 6, ABORT = 7, DROP = 8, PRINT = 9, LAST_FLOW = 9;
        static final int NIL = 10, NUMBER = 11, TEXT = 12, LAST_CONSTANT = 12;
        /** The command that stores is the one behind that which loads. */
        static final int LOAD_LOCAL = 13, STORE_LOCAL = 14, LOAD_ROOT = 15, STORE_ROOT = 16;
        static final int LOAD_FIELD = 17, STORE_FIELD = 18, LOAD_ITEM = 19, STORE_ITEM = 20;
        static final int LAST_PLACE = 20;
        static final int RECORD = 21, ROW = 22, SIZE = 23, PUSH = 24, POP = 25, LAST_OBJECT = 25;
        static final int MINUS = 26, NOT = 27, SAME = 28, UNLIKE = 29, LESS = 30, AT_MOST = 31;
        static final int ADD = 32, SUBTRACT = 33, TIMES = 34, DIVIDE = 35, REST = 36;

        static final int NO_FUEL = 1, WRONG_SORT = 2, OUTSIDE = 3, TOO_LONG = 4, BY_ZERO = 5;
        static final int NO_FUNCTION = 6, TOO_DEEP = 7, NO_PLACE = 8, OUT_FULL = 9, ABORTED = 10;

        private static final int MOST_CALLS = 8;
        /** 8 calls of 400 tokens, and 1500 bytes, can not fill it. */
        private static final int MOST_STACK = 8192;
        /** 2000 times 1500 bytes can not come near it. */
        private static final int MOST_STEPS = 100000000;

        private long[] head = new long[64];
        private long[] tail = new long[64];
        private int top;
        private int base;
        private Unit unit;
        private int next;
        private final Unit[] callers = new Unit[MOST_CALLS];
        private final int[] callerNext = new int[MOST_CALLS];
        private final int[] callerBase = new int[MOST_CALLS];
        private int calls;
        private Store store;
        private Out out;
        private int fuel;
        private int taken;
        private int error;
        private boolean done;
        private long resultHead;
        private long resultTail;

        static int storeFor(int load) {
            return load + 1;
        }

        int perform(Unit program, Store newStore, Out newOut, int newFuel) {
            store = newStore;
            out = newOut;
            fuel = newFuel;
            taken = 0;
            error = 0;
            done = false;
            calls = 0;
            top = 0;
            enter(program, 0);
            for (int i = 0; i < MOST_STEPS && !done && unit != null; i++) {
                int op = unit.op(next);
                int argument = unit.argument(next);
                next++;
                if (op <= LAST_FLOW) {
                    doFlow(op, argument);
                } else if (op <= LAST_CONSTANT) {
                    doConstant(op, argument);
                } else if (op <= LAST_PLACE) {
                    doPlace(op, argument);
                } else if (op <= LAST_OBJECT) {
                    doObject(op, argument);
                } else {
                    doReckoning(op);
                }
            }
            return error;
        }

        int taken() {
            return taken;
        }

        long resultHead() {
            return resultHead;
        }

        long resultTail() {
            return resultTail;
        }

        private void fail(int code) {
            error = code;
            done = true;
        }

        /** The place of the VALUE so far below the top, 1 for the uppermost. */
        private int below(int far) {
            return Math.max(0, top - far);
        }

        private void lay(long newHead, long newTail) {
            if (top == head.length) {
                if (top >= MOST_STACK) {
                    fail(NO_PLACE);
                    return;
                }
                head = Arrays.copyOf(head, 2 * top);
                tail = Arrays.copyOf(tail, 2 * top);
            }
            head[top] = newHead;
            tail[top] = newTail;
            top++;
        }

        private void layNumber(long number) {
            lay(Cell.headOf(Cell.INT), number);
        }

        private void layTruth(boolean truth) {
            layNumber(truth ? 1 : 0);
        }

        private int sortAt(int at) {
            return Cell.sortOf(head[at]);
        }

        private int objectAt(int at) {
            return (int) tail[at];
        }

        private boolean burn() {
            if (taken >= fuel) {
                fail(NO_FUEL);
                return false;
            }
            taken++;
            return true;
        }

        private void doFlow(int op, int argument) {
            int upper = below(1);
            boolean isTrue = Cell.isTrue(head[upper], tail[upper]);
            switch (op) {
                case STEP:
                    burn();
                    break;
                case JUMP:
                    next = argument;
                    break;
                case JUMP_UNLESS:
                    top = upper;
                    next = isTrue ? next : argument;
                    break;
                case KEEP_IF:
                    keepLeft(isTrue, argument);
                    break;
                case KEEP_UNLESS:
                    keepLeft(!isTrue, argument);
                    break;
                case CALL:
                    call(unit.constant(argument), (int) unit.constant(argument + 1));
                    break;
                case RETURN:
                    leave();
                    break;
                case ABORT:
                    fail(ABORTED);
                    break;
                case DROP:
                    top = upper;
                    break;
                default:
                    top = upper;
                    print(upper);
                    break;
            }
        }

        /** For && and ||: the left VALUE stays if it decides, else it makes way for the right one. */
        private void keepLeft(boolean decides, int behind) {
            if (decides) {
                next = behind;
            } else {
                top = below(1);
            }
        }

        private void call(long name, int given) {
            if (!burn()) {
                return;
            }
            Unit called = store.functionOf(name);
            if (called == null || called.names() != given) {
                fail(NO_FUNCTION);
            } else if (calls >= MOST_CALLS) {
                fail(TOO_DEEP);
            } else {
                callers[calls] = unit;
                callerNext[calls] = next;
                callerBase[calls] = base;
                calls++;
                enter(called, given);
            }
        }

        /** The VALUES given to a call lie uppermost already: they become its first LOCALS. */
        private void enter(Unit entered, int given) {
            base = below(given);
            unit = entered;
            next = 0;
            for (int i = given; i < entered.locals(); i++) {
                lay(0, 0);
            }
        }

        private void leave() {
            int upper = below(1);
            resultHead = head[upper];
            resultTail = tail[upper];
            if (calls == 0) {
                done = true;
                return;
            }
            calls--;
            top = base;
            unit = callers[calls];
            next = callerNext[calls];
            base = callerBase[calls];
            lay(resultHead, resultTail);
        }

        private void print(int at) {
            switch (sortAt(at)) {
                case Cell.INT:
                    out.addNumber(tail[at]);
                    break;
                case Cell.TEXT:
                    out.addText(head[at], tail[at]);
                    break;
                case Cell.RECORD:
                    out.add('r');
                    break;
                case Cell.ROW:
                    out.add('w');
                    break;
                default:
                    out.add('n');
                    break;
            }
            out.add(10);
            if (out.spilled()) {
                fail(OUT_FULL);
            }
        }

        private void doConstant(int op, int argument) {
            if (op == NUMBER) {
                layNumber(argument);
            } else if (op == TEXT) {
                lay(unit.constant(argument), unit.constant(argument + 1));
            } else {
                lay(0, 0);
            }
        }

        private void doPlace(int op, int argument) {
            int upper = below(1);
            switch (op) {
                case LOAD_LOCAL:
                    lay(head[localAt(argument)], tail[localAt(argument)]);
                    break;
                case STORE_LOCAL:
                    top = upper;
                    head[localAt(argument)] = head[upper];
                    tail[localAt(argument)] = tail[upper];
                    break;
                case LOAD_ROOT:
                    loadRoot(store.rootAt(unit.constant(argument)));
                    break;
                case STORE_ROOT:
                    top = upper;
                    if (!store.setRoot(unit.constant(argument), head[upper], tail[upper])) {
                        fail(NO_PLACE);
                    }
                    break;
                case LOAD_FIELD:
                    loadField(unit.constant(argument));
                    break;
                case STORE_FIELD:
                    storeField(unit.constant(argument));
                    break;
                case LOAD_ITEM:
                    loadItem();
                    break;
                default:
                    storeItem();
                    break;
            }
        }

        private int localAt(int local) {
            int at = base + local;
            return at >= 0 && at < head.length ? at : 0;
        }

        private void loadRoot(int at) {
            if (at < 0) {
                lay(0, 0);
            } else {
                lay(store.rootHead[at], store.rootTail[at]);
            }
        }

        private void loadField(long name) {
            int at = below(1);
            if (sortAt(at) != Cell.RECORD) {
                fail(WRONG_SORT);
                return;
            }
            int cell = store.fieldCell(objectAt(at), name);
            top = at;
            if (cell < 0) {
                lay(0, 0);
            } else {
                lay(store.head[cell], store.tail[cell]);
            }
        }

        private void storeField(long name) {
            int at = below(2);
            int upper = below(1);
            top = at;
            if (sortAt(at) != Cell.RECORD) {
                fail(WRONG_SORT);
            } else if (!store.setField(objectAt(at), name, head[upper], tail[upper])) {
                fail(TOO_LONG);
            }
        }

        /** Whether the VALUE at that place is an int within the size; else it is an ERROR. */
        private boolean isWithin(int at, int size) {
            if (sortAt(at) != Cell.INT) {
                fail(WRONG_SORT);
            } else if (tail[at] < 0 || tail[at] >= size) {
                fail(OUTSIDE);
            } else {
                return true;
            }
            return false;
        }

        private void loadItem() {
            int at = below(2);
            int index = below(1);
            top = at;
            if (sortAt(at) == Cell.ROW) {
                if (isWithin(index, store.cellsOf(objectAt(at)))) {
                    int cell = store.firstCell(objectAt(at)) + (int) tail[index];
                    lay(store.head[cell], store.tail[cell]);
                }
            } else if (sortAt(at) == Cell.TEXT) {
                if (isWithin(index, Cell.signsOf(head[at], tail[at]))) {
                    int sign = Cell.signAt(head[at], tail[at], (int) tail[index]);
                    lay(Cell.headOf(Cell.TEXT) | Cell.placed(sign, 0), 0);
                }
            } else {
                fail(WRONG_SORT);
            }
        }

        private void storeItem() {
            int at = below(3);
            int index = below(2);
            int upper = below(1);
            top = at;
            if (sortAt(at) != Cell.ROW) {
                fail(WRONG_SORT);
            } else if (isWithin(index, store.cellsOf(objectAt(at)))) {
                int cell = store.firstCell(objectAt(at)) + (int) tail[index];
                store.head[cell] = head[upper];
                store.tail[cell] = tail[upper];
            }
        }

        private void doObject(int op, int argument) {
            switch (op) {
                case RECORD:
                    makeRecord(argument);
                    break;
                case ROW:
                    makeRow(argument);
                    break;
                case SIZE:
                    size();
                    break;
                case PUSH:
                    push();
                    break;
                default:
                    pop();
                    break;
            }
        }

        private void makeRecord(int fields) {
            int first = below(2 * fields);
            int object = store.make();
            if (object < 0) {
                fail(NO_PLACE);
                return;
            }
            for (int i = first; i + 1 < top; i += 2) {
                if (!store.setField(object, head[i], head[i + 1], tail[i + 1])) {
                    fail(TOO_LONG);
                    return;
                }
            }
            top = first;
            lay(Cell.headOf(Cell.RECORD), object);
        }

        private void makeRow(int items) {
            int first = below(items);
            int object = store.make();
            if (object < 0) {
                fail(NO_PLACE);
                return;
            }
            for (int i = first; i < top; i++) {
                if (!store.append(object, head[i], tail[i])) {
                    fail(TOO_LONG);
                    return;
                }
            }
            top = first;
            lay(Cell.headOf(Cell.ROW), object);
        }

        private void size() {
            int at = below(1);
            top = at;
            switch (sortAt(at)) {
                case Cell.TEXT:
                    layNumber(Cell.signsOf(head[at], tail[at]));
                    break;
                case Cell.RECORD:
                    layNumber(store.cellsOf(objectAt(at)) / 2);
                    break;
                case Cell.ROW:
                    layNumber(store.cellsOf(objectAt(at)));
                    break;
                default:
                    fail(WRONG_SORT);
                    break;
            }
        }

        private void push() {
            int at = below(2);
            int upper = below(1);
            top = upper;
            if (sortAt(at) != Cell.ROW) {
                fail(WRONG_SORT);
            } else if (!store.append(objectAt(at), head[upper], tail[upper])) {
                fail(TOO_LONG);
            }
        }

        private void pop() {
            int at = below(1);
            if (sortAt(at) != Cell.ROW) {
                fail(WRONG_SORT);
                return;
            }
            int object = objectAt(at);
            int size = store.cellsOf(object);
            if (size == 0) {
                fail(OUTSIDE);
                return;
            }
            int cell = store.firstCell(object) + size - 1;
            top = at;
            lay(store.head[cell], store.tail[cell]);
            store.dropLast(object);
        }

        private void doReckoning(int op) {
            int left = below(2);
            int right = below(1);
            boolean same = head[left] == head[right] && tail[left] == tail[right];
            switch (op) {
                case MINUS:
                    minus(right);
                    break;
                case NOT:
                    top = right;
                    layTruth(!Cell.isTrue(head[right], tail[right]));
                    break;
                case SAME:
                    top = left;
                    layTruth(same);
                    break;
                case UNLIKE:
                    top = left;
                    layTruth(!same);
                    break;
                case LESS:
                    compare(left, right, false);
                    break;
                case AT_MOST:
                    compare(left, right, same);
                    break;
                default:
                    reckon(op, left, right);
                    break;
            }
        }

        private void minus(int at) {
            top = at;
            if (sortAt(at) == Cell.INT) {
                layNumber(-(int) tail[at]);
            } else {
                fail(WRONG_SORT);
            }
        }

        private void compare(int left, int right, boolean already) {
            int sort = sortAt(left);
            top = left;
            if (sort != sortAt(right) || sort != Cell.INT && sort != Cell.TEXT) {
                fail(WRONG_SORT);
                return;
            }
            boolean less = head[left] < head[right]
                    || head[left] == head[right] && tail[left] < tail[right];
            layTruth(already || less);
        }

        private void reckon(int op, int left, int right) {
            int sort = sortAt(left);
            top = right;
            if (op == ADD && sort == Cell.TEXT && sortAt(right) == Cell.TEXT) {
                join(left, right);
            } else if (sort != Cell.INT || sortAt(right) != Cell.INT) {
                fail(WRONG_SORT);
            } else if ((op == DIVIDE || op == REST) && tail[right] == 0) {
                fail(BY_ZERO);
            } else {
                tail[left] = found(op, (int) tail[left], (int) tail[right]);
            }
        }

        private static int found(int op, int left, int right) {
            switch (op) {
                case ADD:
                    return left + right;
                case SUBTRACT:
                    return left - right;
                case TIMES:
                    return left * right;
                case DIVIDE:
                    return right == 0 ? 0 : left / right;
                default:
                    return right == 0 ? 0 : left % right;
            }
        }

        private void join(int left, int right) {
            int first = Cell.signsOf(head[left], tail[left]);
            int second = Cell.signsOf(head[right], tail[right]);
            if (first + second > Cell.MOST_SIGNS) {
                fail(TOO_LONG);
                return;
            }
            for (int i = 0; i < second; i++) {
                int sign = Cell.signAt(head[right], tail[right], i);
                if (first + i < 8) {
                    head[left] |= Cell.placed(sign, first + i);
                } else {
                    tail[left] |= Cell.placed(sign, first + i);
                }
            }
        }
    }
}
