import java.util.Arrays;

/** A house of blocks that act as one; ../shared/DOC.md tells what each call must do. */
public final class AsOneHouse {
    private static final int PLACES = 26;
    private static final int THREADS = 6;
    private static final int TAPE_MOST = 1000;
    private static final int FEED_BYTES = 20;
    private static final int DEPTH_MOST = 10;
    private static final int STATEMENTS_MOST = 300;
    private static final int NUMBER_MOST = 1000000;
    private static final int SAID_MOST = 200;
    private static final int RECORDS_MOST = 300;
    private static final int JUDGED_MOST = 14;
    private static final int TRIED_MOST = 20000;
    private static final int TURNS_MOST = 20000;
    private static final int ROUND_MOST = 2000;

    private static final int BY_CLOCK = 0;
    private static final int BY_VALUES = 1;
    private static final int WITH_PASTS = 2;
    private static final int KEPT = 3;
    private static final int ONE = 4;

    private static final int NO_PROGRAM = 0;
    private static final int READY = 1;
    private static final int INSIDE = 2;
    private static final int ASLEEP = 3;
    private static final int OVER = 4;
    private static final int DEAD = 5;

    private static final int GOES_ON = -1;
    private static final int DID_ACT = 0;
    private static final int DID_CONFLICT = 1;
    private static final int IS_OVER = 2;
    private static final int IS_ASLEEP = 3;
    private static final int IS_BUSY = 4;
    private static final int IS_DEAD = 5;
    private static final int DID_WAKE = 6;

    private final byte[] tape;
    private final Parser parser;
    private final Engine engine;
    private final Arbiter arbiter;
    private int tapeLength;
    private int brokenAt;

    public AsOneHouse() {
        tape = new byte[TAPE_MOST];
        parser = new Parser();
        engine = new Engine();
        arbiter = new Arbiter();
        tapeLength = 0;
        brokenAt = -1;
    }

    public int feed(int a, int b, int c, int d, int e) throws IndexOutOfBoundsException {
        if (tapeLength > TAPE_MOST - FEED_BYTES) {
            throw new IndexOutOfBoundsException("the tape has no room");
        }
        addToTape(a);
        addToTape(b);
        addToTape(c);
        addToTape(d);
        addToTape(e);
        return tapeLength;
    }

    public int end(int n) throws IllegalArgumentException {
        if (n < 0 || n > tapeLength) {
            throw new IllegalArgumentException("not a length of the tape");
        }
        tapeLength = n;
        return n;
    }

    public void start(int way) throws IllegalArgumentException {
        if (way < BY_CLOCK || way > ONE) {
            throw new IllegalArgumentException("not a way");
        }
        engine.startAgain(way);
        arbiter.forget();
        brokenAt = -1;
    }

    public int program(int thread) throws IllegalArgumentException, IllegalStateException, UnsupportedOperationException {
        int length = tapeLength;
        tapeLength = 0;
        if (thread < 0 || thread >= THREADS) {
            throw new IllegalArgumentException("not a thread");
        }
        Runner runner = engine.runners[thread];
        if (runner.state == INSIDE) {
            throw new IllegalStateException("the thread is within a block");
        }
        if (!parser.parse(tape, length)) {
            brokenAt = parser.brokenAt;
            throw new UnsupportedOperationException("the text is broken");
        }
        brokenAt = -1;
        runner.code = parser.code.copy();
        runner.renew();
        return runner.code.statements;
    }

    public int place() {
        return brokenAt;
    }

    public int put(int place, int v) throws IllegalArgumentException, IllegalStateException {
        if (place < 0 || place >= PLACES) {
            throw new IllegalArgumentException("not a place");
        }
        Places places = engine.places;
        if (places.takenBy[place] != Places.FREE) {
            throw new IllegalStateException("the place is taken");
        }
        places.clock++;
        places.change(place, v);
        places.atFirst[place] = v;
        return places.clock;
    }

    public int turn(int thread) throws IllegalArgumentException, IllegalStateException {
        if (thread < 0 || thread >= THREADS) {
            throw new IllegalArgumentException("not a thread");
        }
        if (engine.turns >= TURNS_MOST) {
            throw new IllegalStateException("all turns were taken");
        }
        return engine.takeTurn(engine.runners[thread]);
    }

    public int round(int n) throws IllegalArgumentException {
        if (n < 0 || n > ROUND_MOST) {
            throw new IllegalArgumentException("not a number of turns");
        }
        int taken = 0;
        int idle = 0;
        // In six steps at least one turn is taken, while a thread is left.
        for (int i = 0; i < THREADS * (n + 1) && taken < n; i++) {
            if (engine.turns >= TURNS_MOST || idle >= engine.howManyAreLeft()) {
                return taken;
            }
            Runner runner = engine.runners[i % THREADS];
            if (runner.isLeft()) {
                int answer = engine.takeTurn(runner);
                taken++;
                idle = answer == IS_ASLEEP || answer == IS_BUSY ? idle + 1 : 0;
            }
        }
        return taken;
    }

    public int has(int place) throws IllegalArgumentException {
        if (place < 0 || place >= PLACES) {
            throw new IllegalArgumentException("not a place");
        }
        return engine.places.value[place];
    }

    public int had(int place, int clock) throws IllegalArgumentException {
        if (place < 0 || place >= PLACES || clock < 0 || clock > engine.places.clock) {
            throw new IllegalArgumentException("not a place, or not a clock that was");
        }
        return engine.places.valueAt(place, clock);
    }

    public int register(int thread, int i) throws IllegalArgumentException {
        if (thread < 0 || thread >= THREADS || i < 0 || i >= PLACES) {
            throw new IllegalArgumentException("not a thread, or not a register");
        }
        return engine.runners[thread].registers[i];
    }

    public int said(int i, boolean who) throws IndexOutOfBoundsException {
        Sayings sayings = engine.sayings;
        if (i < 0 || i >= sayings.size || i >= SAID_MOST) {
            throw new IndexOutOfBoundsException("not said");
        }
        return who ? sayings.thread[i] : sayings.value[i];
    }

    public int look(int thread, int what) throws IllegalArgumentException {
        if (thread < 0 || thread >= THREADS || what < 0 || what > 7) {
            throw new IllegalArgumentException("not a thread, or nothing to look at");
        }
        return engine.runners[thread].tellOf(what);
    }

    public int judge() {
        return arbiter.decide(engine.records, engine.places);
    }

    public int order(int i) throws IndexOutOfBoundsException {
        if (i < 0 || i >= arbiter.told || i >= JUDGED_MOST) {
            throw new IndexOutOfBoundsException("not in the order");
        }
        return arbiter.sequence[i];
    }

    public int record(int i, int what) throws IllegalArgumentException, IndexOutOfBoundsException {
        if (what < 0 || what > 4) {
            throw new IllegalArgumentException("nothing to tell of a record");
        }
        if (i < 0 || i >= engine.records.size || i >= RECORDS_MOST) {
            throw new IndexOutOfBoundsException("not a record");
        }
        return engine.records.tellOf(i, what);
    }

    public int count(int what) throws IllegalArgumentException {
        if (what < 0 || what > 8) {
            throw new IllegalArgumentException("nothing to count");
        }
        return what == 0 ? tapeLength : engine.tellOf(what);
    }

    private void addToTape(int word) {
        for (int shift = 24; shift >= 0; shift -= 8) {
            if (tapeLength >= 0 && tapeLength < TAPE_MOST) {
                tape[tapeLength] = (byte) (word >> shift);
                tapeLength++;
            }
        }
    }

    /** The instructions that a text became. */
    private static final class Code {
        static final int NOTHING = 0;
        static final int NUMBER = 1;
        static final int GET = 2;
        static final int SEE = 3;
        static final int ADD = 4;
        static final int SUBTRACT = 5;
        static final int MULTIPLY = 6;
        static final int EQUAL = 7;
        static final int LESS = 8;
        static final int NEGATE = 9;
        static final int SET = 10;
        static final int WRITE = 11;
        static final int JUMP = 12;
        static final int UNLESS = 13;
        static final int AGAIN = 14;
        static final int SAY = 15;
        static final int BEGIN = 16;
        static final int CLOSE = 17;
        static final int RETRY = 18;
        static final int QUIT = 19;
        static final int FAIL = 20;
        static final int TRY = 21;
        static final int TRIED = 22;

        final int room;
        final int[] op;
        final int[] first;
        final int[] second;
        int length;
        int statements;

        Code(int size) {
            room = size < 0 ? 0 : size;
            op = new int[room];
            first = new int[room];
            second = new int[room];
            length = 0;
            statements = 0;
        }

        void clear() {
            length = 0;
            statements = 0;
        }

        int add(int what, int argument) {
            int at = length;
            if (at >= 0 && at < room) {
                op[at] = what;
                first[at] = argument;
                second[at] = 0;
                length = at + 1;
            }
            return at;
        }

        void setOp(int at, int what) {
            if (at >= 0 && at < room) {
                op[at] = what;
            }
        }

        void setFirst(int at, int argument) {
            if (at >= 0 && at < room) {
                first[at] = argument;
            }
        }

        void setSecond(int at, int argument) {
            if (at >= 0 && at < room) {
                second[at] = argument;
            }
        }

        int firstAt(int at) {
            return at >= 0 && at < room ? first[at] : -1;
        }

        int secondAt(int at) {
            return at >= 0 && at < room ? second[at] : -1;
        }

        Code copy() {
            Code other = new Code(length);
            for (int i = 0; i < length && i < room && i < other.room; i++) {
                other.op[i] = op[i];
                other.first[i] = first[i];
                other.second[i] = second[i];
            }
            other.length = other.room;
            other.statements = statements;
            return other;
        }
    }

    /** Cuts a text into tokens, and goes from one to the next. */
    private static final class Scanner {
        static final int NO_MORE = 0;
        static final int BAD = 1;
        static final int PLACE = 2;
        static final int REGISTER = 3;
        static final int NUMBER = 4;
        static final int IF = 5;
        static final int ELSE = 6;
        static final int WHILE = 7;
        static final int SAY = 8;
        static final int ATOM = 9;
        static final int PART = 10;
        static final int OR = 11;
        static final int RETRY = 12;
        static final int QUIT = 13;
        static final int FAIL = 14;
        static final int TRY = 15;
        static final int CATCH = 16;
        static final int LEFT_BRACE = 17;
        static final int RIGHT_BRACE = 18;
        static final int LEFT_PAREN = 19;
        static final int RIGHT_PAREN = 20;
        static final int SEMICOLON = 21;
        static final int ASSIGN = 22;
        static final int EQUAL = 23;
        static final int LESS = 24;
        static final int PLUS = 25;
        static final int MINUS = 26;
        static final int TIMES = 27;

        private static final int TOKENS_MOST = TAPE_MOST + 1;

        private byte[] text;
        private int length;
        private int next;
        private final int[] kinds;
        private final int[] begins;
        private final int[] values;
        private int tokens;
        private int cursor;
        /** Of the token at which the cursor is. */
        int kind;
        int begin;
        int value;

        Scanner() {
            text = new byte[0];
            kinds = new int[TOKENS_MOST];
            begins = new int[TOKENS_MOST];
            values = new int[TOKENS_MOST];
        }

        /** Cuts the text's first bytes, and goes to the first token. */
        void read(byte[] bytes, int size) {
            text = bytes;
            length = size;
            next = 0;
            kind = BAD;
            tokens = 0;
            for (int i = 0; i < TOKENS_MOST && kind != NO_MORE; i++) {
                scan();
                kinds[i] = kind;
                begins[i] = begin;
                values[i] = value;
                tokens = i + 1;
            }
            cursor = -1;
            advance();
        }

        /** Goes to the next token; the last one, the end of the text, is never left. */
        void advance() {
            if (cursor < tokens - 1) {
                cursor++;
            }
            if (cursor >= 0 && cursor < TOKENS_MOST) {
                kind = kinds[cursor];
                begin = begins[cursor];
                value = values[cursor];
            }
        }

        private void scan() {
            while (next < length && isBlank(byteAt(next))) {
                next++;
            }
            begin = next;
            value = 0;
            int c = byteAt(next);
            if (next >= length) {
                kind = NO_MORE;
            } else if (isLetter(c)) {
                kind = wordKind();
            } else if (isDigit(c)) {
                kind = numberKind();
            } else {
                kind = signKind(c);
            }
        }

        private int byteAt(int i) {
            return i >= 0 && i < length && i < text.length ? text[i] & 255 : -1;
        }

        private static boolean isBlank(int c) {
            return c == 10 || c == 32;
        }

        private static boolean isSmall(int c) {
            return c >= 'a' && c <= 'z';
        }

        private static boolean isLetter(int c) {
            return isSmall(c) || c >= 'A' && c <= 'Z';
        }

        private static boolean isDigit(int c) {
            return c >= '0' && c <= '9';
        }

        private int wordKind() {
            while (next < length && isLetter(byteAt(next))) {
                next++;
            }
            if (next - begin == 1) {
                int c = byteAt(begin);
                value = isSmall(c) ? c - 'a' : c - 'A';
                return isSmall(c) ? PLACE : REGISTER;
            }
            return keywordKind();
        }

        private int keywordKind() {
            return isWord("if") ? IF
                    : isWord("else") ? ELSE
                    : isWord("while") ? WHILE
                    : isWord("say") ? SAY
                    : isWord("atom") ? ATOM
                    : isWord("part") ? PART
                    : isWord("or") ? OR
                    : isWord("retry") ? RETRY
                    : isWord("quit") ? QUIT
                    : isWord("fail") ? FAIL
                    : isWord("try") ? TRY
                    : isWord("catch") ? CATCH
                    : BAD;
        }

        private boolean isWord(String word) {
            if (word.length() != next - begin) {
                return false;
            }
            for (int i = 0; i < word.length(); i++) {
                if (word.charAt(i) != byteAt(begin + i)) {
                    return false;
                }
            }
            return true;
        }

        private int numberKind() {
            while (next < length && isDigit(byteAt(next))) {
                // Past the most it stays past it, however many digits follow.
                if (value <= NUMBER_MOST) {
                    value = value * 10 + byteAt(next) - '0';
                }
                next++;
            }
            return value <= NUMBER_MOST ? NUMBER : BAD;
        }

        private int signKind(int c) {
            next++;
            switch (c) {
                case '{': return LEFT_BRACE;
                case '}': return RIGHT_BRACE;
                case '(': return LEFT_PAREN;
                case ')': return RIGHT_PAREN;
                case ';': return SEMICOLON;
                case '<': return LESS;
                case '+': return PLUS;
                case '-': return MINUS;
                case '*': return TIMES;
                case '=': return equalsKind();
                default: return BAD;
            }
        }

        private int equalsKind() {
            if (byteAt(next) != '=') {
                return ASSIGN;
            }
            next++;
            return EQUAL;
        }
    }

    /** Makes instructions of a text; each part answers false where the text is broken. */
    private static final class Parser {
        private final Scanner scanner;
        final Code code;
        int brokenAt;

        Parser() {
            scanner = new Scanner();
            // No token becomes more than one instruction.
            code = new Code(TAPE_MOST);
            brokenAt = -1;
        }

        boolean parse(byte[] text, int length) {
            code.clear();
            brokenAt = -1;
            scanner.read(text, length);
            return statements(false, 0) && (scanner.kind == Scanner.NO_MORE || broken());
        }

        private boolean broken() {
            brokenAt = scanner.begin;
            return false;
        }

        private boolean expect(int kind) {
            if (scanner.kind != kind) {
                return broken();
            }
            scanner.advance();
            return true;
        }

        private boolean expectNested(int kind, int depth) {
            return depth < DEPTH_MOST ? expect(kind) : broken();
        }

        private boolean statements(boolean within, int depth) {
            // Each statement takes a token, so the bytes of the tape bound them.
            for (int i = 0; i <= TAPE_MOST; i++) {
                if (scanner.kind == Scanner.NO_MORE || scanner.kind == Scanner.RIGHT_BRACE) {
                    return true;
                }
                if (!statement(within, depth)) {
                    return false;
                }
            }
            return broken();
        }

        private boolean block(boolean within, int depth) {
            return expectNested(Scanner.LEFT_BRACE, depth)
                    && statements(within, depth + 1)
                    && expect(Scanner.RIGHT_BRACE);
        }

        private boolean statement(boolean within, int depth) {
            if (code.statements >= STATEMENTS_MOST) {
                return broken();
            }
            code.statements++;
            switch (scanner.kind) {
                case Scanner.PLACE: return assignment(Code.WRITE, depth);
                case Scanner.REGISTER: return assignment(Code.SET, depth);
                case Scanner.IF: return ifStatement(within, depth);
                case Scanner.WHILE: return whileStatement(within, depth);
                case Scanner.SAY: return valueStatement(Code.SAY, depth);
                case Scanner.FAIL: return valueStatement(Code.FAIL, depth);
                case Scanner.ATOM: return levelStatement(within, depth);
                case Scanner.PART: return levelStatement(false, depth);
                case Scanner.RETRY: return bareStatement(Code.RETRY, within);
                case Scanner.QUIT: return bareStatement(Code.QUIT, within);
                case Scanner.TRY: return tryStatement(within, depth);
                default: return broken();
            }
        }

        private boolean assignment(int op, int depth) {
            int letter = scanner.value;
            scanner.advance();
            if (!expect(Scanner.ASSIGN) || !expression(depth)) {
                return false;
            }
            code.add(op, letter);
            return expect(Scanner.SEMICOLON);
        }

        private boolean valueStatement(int op, int depth) {
            scanner.advance();
            if (!expression(depth)) {
                return false;
            }
            code.add(op, 0);
            return expect(Scanner.SEMICOLON);
        }

        private boolean bareStatement(int op, boolean within) {
            if (!within) {
                return broken();
            }
            scanner.advance();
            code.add(op, 0);
            return expect(Scanner.SEMICOLON);
        }

        private boolean condition(int depth) {
            scanner.advance();
            return expectNested(Scanner.LEFT_PAREN, depth)
                    && expression(depth + 1)
                    && expect(Scanner.RIGHT_PAREN);
        }

        private boolean ifStatement(boolean within, int depth) {
            if (!condition(depth)) {
                return false;
            }
            int skip = code.add(Code.UNLESS, 0);
            if (!block(within, depth)) {
                return false;
            }
            if (scanner.kind != Scanner.ELSE) {
                code.setFirst(skip, code.length);
                return true;
            }
            scanner.advance();
            int leave = code.add(Code.JUMP, 0);
            code.setFirst(skip, code.length);
            if (!block(within, depth)) {
                return false;
            }
            code.setFirst(leave, code.length);
            return true;
        }

        private boolean whileStatement(boolean within, int depth) {
            int top = code.length;
            if (!condition(depth)) {
                return false;
            }
            int again = code.add(Code.AGAIN, 0);
            if (!block(within, depth)) {
                return false;
            }
            code.add(Code.JUMP, top);
            code.setFirst(again, code.length);
            return true;
        }

        /** An atom that melts is no level of its own, if no or follows it. */
        private boolean levelStatement(boolean melts, int depth) {
            scanner.advance();
            int begin = code.add(Code.BEGIN, -1);
            if (!block(true, depth)) {
                return false;
            }
            int close = code.add(Code.CLOSE, 0);
            if (scanner.kind == Scanner.OR) {
                scanner.advance();
                code.setFirst(begin, code.length);
                if (!block(true, depth)) {
                    return false;
                }
                code.add(Code.CLOSE, 0);
            } else if (melts) {
                code.setOp(begin, Code.NOTHING);
                code.setOp(close, Code.NOTHING);
            }
            code.setSecond(begin, code.length);
            return true;
        }

        private boolean tryStatement(boolean within, int depth) {
            scanner.advance();
            int begin = code.add(Code.TRY, 0);
            if (!block(within, depth)) {
                return false;
            }
            int leave = code.add(Code.TRIED, 0);
            if (!expect(Scanner.CATCH)) {
                return false;
            }
            code.setFirst(begin, code.length);
            code.setSecond(begin, scanner.value);
            if (!expect(Scanner.REGISTER) || !block(within, depth)) {
                return false;
            }
            code.setFirst(leave, code.length);
            return true;
        }

        private boolean expression(int depth) {
            if (!sum(depth)) {
                return false;
            }
            int kind = scanner.kind;
            if (kind != Scanner.EQUAL && kind != Scanner.LESS) {
                return true;
            }
            scanner.advance();
            if (!sum(depth)) {
                return false;
            }
            code.add(kind == Scanner.EQUAL ? Code.EQUAL : Code.LESS, 0);
            return true;
        }

        private boolean sum(int depth) {
            if (!product(depth)) {
                return false;
            }
            for (int i = 0; i <= TAPE_MOST; i++) {
                int kind = scanner.kind;
                if (kind != Scanner.PLUS && kind != Scanner.MINUS) {
                    return true;
                }
                scanner.advance();
                if (!product(depth)) {
                    return false;
                }
                code.add(kind == Scanner.PLUS ? Code.ADD : Code.SUBTRACT, 0);
            }
            return broken();
        }

        private boolean product(int depth) {
            if (!simple(depth)) {
                return false;
            }
            for (int i = 0; i <= TAPE_MOST; i++) {
                if (scanner.kind != Scanner.TIMES) {
                    return true;
                }
                scanner.advance();
                if (!simple(depth)) {
                    return false;
                }
                code.add(Code.MULTIPLY, 0);
            }
            return broken();
        }

        private boolean simple(int depth) {
            switch (scanner.kind) {
                case Scanner.NUMBER: return leaf(Code.NUMBER);
                case Scanner.PLACE: return leaf(Code.SEE);
                case Scanner.REGISTER: return leaf(Code.GET);
                case Scanner.MINUS:
                    if (!expectNested(Scanner.MINUS, depth) || !simple(depth + 1)) {
                        return false;
                    }
                    code.add(Code.NEGATE, 0);
                    return true;
                default:
                    return expectNested(Scanner.LEFT_PAREN, depth)
                            && expression(depth + 1)
                            && expect(Scanner.RIGHT_PAREN);
            }
        }

        private boolean leaf(int op) {
            code.add(op, scanner.value);
            scanner.advance();
            return true;
        }
    }

    /** What the places have and had, and the clock. */
    private static final class Places {
        static final int FREE = -1;
        private static final int ROOM_AT_FIRST = 64;
        private static final int ROOM_MOST = 65536;

        final int[] value;
        final int[] version;
        final int[] takenBy;
        /** Where the judge begins: 0, or what was put last. */
        final int[] atFirst;
        int clock;
        private final int[] latest;
        private int[] pastClock;
        private int[] pastValue;
        private int[] pastBefore;
        private int room;
        private int pasts;

        Places() {
            value = new int[PLACES];
            version = new int[PLACES];
            takenBy = new int[PLACES];
            atFirst = new int[PLACES];
            latest = new int[PLACES];
            room = ROOM_AT_FIRST;
            pastClock = new int[ROOM_AT_FIRST];
            pastValue = new int[ROOM_AT_FIRST];
            pastBefore = new int[ROOM_AT_FIRST];
            Arrays.fill(takenBy, FREE);
            Arrays.fill(latest, -1);
        }

        void clear() {
            Arrays.fill(value, 0);
            Arrays.fill(version, 0);
            Arrays.fill(takenBy, FREE);
            Arrays.fill(atFirst, 0);
            Arrays.fill(latest, -1);
            clock = 0;
            pasts = 0;
        }

        /** The place has v as from this clock on. */
        void change(int place, int v) {
            if (place < 0 || place >= PLACES) {
                return;
            }
            value[place] = v;
            version[place] = clock;
            if (pasts >= room && room < ROOM_MOST) {
                room = room * 2;
                pastClock = Arrays.copyOf(pastClock, room);
                pastValue = Arrays.copyOf(pastValue, room);
                pastBefore = Arrays.copyOf(pastBefore, room);
            }
            if (pasts >= 0 && pasts < room) {
                pastClock[pasts] = clock;
                pastValue[pasts] = v;
                pastBefore[pasts] = latest[place];
                latest[place] = pasts;
                pasts++;
            }
        }

        int valueAt(int place, int when) {
            if (place < 0 || place >= PLACES) {
                return 0;
            }
            int i = latest[place];
            for (int steps = 0; steps <= pasts && i >= 0 && i < room; steps++) {
                if (pastClock[i] <= when) {
                    return pastValue[i];
                }
                i = pastBefore[i];
            }
            return 0;
        }

        boolean isTakenByOther(int place, int thread) {
            return place >= 0 && place < PLACES && takenBy[place] != FREE && takenBy[place] != thread;
        }

        boolean isTakenBy(int place, int thread) {
            return place >= 0 && place < PLACES && takenBy[place] == thread;
        }

        int howManyTaken() {
            int n = 0;
            for (int p = 0; p < PLACES; p++) {
                if (takenBy[p] != FREE) {
                    n++;
                }
            }
            return n;
        }

        /** All that a thread's block has taken is free, changed at one clock. */
        void release(int thread) {
            boolean ticked = false;
            for (int p = 0; p < PLACES; p++) {
                if (takenBy[p] == thread) {
                    if (!ticked) {
                        clock++;
                        ticked = true;
                    }
                    takenBy[p] = FREE;
                    change(p, value[p]);
                }
            }
        }
    }

    /** A level of a block: what it read, wrote, and how it began. */
    private static final class Level {
        final int[] readPlace;
        final int[] readValue;
        final int[] readVersion;
        int reads;
        private int readMask;
        /** By kept and one: what the place had before; else what it is to have. */
        final int[] written;
        int writeMask;
        final int[] registers;
        int begin;
        boolean inOr;
        int heldBefore;
        int triesBefore;

        Level() {
            readPlace = new int[PLACES];
            readValue = new int[PLACES];
            readVersion = new int[PLACES];
            written = new int[PLACES];
            registers = new int[PLACES];
        }

        void forgetReads() {
            reads = 0;
            readMask = 0;
        }

        void forgetWrites() {
            writeMask = 0;
        }

        void addRead(int place, int v, int version) {
            if (place < 0 || place >= PLACES || (readMask >> place & 1) != 0 || reads < 0 || reads >= PLACES) {
                return;
            }
            readMask |= 1 << place;
            readPlace[reads] = place;
            readValue[reads] = v;
            readVersion[reads] = version;
            reads++;
        }

        void takeReadsOf(Level other) {
            for (int i = 0; i < other.reads && i < PLACES; i++) {
                addRead(other.readPlace[i], other.readValue[i], other.readVersion[i]);
            }
            other.forgetReads();
        }

        boolean wrote(int place) {
            return place >= 0 && place < PLACES && (writeMask >> place & 1) != 0;
        }

        void addWrite(int place, int v) {
            if (place >= 0 && place < PLACES) {
                writeMask |= 1 << place;
                written[place] = v;
            }
        }
    }

    /** A thread: its program, where it is, and the levels that it is in. */
    private static final class Runner {
        private static final int STACK_ROOM = 64;

        final int thread;
        Code code;
        int state;
        int at;
        private final int[] stack;
        private int stacked;
        final int[] registers;
        private final Level[] levels;
        int depth;
        private final int[] tryAt;
        private final int[] tryDepth;
        int tries;
        final int[] held;
        int heldSize;
        int startClock;
        int firstTurn;
        int fromTurn;
        int restarts;
        int ended;
        int failedWith;

        Runner(int number) {
            thread = number;
            code = new Code(0);
            state = NO_PROGRAM;
            stack = new int[STACK_ROOM];
            registers = new int[PLACES];
            levels = new Level[DEPTH_MOST];
            for (int i = 0; i < DEPTH_MOST; i++) {
                levels[i] = new Level();
            }
            tryAt = new int[DEPTH_MOST];
            tryDepth = new int[DEPTH_MOST];
            held = new int[SAID_MOST];
        }

        /** As new, at the begin of its program. */
        void renew() {
            state = READY;
            at = 0;
            stacked = 0;
            Arrays.fill(registers, 0);
            depth = 0;
            tries = 0;
            heldSize = 0;
            startClock = 0;
            firstTurn = 0;
            fromTurn = 0;
            restarts = 0;
            ended = 0;
            failedWith = 0;
        }

        boolean isLeft() {
            return state == READY || state == INSIDE || state == ASLEEP;
        }

        void push(int v) {
            if (stacked >= 0 && stacked < STACK_ROOM) {
                stack[stacked] = v;
                stacked++;
            }
        }

        int pop() {
            if (stacked <= 0 || stacked > STACK_ROOM) {
                return 0;
            }
            stacked--;
            return stack[stacked];
        }

        Level level(int i) {
            return levels[i < 0 ? 0 : i >= DEPTH_MOST ? DEPTH_MOST - 1 : i];
        }

        Level innermost() {
            return level(depth - 1);
        }

        /** Goes a level deeper; begin is where the instruction of its begin stands. */
        void enterLevel(int begin) {
            if (depth < 0 || depth >= DEPTH_MOST) {
                return;
            }
            Level level = level(depth);
            level.forgetReads();
            level.forgetWrites();
            level.begin = begin;
            level.inOr = false;
            level.heldBefore = heldSize;
            level.triesBefore = tries;
            System.arraycopy(registers, 0, level.registers, 0, PLACES);
            depth++;
        }

        /** Registers, said and tries are as they were when a level began. */
        void setBackTo(Level level) {
            System.arraycopy(level.registers, 0, registers, 0, PLACES);
            heldSize = level.heldBefore;
            tries = level.triesBefore;
            stacked = 0;
        }

        void hold(int v) {
            if (heldSize >= 0 && heldSize < SAID_MOST) {
                held[heldSize] = v;
                heldSize++;
            }
        }

        void enterTry(int begin) {
            if (tries >= 0 && tries < DEPTH_MOST) {
                tryAt[tries] = begin;
                tryDepth[tries] = depth;
                tries++;
            }
        }

        void leaveTry() {
            if (tries > 0) {
                tries--;
            }
        }

        int tryAtOf(int i) {
            return i >= 0 && i < DEPTH_MOST ? tryAt[i] : 0;
        }

        int tryDepthOf(int i) {
            return i >= 0 && i < DEPTH_MOST ? tryDepth[i] : 0;
        }

        /** The innermost level in whose first block, with an or, it is; -1 if there is none. */
        int levelWithOr() {
            for (int i = depth - 1; i >= 0; i--) {
                if (!level(i).inOr && code.firstAt(level(i).begin) >= 0) {
                    return i;
                }
            }
            return -1;
        }

        int tellOf(int what) {
            switch (what) {
                case 0: return state;
                case 1: return state == INSIDE ? depth : 0;
                case 2: return readsOfAll();
                case 3: return state == INSIDE ? Integer.bitCount(writesOfAll()) : 0;
                case 4: return restarts;
                case 5: return state == INSIDE ? startClock : 0;
                case 6: return failedWith;
                default: return ended;
            }
        }

        private int readsOfAll() {
            int n = 0;
            for (int i = 0; i < depth; i++) {
                n += level(i).reads;
            }
            return n;
        }

        private int writesOfAll() {
            int mask = 0;
            for (int i = 0; i < depth; i++) {
                mask |= level(i).writeMask;
            }
            return mask;
        }
    }

    /** What was said. */
    private static final class Sayings {
        final int[] thread;
        final int[] value;
        int size;

        Sayings() {
            thread = new int[SAID_MOST];
            value = new int[SAID_MOST];
        }

        void add(int who, int v) {
            if (size >= 0 && size < SAID_MOST) {
                thread[size] = who;
                value[size] = v;
                size++;
            }
        }
    }

    /** What ended, in the order in which it ended. */
    private static final class Records {
        private final int[] thread;
        private final int[] reads;
        private final int[] writes;
        private final int[] from;
        private final int[] to;
        /** Of the records that the judge may see alone. */
        private final int[][] readPlace;
        private final int[][] readValue;
        private final int[][] writePlace;
        private final int[][] writeValue;
        int size;
        /** Whether the newest was not lost. */
        private boolean isKept;

        Records() {
            thread = new int[RECORDS_MOST];
            reads = new int[RECORDS_MOST];
            writes = new int[RECORDS_MOST];
            from = new int[RECORDS_MOST];
            to = new int[RECORDS_MOST];
            readPlace = new int[JUDGED_MOST][PLACES];
            readValue = new int[JUDGED_MOST][PLACES];
            writePlace = new int[JUDGED_MOST][PLACES];
            writeValue = new int[JUDGED_MOST][PLACES];
        }

        void clear() {
            size = 0;
            isKept = false;
        }

        /** A new record; what follows by addRead and addWrite is of it, if it is not lost. */
        void begin(int who, int fromTurn, int toTurn) {
            isKept = size >= 0 && size < RECORDS_MOST;
            if (isKept) {
                thread[size] = who;
                from[size] = fromTurn;
                to[size] = toTurn;
                reads[size] = 0;
                writes[size] = 0;
                size++;
            }
        }

        void addRead(int place, int v) {
            note(reads, readPlace, readValue, place, v);
        }

        void addWrite(int place, int v) {
            note(writes, writePlace, writeValue, place, v);
        }

        private void note(int[] counts, int[][] placesOf, int[][] valuesOf, int place, int v) {
            int i = size - 1;
            if (!isKept || i < 0 || i >= RECORDS_MOST || i >= counts.length) {
                return;
            }
            int n = counts[i];
            if (i < JUDGED_MOST && i < placesOf.length && i < valuesOf.length && n >= 0 && n < PLACES) {
                placesOf[i][n] = place;
                valuesOf[i][n] = v;
            }
            counts[i] = n + 1;
        }

        int tellOf(int i, int what) {
            if (i < 0 || i >= RECORDS_MOST) {
                return 0;
            }
            switch (what) {
                case 0: return thread[i];
                case 1: return reads[i];
                case 2: return writes[i];
                case 3: return from[i];
                default: return to[i];
            }
        }

        /** Whether record i went up to a turn ahead of that from which j went. */
        boolean isAhead(int i, int j) {
            return i >= 0 && i < RECORDS_MOST && j >= 0 && j < RECORDS_MOST && to[i] < from[j];
        }

        boolean readsAreRight(int i, int[] now) {
            if (i < 0 || i >= JUDGED_MOST) {
                return false;
            }
            for (int n = 0; n < reads[i] && n < PLACES; n++) {
                int place = readPlace[i][n];
                if (place < 0 || place >= now.length || now[place] != readValue[i][n]) {
                    return false;
                }
            }
            return true;
        }

        void apply(int i, int[] now) {
            if (i < 0 || i >= JUDGED_MOST) {
                return;
            }
            for (int n = 0; n < writes[i] && n < PLACES; n++) {
                int place = writePlace[i][n];
                if (place >= 0 && place < now.length) {
                    now[place] = writeValue[i][n];
                }
            }
        }
    }

    /** The judge: looks for the least order in which the records may have come. */
    private static final class Arbiter {
        private static final int NONE = 0;
        private static final int FOUND = 1;
        private static final int TOO_MANY = -1;

        final int[] sequence;
        int told;
        /** What the places have behind each beginning that is being tried, by its length. */
        private final int[][] behind;
        private final int[] aheadMask;
        private int tried;

        Arbiter() {
            sequence = new int[JUDGED_MOST];
            behind = new int[JUDGED_MOST + 1][PLACES];
            aheadMask = new int[JUDGED_MOST];
        }

        void forget() {
            told = 0;
        }

        int decide(Records records, Places places) {
            told = 0;
            int n = records.size;
            if (n > JUDGED_MOST) {
                return TOO_MANY;
            }
            for (int j = 0; j < n && j < JUDGED_MOST; j++) {
                aheadMask[j] = maskAhead(records, n, j);
            }
            System.arraycopy(places.atFirst, 0, behind[0], 0, PLACES);
            tried = 0;
            int answer = tryFrom(records, places, 0, 0);
            if (answer == FOUND) {
                told = n;
            }
            return answer;
        }

        private static int maskAhead(Records records, int n, int j) {
            int mask = 0;
            for (int i = 0; i < n && i < JUDGED_MOST; i++) {
                if (records.isAhead(i, j)) {
                    mask |= 1 << i;
                }
            }
            return mask;
        }

        /** Tries the beginning that sequence has up to length, and all that go on from it. */
        private int tryFrom(Records records, Places places, int length, int placed) {
            if (tried >= TRIED_MOST) {
                return TOO_MANY;
            }
            tried++;
            if (length < 0 || length >= records.size || length >= JUDGED_MOST) {
                return isAsItIs(places, length) ? FOUND : NONE;
            }
            for (int j = 0; j < records.size && j < JUDGED_MOST; j++) {
                boolean mayFollow = (placed >> j & 1) == 0 && (aheadMask[j] & ~placed) == 0;
                if (mayFollow && records.readsAreRight(j, behind[length])) {
                    sequence[length] = j;
                    System.arraycopy(behind[length], 0, behind[length + 1], 0, PLACES);
                    records.apply(j, behind[length + 1]);
                    int answer = tryFrom(records, places, length + 1, placed | 1 << j);
                    if (answer != NONE) {
                        return answer;
                    }
                }
            }
            return NONE;
        }

        private boolean isAsItIs(Places places, int length) {
            if (length < 0 || length > JUDGED_MOST) {
                return false;
            }
            for (int p = 0; p < PLACES; p++) {
                if (places.takenBy[p] == Places.FREE && places.value[p] != behind[length][p]) {
                    return false;
                }
            }
            return true;
        }
    }

    /** Runs the threads, turn by turn. */
    private static final class Engine {
        /** A turn comes by no instruction twice but a loop's own, so it needs far fewer. */
        private static final int STEPS_MOST = 1000000;

        final Places places;
        final Runner[] runners;
        final Sayings sayings;
        final Records records;
        int turns;
        private int way;
        /** The number of the turn that is being taken. */
        private int now;

        Engine() {
            places = new Places();
            sayings = new Sayings();
            records = new Records();
            runners = new Runner[THREADS];
            for (int i = 0; i < THREADS; i++) {
                runners[i] = new Runner(i);
            }
            way = BY_CLOCK;
        }

        void startAgain(int newWay) {
            way = newWay;
            turns = 0;
            places.clear();
            sayings.size = 0;
            records.clear();
            for (int i = 0; i < THREADS; i++) {
                if (runners[i].state != NO_PROGRAM) {
                    runners[i].renew();
                }
            }
        }

        int tellOf(int what) {
            switch (what) {
                case 1: return way;
                case 2: return places.clock;
                case 3: return turns;
                case 4: return sayings.size;
                case 5: return records.size;
                case 6: return howManyAre(INSIDE);
                case 7: return howManyAre(ASLEEP);
                default: return places.howManyTaken();
            }
        }

        private int howManyAre(int state) {
            int n = 0;
            for (int i = 0; i < THREADS; i++) {
                if (runners[i].state == state) {
                    n++;
                }
            }
            return n;
        }

        int howManyAreLeft() {
            int n = 0;
            for (int i = 0; i < THREADS; i++) {
                if (runners[i].isLeft()) {
                    n++;
                }
            }
            return n;
        }

        int takeTurn(Runner r) {
            now = turns;
            turns++;
            if (r.state == ASLEEP) {
                return stir(r);
            }
            if (!r.isLeft()) {
                return r.state == DEAD ? IS_DEAD : IS_OVER;
            }
            for (int i = 0; i < STEPS_MOST; i++) {
                int answer = step(r);
                if (answer != GOES_ON) {
                    return answer;
                }
            }
            return DID_ACT;
        }

        private int step(Runner r) {
            Code code = r.code;
            int at = r.at;
            if (at < 0 || at >= code.length || at >= code.room) {
                r.state = OVER;
                return IS_OVER;
            }
            r.at = at + 1;
            int argument = code.first[at];
            switch (code.op[at]) {
                case Code.SEE: return see(r, argument);
                case Code.WRITE: return write(r, argument, r.pop());
                case Code.SAY: return say(r, r.pop());
                case Code.BEGIN: return beginLevel(r, at);
                case Code.CLOSE: return closeLevel(r);
                case Code.RETRY: return retry(r);
                case Code.QUIT: return quit(r);
                case Code.FAIL: return fail(r, r.pop());
                case Code.AGAIN: return again(r, argument);
                case Code.TRY:
                    r.enterTry(at);
                    return GOES_ON;
                case Code.TRIED:
                    r.leaveTry();
                    r.at = argument;
                    return GOES_ON;
                default:
                    onTheWay(r, code.op[at], argument);
                    return GOES_ON;
            }
        }

        private static void onTheWay(Runner r, int op, int argument) {
            switch (op) {
                case Code.NUMBER:
                    r.push(argument);
                    break;
                case Code.GET:
                    r.push(argument >= 0 && argument < PLACES ? r.registers[argument] : 0);
                    break;
                case Code.SET:
                    setRegister(r, argument, r.pop());
                    break;
                case Code.NEGATE:
                    r.push(-r.pop());
                    break;
                case Code.JUMP:
                    r.at = argument;
                    break;
                case Code.UNLESS:
                    if (r.pop() == 0) {
                        r.at = argument;
                    }
                    break;
                case Code.NOTHING:
                    break;
                default:
                    int right = r.pop();
                    r.push(compute(op, r.pop(), right));
                    break;
            }
        }

        private static int compute(int op, int left, int right) {
            switch (op) {
                case Code.ADD: return left + right;
                case Code.SUBTRACT: return left - right;
                case Code.MULTIPLY: return left * right;
                case Code.EQUAL: return left == right ? 1 : 0;
                default: return left < right ? 1 : 0;
            }
        }

        private static void setRegister(Runner r, int i, int v) {
            if (i >= 0 && i < PLACES) {
                r.registers[i] = v;
            }
        }

        private static int again(Runner r, int exit) {
            if (r.pop() != 0) {
                return DID_ACT;
            }
            r.at = exit;
            return GOES_ON;
        }

        private int say(Runner r, int v) {
            if (r.depth > 0) {
                r.hold(v);
            } else {
                sayings.add(r.thread, v);
            }
            return DID_ACT;
        }

        private boolean writesAtOnce() {
            return way == KEPT || way == ONE;
        }

        private int see(Runner r, int place) {
            if (place < 0 || place >= PLACES) {
                return DID_ACT;
            }
            if (r.depth > 0 && !writesAtOnce()) {
                return seeHeld(r, place);
            }
            if (r.depth == 0) {
                records.begin(r.thread, now, now);
                records.addRead(place, places.value[place]);
            } else if (!places.isTakenBy(place, r.thread)) {
                if (way == KEPT && !mayTouch(r, place)) {
                    return DID_CONFLICT;
                }
                r.innermost().addRead(place, places.value[place], places.version[place]);
            }
            r.push(places.value[place]);
            return DID_ACT;
        }

        /** A look within a block, in the ways in which writes wait for its end. */
        private int seeHeld(Runner r, int place) {
            for (int i = r.depth - 1; i >= 0; i--) {
                Level level = r.level(i);
                if (level.wrote(place)) {
                    r.push(level.written[place]);
                    return DID_ACT;
                }
            }
            boolean isLate = way == BY_CLOCK && places.version[place] > r.startClock;
            int wrong = isLate || way == BY_VALUES ? outermostWrong(r) : -1;
            if (isLate || wrong >= 0) {
                restart(r, wrong >= 0 ? wrong : r.depth - 1);
                return DID_CONFLICT;
            }
            if (way == BY_VALUES) {
                r.startClock = places.clock;
            }
            int v = way == WITH_PASTS ? places.valueAt(place, r.startClock) : places.value[place];
            r.innermost().addRead(place, v, places.version[place]);
            r.push(v);
            return DID_ACT;
        }

        private int write(Runner r, int place, int v) {
            if (place < 0 || place >= PLACES) {
                return DID_ACT;
            }
            if (r.depth == 0) {
                places.clock++;
                places.change(place, v);
                records.begin(r.thread, now, now);
                records.addWrite(place, v);
                return DID_ACT;
            }
            if (!writesAtOnce()) {
                r.innermost().addWrite(place, v);
                return DID_ACT;
            }
            if (way == KEPT && !mayTouch(r, place)) {
                return DID_CONFLICT;
            }
            if (!r.innermost().wrote(place)) {
                r.innermost().addWrite(place, places.value[place]);
            }
            places.takenBy[place] = r.thread;
            places.value[place] = v;
            return DID_ACT;
        }

        /** By kept: rivals first, then the reads; false if it restarted. */
        private boolean mayTouch(Runner r, int place) {
            int loser = loserAbout(r, place);
            if (loser >= 0 && loser < THREADS) {
                restart(runners[loser], 0);
            }
            if (loser == r.thread) {
                return false;
            }
            int wrong = outermostWrong(r);
            restart(r, wrong);
            return wrong < 0;
        }

        /** Which of two rivals loses, -1 if nobody else has taken the place. */
        private int loserAbout(Runner r, int place) {
            if (!places.isTakenByOther(place, r.thread)) {
                return -1;
            }
            int holder = places.takenBy[place];
            if (holder < 0 || holder >= THREADS) {
                return -1;
            }
            return runners[holder].firstTurn > r.firstTurn ? holder : r.thread;
        }

        /** The outermost level that has a wrong read, -1 if there is none. */
        private int outermostWrong(Runner r) {
            if (way == BY_VALUES && places.clock == r.startClock) {
                return -1;
            }
            for (int k = 0; k < r.depth; k++) {
                Level level = r.level(k);
                for (int i = 0; i < level.reads && i < PLACES; i++) {
                    if (isWrong(r, level, i)) {
                        return k;
                    }
                }
            }
            return -1;
        }

        private boolean isWrong(Runner r, Level level, int i) {
            if (i < 0 || i >= PLACES) {
                return false;
            }
            int place = level.readPlace[i];
            if (place < 0 || place >= PLACES) {
                return false;
            }
            switch (way) {
                case BY_CLOCK:
                case WITH_PASTS: return places.version[place] > r.startClock;
                case BY_VALUES: return places.value[place] != level.readValue[i];
                case KEPT:
                    return places.isTakenByOther(place, r.thread) || places.version[place] != level.readVersion[i];
                default: return false;
            }
        }

        /** Level k goes on at its begin; there is nothing to do if k is none of its levels. */
        private void restart(Runner r, int k) {
            if (k < 0 || k >= r.depth) {
                return;
            }
            takeBack(r, k);
            Level level = r.level(k);
            level.forgetReads();
            level.inOr = false;
            r.depth = k + 1;
            if (k == 0) {
                places.release(r.thread);
                r.fromTurn = now;
            }
            r.startClock = places.clock;
            r.restarts++;
            r.at = level.begin + 1;
        }

        /** The writes of level k and those within go; registers and said are as at its begin. */
        private void takeBack(Runner r, int k) {
            for (int i = r.depth - 1; i >= k; i--) {
                Level level = r.level(i);
                if (writesAtOnce()) {
                    giveBack(level);
                }
                level.forgetWrites();
            }
            r.setBackTo(r.level(k));
        }

        private void giveBack(Level level) {
            for (int p = 0; p < PLACES; p++) {
                if ((level.writeMask >> p & 1) != 0) {
                    places.value[p] = level.written[p];
                }
            }
        }

        /** The reads of levels deeper than k come to k, the innermost first. */
        private static void foldReads(Runner r, int k) {
            for (int i = r.depth - 1; i > k && i > 0; i--) {
                r.level(i - 1).takeReadsOf(r.level(i));
            }
        }

        /** Leaves, taken back, all levels from k on; what is left of level 0 ends so. */
        private void leaveFrom(Runner r, int k) {
            if (k < 0 || k >= r.depth) {
                return;
            }
            foldReads(r, k - 1);
            takeBack(r, k);
            r.depth = k;
            if (k == 0) {
                places.release(r.thread);
                r.state = READY;
            }
        }

        private int beginLevel(Runner r, int at) {
            if (r.depth > 0) {
                r.enterLevel(at);
                return GOES_ON;
            }
            if (isBusy(r)) {
                r.at = at;
                return IS_BUSY;
            }
            r.heldSize = 0;
            r.enterLevel(at);
            r.state = INSIDE;
            r.startClock = places.clock;
            r.firstTurn = now;
            r.fromTurn = now;
            return DID_ACT;
        }

        private boolean isBusy(Runner r) {
            return way == ONE && howManyAre(INSIDE) > (r.state == INSIDE ? 1 : 0);
        }

        private int closeLevel(Runner r) {
            if (r.depth <= 0) {
                return GOES_ON;
            }
            int behind = r.code.secondAt(r.innermost().begin);
            if (r.depth > 1) {
                joinAround(r);
                r.at = behind;
                return GOES_ON;
            }
            if (!mayEnd(r)) {
                return DID_CONFLICT;
            }
            finish(r);
            r.at = behind;
            return DID_ACT;
        }

        /** A part ended: what it has comes to the level around it. */
        private void joinAround(Runner r) {
            Level part = r.level(r.depth - 1);
            Level around = r.level(r.depth - 2);
            around.takeReadsOf(part);
            for (int p = 0; p < PLACES; p++) {
                // What was kept first is what stood before both.
                if (part.wrote(p) && !(writesAtOnce() && around.wrote(p))) {
                    around.addWrite(p, part.written[p]);
                }
            }
            part.forgetWrites();
            r.depth--;
        }

        /** Whether a block may end; if not, it has restarted. */
        private boolean mayEnd(Runner r) {
            Level block = r.level(0);
            if (way != KEPT && block.writeMask == 0) {
                return true;
            }
            for (int i = 0; way == KEPT && i < block.reads && i < PLACES; i++) {
                int loser = loserAbout(r, block.readPlace[i]);
                if (loser >= 0 && loser < THREADS) {
                    restart(runners[loser], 0);
                }
                if (loser == r.thread) {
                    return false;
                }
            }
            int wrong = outermostWrong(r);
            restart(r, wrong);
            return wrong < 0;
        }

        private void finish(Runner r) {
            Level block = r.level(0);
            if (writesAtOnce()) {
                places.release(r.thread);
            } else if (block.writeMask != 0) {
                places.clock++;
                for (int p = 0; p < PLACES; p++) {
                    if (block.wrote(p)) {
                        places.change(p, block.written[p]);
                    }
                }
            }
            writeRecord(r, block);
            for (int i = 0; i < r.heldSize && i < SAID_MOST; i++) {
                sayings.add(r.thread, r.held[i]);
            }
            r.heldSize = 0;
            r.ended++;
            r.depth = 0;
            r.state = READY;
        }

        private void writeRecord(Runner r, Level block) {
            records.begin(r.thread, r.fromTurn, now);
            for (int i = 0; i < block.reads && i < PLACES; i++) {
                records.addRead(block.readPlace[i], block.readValue[i]);
            }
            for (int p = 0; p < PLACES; p++) {
                if (block.wrote(p)) {
                    records.addWrite(p, places.value[p]);
                }
            }
        }

        private int retry(Runner r) {
            int k = r.levelWithOr();
            if (k < 0) {
                return fallAsleep(r);
            }
            foldReads(r, k > 0 ? k - 1 : 0);
            takeBack(r, k);
            r.depth = k + 1;
            Level level = r.level(k);
            level.inOr = true;
            r.at = r.code.firstAt(level.begin);
            return DID_ACT;
        }

        private int fallAsleep(Runner r) {
            foldReads(r, 0);
            takeBack(r, 0);
            r.depth = 1;
            places.release(r.thread);
            r.state = ASLEEP;
            return IS_ASLEEP;
        }

        /** A turn of one that is asleep. */
        private int stir(Runner r) {
            if (!hasNews(r)) {
                return IS_ASLEEP;
            }
            if (isBusy(r)) {
                return IS_BUSY;
            }
            r.state = INSIDE;
            restart(r, 0);
            return DID_WAKE;
        }

        private boolean hasNews(Runner r) {
            Level block = r.level(0);
            for (int i = 0; i < block.reads && i < PLACES; i++) {
                int place = block.readPlace[i];
                if (place >= 0 && place < PLACES && !places.isTakenByOther(place, r.thread)
                        && places.value[place] != block.readValue[i]) {
                    return true;
                }
            }
            return false;
        }

        private int quit(Runner r) {
            if (r.depth <= 0) {
                return DID_ACT;
            }
            int behind = r.code.secondAt(r.innermost().begin);
            leaveFrom(r, r.depth - 1);
            r.at = behind;
            return DID_ACT;
        }

        private int fail(Runner r, int v) {
            int i = r.tries - 1;
            if (i < 0) {
                leaveFrom(r, 0);
                r.state = DEAD;
                r.failedWith = v;
                return IS_DEAD;
            }
            int begin = r.tryAtOf(i);
            leaveFrom(r, r.tryDepthOf(i));
            r.tries = i;
            setRegister(r, r.code.secondAt(begin), v);
            r.at = r.code.firstAt(begin);
            return GOES_ON;
        }
    }
}
