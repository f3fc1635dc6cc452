import java.util.NoSuchElementException;

/** Cells with formulas over one another: only what must be is worked out anew. */
public final class CellWorks {
    public static final int NONE = -1;

    private static final int MOST_BYTES = 2000;
    private static final int FED_BYTES = 20;
    private static final int MOST_CELLS = 64;
    private static final int MOST_NODES = 40;
    private static final int MOST_DEPTH = 20;
    private static final int MOST_NAME_BYTES = 8;
    private static final int MOST_DIGITS = 9;
    // A node is one step, but for "if", which is two.
    private static final int MOST_STEPS = 2 * MOST_NODES;

    // What a name's result is; state() answers these numbers.
    private static final int NOTHING = 0;
    private static final int VALUE = 1;
    private static final int DIVIDED_BY_ZERO = 2;
    private static final int NO_OPERAND = 3;
    private static final int STALE = 4;

    private static final int NO_FAULT = 0;
    private static final int NO_TOKEN = 1;
    private static final int MISPLACED = 2;
    private static final int TOO_MUCH = 3;
    private static final int NO_ROOM = 4;
    private static final int CIRCLE = 5;

    // Kinds of tokens and of steps; a sign's kind is its byte, and no byte of a sign is below 40.
    private static final int END = 0;
    private static final int BAD = 1;
    private static final int NAME = 2;
    private static final int NUMBER = 3;
    private static final int MIN = 4;
    private static final int MAX = 5;
    private static final int IF = 6;
    private static final int NEGATE = 7;
    private static final int TEST = 8;
    private static final int SKIP = 9;

    // A name is held in a long, its first byte highest and zeros behind it: so longs stand in the order of names.
    private static final long NO_NAME = 0L;
    private static final long NAME_MIN = 0x6D696E0000000000L;
    private static final long NAME_MAX = 0x6D61780000000000L;
    private static final long NAME_IF = 0x6966000000000000L;

    private final Reader reader;
    private final Cells cells;
    private final Builder builder;

    public CellWorks() {
        reader = new Reader();
        cells = new Cells();
        builder = new Builder();
    }

    public int feed(int a, int b, int c, int d, int e) throws UnsupportedOperationException {
        Tape tape = reader.tape;
        if (tape.length + FED_BYTES > MOST_BYTES) {
            throw new UnsupportedOperationException("the tape would have more than 2000 bytes");
        }
        tape.add(a);
        tape.add(b);
        tape.add(c);
        tape.add(d);
        tape.add(e);
        return tape.length;
    }

    public void end(int n) throws IllegalArgumentException {
        if (n < 0 || n > reader.tape.length) {
            throw new IllegalArgumentException("the tape has not so many bytes");
        }
        reader.tape.length = n;
    }

    public int define() {
        if (reader.readDefinition()) {
            settle();
        }
        reader.tape.length = 0;
        return reader.faultCode == NO_FAULT ? NONE : reader.faultPlace;
    }

    public int fault() {
        return reader.faultCode;
    }

    public boolean remove() throws NoSuchElementException {
        long name = nameOnTape();
        reader.tape.length = 0;
        return cells.drop(name);
    }

    public int build() throws NoSuchElementException {
        long name = nameOnTape();
        reader.tape.length = 0;
        int place = cells.indexOf(name);
        int workedOut = builder.run(cells, place == NONE ? 0L : 1L << place);
        return place == NONE ? NONE : workedOut;
    }

    public int buildAll() {
        return builder.run(cells, cells.all());
    }

    public long value() throws NoSuchElementException {
        return cells.valueOf(cells.find(nameOnTape()));
    }

    public int state() throws NoSuchElementException {
        Cell cell = cells.find(nameOnTape());
        if (cell == null) {
            return NONE;
        }
        return cell.kind + (cells.isStale(cell) ? STALE : 0);
    }

    public int readers(boolean all) throws NoSuchElementException {
        long name = nameOnTape();
        return Long.bitCount(all ? cells.dependents(name) : cells.directReaders(name));
    }

    public int built(int i, int k) throws IndexOutOfBoundsException {
        int found = builder.byteOfLatest(i, k);
        if (found == NONE) {
            throw new IndexOutOfBoundsException("there is no such name or byte");
        }
        return found;
    }

    public int count(int what) throws IllegalArgumentException {
        switch (what) {
            case 0:
                return cells.size;
            case 1:
                return cells.staleOnes();
            case 2:
                return reader.tape.length;
            case 3:
                return builder.total;
            case 4:
                return builder.latestSize;
            default:
                throw new IllegalArgumentException("what is none of 0 to 4");
        }
    }

    private long nameOnTape() {
        long name = reader.tape.onlyName();
        if (name == NO_NAME) {
            throw new NoSuchElementException("the tape is no NAME");
        }
        return name;
    }

    /** Takes in the definition that was read, if the faults 4 and 5 do not forbid it. */
    private void settle() {
        Cell cell = cells.find(reader.name);
        if (cell == null && cells.size == MOST_CELLS) {
            reader.refuseAt(NO_ROOM, 0);
            return;
        }
        int circle = cells.firstInCircle(reader.name, reader.formula);
        if (circle != NONE) {
            reader.refuseAt(CIRCLE, reader.placeOfName(circle));
            return;
        }
        if (cell == null) {
            cells.insert(new Cell(reader.name, reader.exchangeFormula(new Formula())));
        } else {
            cell.formula = reader.exchangeFormula(cell.formula);
            cell.workedOut = false;
        }
    }

    /** The bytes that were fed, and the token of them that was read last. */
    private static final class Tape {
        private static final int NO_BYTE = -1;

        final byte[] bytes = new byte[MOST_BYTES];
        int length = 0;
        int next = 0;
        int kind = END;
        int start = 0;
        long name = NO_NAME;
        int number = 0;

        void add(int word) {
            for (int shift = 24; shift >= 0; shift -= 8) {
                if (length >= 0 && length < bytes.length) {
                    bytes[length] = (byte) (word >>> shift);
                    length++;
                }
            }
        }

        int byteAt(int i) {
            return i >= 0 && i < length && i < bytes.length ? bytes[i] & 255 : NO_BYTE;
        }

        void rewind() {
            next = 0;
        }

        /** The name, when the tape is just a NAME; else NO_NAME. */
        long onlyName() {
            rewind();
            readToken();
            long found = kind == NAME ? name : NO_NAME;
            readToken();
            return kind == END ? found : NO_NAME;
        }

        void readToken() {
            while (next < length && isBlank(byteAt(next))) {
                next++;
            }
            start = next;
            int first = byteAt(start);
            if (first == NO_BYTE) {
                kind = END;
            } else if (isLetter(first)) {
                readWord();
            } else if (isDigit(first)) {
                readNumber();
            } else {
                kind = isMark(first) ? first : BAD;
                next++;
            }
        }

        private void readWord() {
            name = NO_NAME;
            while (next < length && (isLetter(byteAt(next)) || isDigit(byteAt(next)))) {
                int k = next - start;
                if (k < MOST_NAME_BYTES) {
                    name |= (long) byteAt(next) << (56 - 8 * k);
                }
                next++;
            }
            kind = next - start > MOST_NAME_BYTES ? BAD : kindOfWord(name);
        }

        private void readNumber() {
            number = 0;
            while (next < length && isDigit(byteAt(next))) {
                number = 10 * number + byteAt(next) - '0';
                next++;
            }
            kind = next - start > MOST_DIGITS ? BAD : NUMBER;
        }

        private static int kindOfWord(long word) {
            if (word == NAME_MIN) {
                return MIN;
            }
            if (word == NAME_MAX) {
                return MAX;
            }
            return word == NAME_IF ? IF : NAME;
        }

        private static boolean isBlank(int c) {
            return c == 9 || c == 10 || c == 13 || c == 32;
        }

        private static boolean isLetter(int c) {
            return (c >= 'a' && c <= 'z') || (c >= 'A' && c <= 'Z');
        }

        private static boolean isDigit(int c) {
            return c >= '0' && c <= '9';
        }

        private static boolean isMark(int c) {
            return c == '=' || c == '+' || c == '-' || c == '*' || c == '/' || c == '(' || c == ')' || c == ',';
        }
    }

    /**
     * A formula as steps over a stack, with the names that stand in it and the results that they had when it was
     * last worked out.
     */
    private static final class Formula {
        final int[] steps = new int[MOST_STEPS];
        final int[] details = new int[MOST_STEPS];
        int length = 0;
        final long[] names = new long[MOST_NODES];
        final int[] seenKinds = new int[MOST_NODES];
        final long[] seenValues = new long[MOST_NODES];
        int nameCount = 0;

        void clear() {
            length = 0;
            nameCount = 0;
        }

        void addStep(int step, int detail) {
            if (length >= 0 && length < steps.length && length < details.length) {
                steps[length] = step;
                details[length] = detail;
                length++;
            }
        }

        void addName(long name) {
            if (nameCount >= 0 && nameCount < names.length) {
                names[nameCount] = name;
                addStep(NAME, nameCount);
                nameCount++;
            }
        }

        /** Lets the jump at this step lead to the step that comes next. */
        void aimHere(int jump) {
            if (jump >= 0 && jump < length && jump < details.length) {
                details[jump] = length;
            }
        }

        boolean mentions(long name) {
            for (int i = 0; i < nameCount; i++) {
                if (names[i] == name) {
                    return true;
                }
            }
            return false;
        }
    }

    /**
     * Reads the tape as a definition. Its methods answer whether there was no fault yet; a token is passed only
     * when it has none of the faults, so that the first fault on the tape is the one that is found.
     */
    private static final class Reader {
        final Tape tape = new Tape();
        Formula formula = new Formula();
        long name = NO_NAME;
        int faultCode = NO_FAULT;
        int faultPlace = 0;
        private int nodes = 0;
        private final int[] places = new int[MOST_NODES];

        boolean readDefinition() {
            faultCode = NO_FAULT;
            nodes = 0;
            formula.clear();
            tape.rewind();
            if (!pass()) {
                return false;
            }
            name = tape.name;
            return expect(NAME) && expect('=') && sum(0) && (tape.kind == END || refuse(MISPLACED));
        }

        int placeOfName(int i) {
            return i >= 0 && i < places.length ? places[i] : 0;
        }

        /** Gives away the formula that was read; the other one will hold the next. */
        Formula exchangeFormula(Formula other) {
            Formula given = formula;
            formula = other;
            return given;
        }

        void refuseAt(int code, int place) {
            faultCode = code;
            faultPlace = place;
        }

        private boolean refuse(int code) {
            refuseAt(code, tape.start);
            return false;
        }

        private boolean pass() {
            tape.readToken();
            return tape.kind != BAD || refuse(NO_TOKEN);
        }

        private boolean expect(int kind) {
            return tape.kind == kind ? pass() : refuse(MISPLACED);
        }

        private boolean passNode() {
            if (nodes >= MOST_NODES) {
                return refuse(TOO_MUCH);
            }
            nodes++;
            return pass();
        }

        private boolean passOpening(int depth) {
            if (tape.kind != '(') {
                return refuse(MISPLACED);
            }
            return depth < MOST_DEPTH ? pass() : refuse(TOO_MUCH);
        }

        private boolean sum(int depth) {
            if (!product(depth)) {
                return false;
            }
            for (int n = 0; n < MOST_NODES && (tape.kind == '+' || tape.kind == '-'); n++) {
                int sign = tape.kind;
                if (!passNode() || !product(depth)) {
                    return false;
                }
                formula.addStep(sign, 0);
            }
            return true;
        }

        private boolean product(int depth) {
            if (!part(depth)) {
                return false;
            }
            for (int n = 0; n < MOST_NODES && (tape.kind == '*' || tape.kind == '/'); n++) {
                int sign = tape.kind;
                if (!passNode() || !part(depth)) {
                    return false;
                }
                formula.addStep(sign, 0);
            }
            return true;
        }

        private boolean part(int depth) {
            switch (tape.kind) {
                case NUMBER:
                    formula.addStep(NUMBER, tape.number);
                    return passNode();
                case NAME:
                    noteName();
                    return passNode();
                case '-':
                    return negated(depth);
                case '(':
                    return passOpening(depth) && sum(depth + 1) && expect(')');
                case MIN:
                case MAX:
                    return lesserOrGreater(depth);
                case IF:
                    return choice(depth);
                default:
                    return refuse(MISPLACED);
            }
        }

        private void noteName() {
            int i = formula.nameCount;
            if (i >= 0 && i < places.length) {
                places[i] = tape.start;
            }
            formula.addName(tape.name);
        }

        private boolean negated(int depth) {
            if (depth >= MOST_DEPTH) {
                return refuse(TOO_MUCH);
            }
            if (!passNode() || !part(depth + 1)) {
                return false;
            }
            formula.addStep(NEGATE, 0);
            return true;
        }

        private boolean lesserOrGreater(int depth) {
            int function = tape.kind;
            if (!passNode() || !passOpening(depth) || !sum(depth + 1) || !expect(',') || !sum(depth + 1)) {
                return false;
            }
            formula.addStep(function, 0);
            return expect(')');
        }

        private boolean choice(int depth) {
            if (!passNode() || !passOpening(depth) || !sum(depth + 1) || !expect(',')) {
                return false;
            }
            int test = formula.length;
            formula.addStep(TEST, 0);
            if (!sum(depth + 1) || !expect(',')) {
                return false;
            }
            int skip = formula.length;
            formula.addStep(SKIP, 0);
            formula.aimHere(test);
            if (!sum(depth + 1)) {
                return false;
            }
            formula.aimHere(skip);
            return expect(')');
        }
    }

    /** A cell; its value is 0 when its result is none, so that two results are the same when both parts are. */
    private static final class Cell {
        final long name;
        Formula formula;
        boolean workedOut = false;
        int kind = NOTHING;
        long value = 0;

        Cell(long name, Formula formula) {
            this.name = name;
            this.formula = formula;
        }
    }

    /** The cells in the order of their names. A set of them is a long with a bit for each one's place. */
    private static final class Cells {
        final Cell[] rows = new Cell[MOST_CELLS];
        int size = 0;
        // The cells whose names stand in the formula of the cell at each place, when traced.
        final long[] reads = new long[MOST_CELLS];

        /** How many cells have a name before this one; each step is taken once, since 64 is a power of 2. */
        private int placeFor(long name) {
            int place = 0;
            for (int step = MOST_CELLS; step > 0; step /= 2) {
                if (place + step <= size && rows[place + step - 1].name < name) {
                    place += step;
                }
            }
            return place;
        }

        int indexOf(long name) {
            int place = placeFor(name);
            return place < size && rows[place].name == name ? place : NONE;
        }

        Cell find(long name) {
            int place = indexOf(name);
            return place == NONE ? null : rows[place];
        }

        void insert(Cell cell) {
            if (size >= rows.length) {
                return;
            }
            int place = placeFor(cell.name);
            for (int p = size; p > place; p--) {
                rows[p] = rows[p - 1];
            }
            rows[place] = cell;
            size++;
        }

        boolean drop(long name) {
            int place = indexOf(name);
            if (place == NONE) {
                return false;
            }
            for (int p = place; p + 1 < size; p++) {
                rows[p] = rows[p + 1];
            }
            size--;
            return true;
        }

        int kindOf(Cell cell) {
            return cell == null ? NOTHING : cell.kind;
        }

        long valueOf(Cell cell) {
            return cell == null ? 0 : cell.value;
        }

        boolean isStale(Cell cell) {
            if (!cell.workedOut) {
                return true;
            }
            Formula formula = cell.formula;
            for (int i = 0; i < formula.nameCount; i++) {
                Cell read = find(formula.names[i]);
                if (formula.seenKinds[i] != kindOf(read) || formula.seenValues[i] != valueOf(read)) {
                    return true;
                }
            }
            return false;
        }

        /** Notes the results that the names in the formula have now: by them it is worked out. */
        void look(Formula formula) {
            for (int i = 0; i < formula.nameCount; i++) {
                Cell read = find(formula.names[i]);
                formula.seenKinds[i] = kindOf(read);
                formula.seenValues[i] = valueOf(read);
            }
        }

        int staleOnes() {
            int found = 0;
            for (int p = 0; p < size; p++) {
                if (isStale(rows[p])) {
                    found++;
                }
            }
            return found;
        }

        long all() {
            long set = 0;
            for (int p = 0; p < size; p++) {
                set |= 1L << p;
            }
            return set;
        }

        /** Done anew by each call that needs it, since places shift and names get and lose their cells. */
        private void trace() {
            for (int p = 0; p < size; p++) {
                Formula formula = rows[p].formula;
                long set = 0;
                for (int i = 0; i < formula.nameCount; i++) {
                    int place = indexOf(formula.names[i]);
                    if (place != NONE) {
                        set |= 1L << place;
                    }
                }
                reads[p] = set;
            }
        }

        long directReaders(long name) {
            long set = 0;
            for (int p = 0; p < size; p++) {
                if (rows[p].formula.mentions(name)) {
                    set |= 1L << p;
                }
            }
            return set;
        }

        long dependents(long name) {
            long set = directReaders(name);
            long before = 0;
            trace();
            for (int round = 0; round < size && set != before; round++) {
                before = set;
                for (int p = 0; p < size; p++) {
                    if ((reads[p] & set) != 0) {
                        set |= 1L << p;
                    }
                }
            }
            return set;
        }

        /** The cells of the set and all on which they depend. */
        long withGround(long wanted) {
            long set = wanted;
            long before = 0;
            trace();
            for (int round = 0; round < size && set != before; round++) {
                before = set;
                for (int p = 0; p < size; p++) {
                    if ((set & (1L << p)) != 0) {
                        set |= reads[p];
                    }
                }
            }
            return set;
        }

        /** Which of the formula's names is the first that would close a circle, if the cell of this name had it. */
        int firstInCircle(long name, Formula formula) {
            long dependents = dependents(name);
            for (int i = 0; i < formula.nameCount; i++) {
                int place = indexOf(formula.names[i]);
                if (formula.names[i] == name || (place != NONE && (dependents & (1L << place)) != 0)) {
                    return i;
                }
            }
            return NONE;
        }
    }

    /** Works out a formula from the results that its names were seen with. */
    private static final class Work {
        private final long[] stack = new long[MOST_NODES];
        private int height = 0;
        int kind = NOTHING;
        long value = 0;

        void run(Formula formula) {
            height = 0;
            kind = VALUE;
            int goOnAt = 0;
            for (int at = 0; at < formula.length && kind == VALUE; at++) {
                if (at >= goOnAt) {
                    goOnAt = take(formula, formula.steps[at], formula.details[at], at + 1);
                }
            }
            value = kind == VALUE ? pop() : 0;
        }

        /** Takes one step and answers at which one to go on. */
        private int take(Formula formula, int step, int detail, int next) {
            switch (step) {
                case NUMBER:
                    push(detail);
                    return next;
                case NAME:
                    pushResult(formula, detail);
                    return next;
                case NEGATE:
                    push(-pop());
                    return next;
                case TEST:
                    return pop() > 0 ? next : detail;
                case SKIP:
                    return detail;
                default:
                    long right = pop();
                    long left = pop();
                    join(step, left, right);
                    return next;
            }
        }

        private void pushResult(Formula formula, int i) {
            if (i < 0 || i >= formula.nameCount || formula.seenKinds[i] != VALUE) {
                kind = NO_OPERAND;
                return;
            }
            push(formula.seenValues[i]);
        }

        private void join(int step, long left, long right) {
            switch (step) {
                case '+':
                    push(left + right);
                    return;
                case '-':
                    push(left - right);
                    return;
                case '*':
                    push(left * right);
                    return;
                case '/':
                    divide(left, right);
                    return;
                case MIN:
                    push(Math.min(left, right));
                    return;
                default:
                    push(Math.max(left, right));
                    return;
            }
        }

        private void divide(long left, long right) {
            if (right == 0) {
                kind = DIVIDED_BY_ZERO;
                return;
            }
            push(left / right);
        }

        private void push(long operand) {
            if (height >= 0 && height < stack.length) {
                stack[height] = operand;
                height++;
            }
        }

        private long pop() {
            if (height <= 0 || height > stack.length) {
                return 0;
            }
            height--;
            return stack[height];
        }
    }

    /** Builds cells, and keeps the names of those that it worked out last. */
    private static final class Builder {
        private final Work work = new Work();
        private final long[] latest = new long[MOST_CELLS];
        int latestSize = 0;
        int total = 0;

        /** Builds the cells of the set: how many were worked out. */
        int run(Cells cells, long wanted) {
            long all = cells.withGround(wanted);
            long done = 0;
            long workedOut = 0;
            for (int round = 0; round < cells.size && done != all; round++) {
                for (int p = 0; p < cells.size; p++) {
                    long bit = 1L << p;
                    if ((all & ~done & bit) == 0 || (cells.reads[p] & ~done) != 0) {
                        continue;
                    }
                    done |= bit;
                    if (cells.isStale(cells.rows[p])) {
                        workOut(cells, cells.rows[p]);
                        workedOut |= bit;
                    }
                }
            }
            keepNames(cells, workedOut);
            return latestSize;
        }

        private void workOut(Cells cells, Cell cell) {
            cells.look(cell.formula);
            work.run(cell.formula);
            cell.kind = work.kind;
            cell.value = work.value;
            cell.workedOut = true;
        }

        private void keepNames(Cells cells, long workedOut) {
            latestSize = 0;
            for (int p = 0; p < cells.size; p++) {
                if ((workedOut & (1L << p)) != 0 && latestSize < latest.length) {
                    latest[latestSize] = cells.rows[p].name;
                    latestSize++;
                }
            }
            total += latestSize;
        }

        /** Byte k of name i, or NONE; the zeros behind a name are no bytes of it. */
        int byteOfLatest(int i, int k) {
            if (i < 0 || i >= latestSize || k < 0 || k >= MOST_NAME_BYTES) {
                return NONE;
            }
            int found = (int) (latest[i] >>> (56 - 8 * k)) & 255;
            return found == 0 ? NONE : found;
        }
    }
}
