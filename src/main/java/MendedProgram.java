import java.util.NoSuchElementException;

/**
 * A running program mended: tasks, data, shadow rows and stacked patches.
 * The words in capitals are those of the document (DOC.md).
 */
public final class MendedProgram {
    public static final int NONE = -1;

    private static final int TAPE_BYTES = 500;
    private static final int FED_BYTES = 20;
    private static final int FUNCTIONS = 12;
    private static final int PATCHES = 8;
    private static final int PATCH_FUNCS = 8;
    private static final int TASKS = 6;
    private static final int ALL_TASKS = 63;
    private static final int FRAMES = 10;
    private static final int CODE_DEEDS = 24;
    private static final int DATA = 10;
    private static final int SHADOWS = 5;
    private static final int PLACES = 9;
    private static final int MOST_TICKS = 60;
    private static final int MOST_REST = 99;
    private static final int MOST_NUMBER = 99999;
    private static final int TEXT_LETTERS = 6;
    private static final int LETTERS = 27;
    private static final long TRAPPED = 1000000000L;

    private static final String KIND_LETTERS = "zbcsijfdtna";
    private static final int KIND_Z = 0;
    private static final int KIND_B = 1;
    private static final int KIND_C = 2;
    private static final int KIND_S = 3;
    private static final int KIND_F = 6;
    private static final int NUMBER_KINDS = 8;
    private static final int TEXT = 8;
    private static final int ROW_KINDS = 11;
    private static final int THING = 11;
    private static final int MISSING = 12;
    private static final int DATUM_KINDS = 13;
    /** Of each KIND of ROW the KINDS of the VALUES that it can hold (bit KIND + 1; bit 0: missing). */
    private static final int[] HOLDS = {2, 4, 8, 20, 60, 124, 252, 508, 513, 33, 1023};

    private static final int NO_TRAP = 0;
    private static final int NO_PLACE = 1;
    private static final int WRONG_KIND = 2;
    private static final int IS_MISSING = 3;
    private static final int TOO_DEEP = 3;

    private static final int CANNOT_STAND = 1;
    private static final int NO_SUCH_NUMBER = 2;
    private static final int TOO_MANY = 3;
    private static final int TWICE = 4;
    private static final int FAULT_LESS = 10;

    private static final Op[] OPS = Op.values();

    private final byte[] tape = new byte[TAPE_BYTES];
    private int tapeBytes;
    private int faultPlace = NONE;
    private int patchCount;
    private final World world = new World();
    /** What waits() tries out, so that the world itself stays as it is. */
    private final World trial = new World();
    private int refusedElements;
    private int refusedArguments;
    private int refusedStates;

    public MendedProgram() {
        // all of it stands at first as its fields are made
    }

    public int feed(int a, int b, int c, int d, int e) {
        if (tapeBytes + FED_BYTES > TAPE_BYTES) {
            return NONE;
        }
        append(a);
        append(b);
        append(c);
        append(d);
        append(e);
        return tapeBytes;
    }

    public int function(int function, int n)
            throws NoSuchElementException, IllegalArgumentException, IllegalStateException {
        needElement(within(function, FUNCTIONS));
        needArgument(n >= 0 && n <= tapeBytes);
        needState(world.idleBits() == ALL_TASKS);
        Reader reader = new Reader(tape, n);
        Code code = reader.readCode(false);
        emptyTape(reader.place);
        if (reader.fault != 0) {
            return reader.fault - FAULT_LESS;
        }
        world.functions[function] = code;
        return code.count;
    }

    public int patch(int n) throws IllegalArgumentException, IllegalStateException {
        needArgument(n >= 0 && n <= tapeBytes);
        needState(patchCount < PATCHES);
        Reader reader = new Reader(tape, n);
        Patch read = new Patch();
        reader.readFuncs(read);
        reader.readEnds(read);
        emptyTape(reader.place);
        if (reader.fault != 0) {
            return reader.fault - FAULT_LESS;
        }
        world.patches[patchCount] = read;
        patchCount++;
        return patchCount - 1;
    }

    public int fault() {
        return faultPlace;
    }

    public int datum(int datum, int kind, int places) throws NoSuchElementException, IllegalArgumentException {
        needElement(within(datum, DATA));
        needArgument(within(kind, DATUM_KINDS) && places >= 0 && places <= (kind < ROW_KINDS ? PLACES : 0));
        world.layDatum(datum, kind, places);
        return world.allPlaces();
    }

    public int start(int task, int function) throws NoSuchElementException, IllegalStateException {
        needElement(within(task, TASKS) && within(function, FUNCTIONS));
        needState(world.tasks[task].frames == 0);
        return world.launch(task, function);
    }

    public int step(int task) throws NoSuchElementException, IllegalStateException {
        needElement(within(task, TASKS));
        needState(world.tasks[task].frames > 0);
        world.act(task);
        world.settle();
        return world.tasks[task].trap;
    }

    public int go(int ticks) throws IllegalArgumentException {
        needArgument(ticks >= 1 && ticks <= MOST_TICKS);
        int before = world.traps;
        for (int t = 0; t < ticks; t++) {
            world.tick();
        }
        return world.traps - before;
    }

    public int enable(int patch) throws NoSuchElementException, IllegalStateException {
        needElement(within(patch, patchCount));
        needState(world.turning == NONE && world.heightOf(patch) == NONE);
        return world.stackUp(patch);
    }

    public int disable() throws IllegalStateException {
        needState(world.turning == NONE && world.stacked > 0);
        return world.turnOff();
    }

    public int reverse() throws IllegalStateException {
        needState(world.turning != NONE);
        return world.turnBack();
    }

    public int force() throws IllegalStateException {
        needState(world.turning != NONE);
        return world.forceAll();
    }

    public int kill(int task) throws NoSuchElementException {
        needElement(within(task, TASKS));
        int had = world.tasks[task].frames;
        world.tasks[task].dropAll();
        world.settle();
        return had;
    }

    public int told(int what) throws IllegalArgumentException {
        switch (what) {
            case 0: return patchCount;
            case 1: return world.stacked;
            case 2: return world.topmost();
            case 3: return world.turning;
            case 4: return world.turning == NONE ? NONE : world.turningOn ? 1 : 0;
            case 5: return world.turnedBits();
            case 6: return world.idleBits();
            case 7: return world.ticks;
            case 8: return world.overs;
            case 9: return world.allForced();
            case 10: return world.traps;
            case 11: return world.patchTraps;
            case 12: return world.allPlaces();
            case 13: return world.allShadows();
            case 14: return tapeBytes;
            default: break;
        }
        needArgument(false);
        return NONE;
    }

    public int task(int task, int what) throws NoSuchElementException, IllegalArgumentException {
        needElement(within(task, TASKS));
        Task asked = world.tasks[task];
        switch (what) {
            case 0: return asked.frames;
            case 1: return asked.trap;
            case 2: return asked.value.kind;
            case 3: return asked.rests;
            case 4: return world.turning != NONE && asked.turned ? 1 : 0;
            case 5: return asked.forced;
            case 6: return asked.deeds;
            default: break;
        }
        needArgument(false);
        return NONE;
    }

    public long number(int task) throws NoSuchElementException {
        needElement(within(task, TASKS));
        return world.tasks[task].value.number;
    }

    public int frame(int task, int frame, int what) throws NoSuchElementException, IllegalArgumentException {
        needElement(within(task, TASKS) && within(frame, world.tasks[task].frames));
        Task asked = world.tasks[task];
        int at = asked.frames - 1 - frame;
        switch (what) {
            case 0: return asked.functions[at];
            case 1: return asked.patches[at];
            case 2: return asked.places[at];
            case 3: return asked.blurred[at];
            default: break;
        }
        needArgument(false);
        return NONE;
    }

    public int stuck(int task) throws NoSuchElementException {
        needElement(within(task, TASKS));
        return world.hasTurned(task) ? NONE : world.hindrance(task);
    }

    public int calls(int task, int function) throws NoSuchElementException {
        needElement(within(task, TASKS) && within(function, FUNCTIONS));
        return world.callee(task, function);
    }

    public int entry(int function) throws NoSuchElementException {
        needElement(within(function, FUNCTIONS));
        return world.topmostWith(function);
    }

    public int patchOf(int patch, int what) throws NoSuchElementException, IllegalArgumentException {
        needElement(within(patch, patchCount) && world.patches[patch] != null);
        Patch asked = world.patches[patch];
        switch (what) {
            case 0: return world.heightOf(patch);
            case 1: return asked.functionBits();
            case 2: return asked.all ? 1 : 0;
            case 3: return asked.allDeeds();
            case 4: return world.enabled[patch];
            default: break;
        }
        needArgument(false);
        return NONE;
    }

    public int datumOf(int datum, int what) throws NoSuchElementException, IllegalArgumentException {
        needElement(within(datum, DATA));
        Row row = world.rowAt(datum, NONE);
        switch (what) {
            case 0: return row.kind;
            case 1: return row.places;
            case 2: return world.shadowBits(datum);
            default: break;
        }
        needArgument(false);
        return NONE;
    }

    public int shadowOf(int datum, int number, int what) throws NoSuchElementException, IllegalArgumentException {
        needElement(within(datum, DATA) && within(number, SHADOWS));
        needArgument(what == 0 || what == 1);
        Row shadow = world.rowAt(datum, number);
        return what == 0 ? shadow.kind : shadow.places;
    }

    public long cell(int datum, int number, int place) throws NoSuchElementException {
        needElement(within(datum, DATA) && (number == NONE || within(number, SHADOWS)));
        Row row = world.rowAt(datum, number);
        return within(place, row.places) ? row.numbers[place] : 0;
    }

    public long get(int kind, int datum, int place) throws NoSuchElementException, IllegalArgumentException {
        needElement(within(datum, DATA));
        needArgument(within(kind, NUMBER_KINDS));
        Value got = world.byHand;
        int trap = world.rowAt(datum, NONE).readAs(kind, place, got);
        return trap == NO_TRAP ? got.number : trap - TRAPPED;
    }

    public int set(int kind, int datum, int place, int v) throws NoSuchElementException, IllegalArgumentException {
        needElement(within(datum, DATA));
        needArgument(within(kind, NUMBER_KINDS) && v >= -MOST_NUMBER && v <= MOST_NUMBER);
        return world.rowAt(datum, NONE).writeAs(kind, place, v);
    }

    public int move(int datum, int place, int to, int at) throws NoSuchElementException {
        needElement(within(datum, DATA) && within(to, DATA));
        Value moved = world.byHand;
        int trap = world.rowAt(datum, NONE).box(place, moved);
        return trap != NO_TRAP ? trap : 10 + world.rowAt(to, NONE).put(at, moved);
    }

    public int shape(int datum, int kind, int places) throws NoSuchElementException, IllegalArgumentException {
        needElement(within(datum, DATA));
        needArgument(within(kind, ROW_KINDS) && places >= 0 && places <= PLACES);
        return world.rowAt(datum, NONE).reshape(kind, places);
    }

    public int keep(int datum, int number, int what) throws NoSuchElementException, IllegalArgumentException {
        needElement(within(datum, DATA) && within(number, SHADOWS));
        needArgument(what == 0 || what == 1);
        return what == 0 ? world.keepShadow(datum, number) : world.liftShadow(datum, number);
    }

    public int shapes(int datum) throws NoSuchElementException {
        needElement(within(datum, DATA));
        Row row = world.rowAt(datum, NONE);
        int kinds = 0;
        for (int kind = 0; kind < ROW_KINDS && row.isRow(); kind++) {
            if (row.fitsAs(kind, row.places)) {
                kinds |= 1 << kind;
            }
        }
        return kinds;
    }

    public int same(int datum, int other) throws NoSuchElementException {
        needElement(within(datum, DATA) && within(other, DATA));
        Row row = world.rowAt(datum, NONE);
        Row with = world.rowAt(other, NONE);
        return row.isRow() && with.isRow() ? row.alikePlaces(with) : NONE;
    }

    public int waits() {
        if (world.turning == NONE) {
            return 0;
        }
        trial.copyFrom(world);
        for (int ticks = 1; ticks <= MOST_TICKS; ticks++) {
            trial.tick();
            if (trial.turning == NONE) {
                return ticks;
            }
        }
        return NONE;
    }

    public int deepest() {
        int most = 0;
        int deepest = NONE;
        for (int t = 0; t < TASKS; t++) {
            if (world.tasks[t].frames > most) {
                most = world.tasks[t].frames;
                deepest = t;
            }
        }
        return deepest;
    }

    public int status(int what) {
        switch (what) {
            case 0: return refusedElements;
            case 1: return refusedArguments;
            case 2: return refusedStates;
            default: return NONE;
        }
    }

    private void append(int number) {
        for (int shift = 24; shift >= 0 && tapeBytes < TAPE_BYTES; shift -= 8) {
            tape[tapeBytes] = (byte) (number >> shift);
            tapeBytes++;
        }
    }

    private void emptyTape(int placeOfFault) {
        tapeBytes = 0;
        faultPlace = placeOfFault;
    }

    private void needElement(boolean there) throws NoSuchElementException {
        if (!there) {
            refusedElements++;
            throw new NoSuchElementException("no such element");
        }
    }

    private void needArgument(boolean fitting) throws IllegalArgumentException {
        if (!fitting) {
            refusedArguments++;
            throw new IllegalArgumentException("no such argument");
        }
    }

    private void needState(boolean right) throws IllegalStateException {
        if (!right) {
            refusedStates++;
            throw new IllegalStateException("not now");
        }
    }

    private static boolean within(int index, int count) {
        return index >= 0 && index < count;
    }

    /** Whether a VALUE of a KIND (NONE: missing) can stand in a ROW of a KIND. */
    private static boolean fits(int valueKind, int rowKind) {
        return rowKind >= 0 && rowKind < ROW_KINDS && (HOLDS[rowKind] >> valueKind + 1 & 1) == 1;
    }

    /** Numbers with quarters are held 4 times as great as they are, all others as they are. */
    private static long widened(long number, int from, int to) {
        return from < KIND_F && to >= KIND_F ? number * 4 : number;
    }

    private static long cut(int kind, int v) {
        switch (kind) {
            case KIND_Z: return v != 0 ? 1 : 0;
            case KIND_B: return (byte) v;
            case KIND_C: return (char) v;
            case KIND_S: return (short) v;
            default: return v;
        }
    }

    /**
     * The DEEDS: the word of each and what comes behind it. F, N, V, T, D, M, P, X as in the
     * document; K a KIND z to d, G any ROW's KIND; L is read as P is.
     */
    private enum Op {
        CALL("call", "F"),
        RET("ret", ""),
        BACK("back", ""),
        REST("rest", "N"),
        SKIP("skip", "N"),
        BLUR("blur", ""),
        CLEAR("clear", ""),
        TAKE("take", "KV"),
        WORD("text", "T"),
        EMPTY("none", ""),
        GET("get", "KXP"),
        SET("set", "KXPV"),
        BOX("box", "XP"),
        PUT("put", "XP"),
        MAKE("make", "DMGP"),
        FREE("free", "DM"),
        SHAPE("shape", "DGP"),
        KEEP("keep", "DM"),
        LIFT("lift", "DM");

        final String word;
        final String parts;

        Op(String word, String parts) {
            this.word = word;
            this.parts = parts;
        }
    }

    private static final class Deed {
        final Op op;
        int kind;
        int datum;
        /** Which SHADOW of the DATUM; NONE: the DATUM itself. */
        int shadow = NONE;
        int place;
        /** A FUNCTION, a number, or a TEXT as a number. */
        int amount;

        Deed(Op op) {
            this.op = op;
        }
    }

    private static final class Code {
        final Deed[] deeds = new Deed[CODE_DEEDS];
        int count;

        void add(Deed deed) {
            if (count < CODE_DEEDS) {
                deeds[count] = deed;
                count++;
            }
        }

        /** Behind all of them there is none: null. */
        Deed deedAt(int at) {
            return at >= 0 && at < count ? deeds[at] : null;
        }
    }

    private static final class Patch {
        boolean all;
        /** By FUNCTION; null: the PATCH has it not. */
        final Code[] codes = new Code[FUNCTIONS];
        Code begin = new Code();
        Code done = new Code();
        Code undone = new Code();

        int functionBits() {
            int bits = 0;
            for (int f = 0; f < FUNCTIONS; f++) {
                if (codes[f] != null) {
                    bits |= 1 << f;
                }
            }
            return bits;
        }

        int allDeeds() {
            int deeds = begin.count + done.count + undone.count;
            for (int f = 0; f < FUNCTIONS; f++) {
                if (codes[f] != null) {
                    deeds += codes[f].count;
                }
            }
            return deeds;
        }
    }

    /** Reads CODE or a PATCH from the left; the first FAULT stays, and nothing is read behind it. */
    private static final class Reader {
        final byte[] bytes;
        final int length;
        int at;
        int fault;
        int place = NONE;

        Reader(byte[] bytes, int length) {
            this.bytes = bytes;
            this.length = length;
        }

        void readFuncs(Patch patch) {
            patch.all = passWord("all");
            for (int funcs = 0; funcs <= PATCH_FUNCS && fault == 0; funcs++) {
                skipBlanks();
                int start = at;
                if (!passWord("func")) {
                    if (funcs == 0) {
                        fail(CANNOT_STAND, start);
                    }
                    return;
                }
                if (funcs == PATCH_FUNCS) {
                    fail(TOO_MANY, start);
                    return;
                }
                int function = readFunction(patch);
                if (fault == 0) {
                    patch.codes[function] = readCode(true);
                }
            }
        }

        private int readFunction(Patch patch) {
            skipBlanks();
            int start = at;
            int function = readNumber(FUNCTIONS - 1);
            if (fault == 0 && patch.codes[function] != null) {
                fail(TWICE, start);
            }
            return function;
        }

        void readEnds(Patch patch) {
            if (fault == 0 && passWord("begin")) {
                patch.begin = readCode(true);
            }
            if (fault == 0 && passWord("done")) {
                patch.done = readCode(true);
            }
            if (fault == 0 && passWord("undone")) {
                patch.undone = readCode(true);
            }
            skipBlanks();
            if (at < length) {
                fail(CANNOT_STAND, at);
            }
        }

        Code readCode(boolean inBraces) {
            Code code = new Code();
            if (inBraces) {
                passSign('{');
            }
            // one turn more than there can be DEEDS: the last one meets the end, or a FAULT
            for (int turn = 0; turn <= CODE_DEEDS && fault == 0; turn++) {
                skipBlanks();
                if (inBraces ? passIf('}') : at >= length) {
                    return code;
                }
                readDeed(code);
            }
            return code;
        }

        private void readDeed(Code code) {
            int start = at;
            for (Op op : OPS) {
                if (passWord(op.word)) {
                    if (code.count == CODE_DEEDS) {
                        fail(TOO_MANY, start);
                        return;
                    }
                    Deed deed = new Deed(op);
                    for (int p = 0; p < op.parts.length() && fault == 0; p++) {
                        readPart(op.parts.charAt(p), deed);
                    }
                    if (fault == 0) {
                        passSign(';');
                    }
                    code.add(deed);
                    return;
                }
            }
            fail(CANNOT_STAND, start);
        }

        private void readPart(char part, Deed deed) {
            switch (part) {
                case 'F': deed.amount = readNumber(FUNCTIONS - 1); break;
                case 'N': deed.amount = readNumber(MOST_REST); break;
                case 'V': deed.amount = passIf('-') ? -readNumber(MOST_NUMBER) : readNumber(MOST_NUMBER); break;
                case 'T': deed.amount = readText(); break;
                case 'K': deed.kind = readKind(NUMBER_KINDS); break;
                case 'G': deed.kind = readKind(ROW_KINDS); break;
                case 'D': deed.datum = readNumber(DATA - 1); break;
                case 'M': deed.shadow = readNumber(SHADOWS - 1); break;
                case 'P': deed.place = readNumber(PLACES); break;
                default:
                    deed.datum = readNumber(DATA - 1);
                    if (passIf('.')) {
                        deed.shadow = readNumber(SHADOWS - 1);
                    }
                    break;
            }
        }

        private int readNumber(int most) {
            skipBlanks();
            int start = at;
            int number = 0;
            while (at < length && bytes[at] >= '0' && bytes[at] <= '9') {
                // held low, so that no run of digits makes it wrap around to one that is due
                number = Math.min(number * 10 + bytes[at] - '0', MOST_NUMBER + 1);
                at++;
            }
            if (at == start) {
                fail(CANNOT_STAND, start);
            } else if (number > most) {
                fail(NO_SUCH_NUMBER, start);
            }
            return number;
        }

        private int readKind(int kinds) {
            skipBlanks();
            int end = wordEnd();
            int kind = end - at == 1 ? KIND_LETTERS.indexOf((char) bytes[at]) : NONE;
            if (!within(kind, kinds)) {
                fail(CANNOT_STAND, at);
                return KIND_Z;
            }
            at = end;
            return kind;
        }

        private int readText() {
            skipBlanks();
            int end = wordEnd();
            if (end == at || end - at > TEXT_LETTERS) {
                fail(CANNOT_STAND, at);
                return 0;
            }
            int text = 0;
            while (at < end) {
                text = text * LETTERS + bytes[at] - 'a' + 1;
                at++;
            }
            return text;
        }

        private boolean passWord(String word) {
            skipBlanks();
            int end = wordEnd();
            if (end - at != word.length()) {
                return false;
            }
            for (int i = 0; i < word.length(); i++) {
                if (bytes[at + i] != word.charAt(i)) {
                    return false;
                }
            }
            at = end;
            return true;
        }

        private int wordEnd() {
            int end = at;
            while (end < length && bytes[end] >= 'a' && bytes[end] <= 'z') {
                end++;
            }
            return end;
        }

        private boolean passIf(char sign) {
            skipBlanks();
            if (at >= length || bytes[at] != sign) {
                return false;
            }
            at++;
            return true;
        }

        private void passSign(char sign) {
            if (!passIf(sign)) {
                fail(CANNOT_STAND, at);
            }
        }

        private void skipBlanks() {
            while (at < length && bytes[at] == ' ') {
                at++;
            }
        }

        private void fail(int kind, int where) {
            if (fault == 0) {
                fault = kind;
                place = where;
            }
        }
    }

    /** A VALUE as number() tells it, with its KIND: of z to d, TEXT, or NONE, if it is missing. */
    private static final class Value {
        int kind = NONE;
        long number;

        void be(int newKind, long newNumber) {
            kind = newKind;
            number = newNumber;
        }

        boolean isNothing() {
            return kind == NONE || kind != TEXT && number == 0;
        }
    }

    private static final class Row {
        int kind = MISSING;
        int places;
        /** Of each place's VALUE, as in Value. */
        final int[] kinds = new int[PLACES];
        final long[] numbers = new long[PLACES];

        void lay(int newKind, int newPlaces) {
            kind = newKind;
            places = newPlaces;
            blankFrom(0);
        }

        private void blankFrom(int first) {
            for (int p = first; p < PLACES; p++) {
                kinds[p] = kind < NUMBER_KINDS ? kind : NONE;
                numbers[p] = 0;
            }
        }

        void copyFrom(Row other) {
            kind = other.kind;
            places = other.places;
            System.arraycopy(other.kinds, 0, kinds, 0, PLACES);
            System.arraycopy(other.numbers, 0, numbers, 0, PLACES);
        }

        boolean isRow() {
            return kind < ROW_KINDS;
        }

        private int trapOfNumbers(int place) {
            if (kind == MISSING) {
                return IS_MISSING;
            }
            if (kind >= NUMBER_KINDS) {
                return WRONG_KIND;
            }
            return within(place, places) ? NO_TRAP : NO_PLACE;
        }

        int readAs(int asKind, int place, Value into) {
            int trap = trapOfNumbers(place);
            if (trap != NO_TRAP) {
                return trap;
            }
            if (!fits(kind, asKind)) {
                return WRONG_KIND;
            }
            into.be(asKind, widened(numbers[place], kind, asKind));
            return NO_TRAP;
        }

        int writeAs(int asKind, int place, int v) {
            int trap = trapOfNumbers(place);
            if (trap != NO_TRAP) {
                return trap;
            }
            if (!fits(asKind, kind)) {
                return WRONG_KIND;
            }
            numbers[place] = widened(cut(asKind, v), asKind, kind);
            return NO_TRAP;
        }

        int box(int place, Value into) {
            if (kind == MISSING) {
                return IS_MISSING;
            }
            if (kind == THING) {
                return WRONG_KIND;
            }
            if (!within(place, places)) {
                return NO_PLACE;
            }
            into.be(kinds[place], numbers[place]);
            return NO_TRAP;
        }

        int put(int place, Value from) {
            if (kind == MISSING) {
                return IS_MISSING;
            }
            if (kind == THING || kind < NUMBER_KINDS && !within(from.kind, NUMBER_KINDS)) {
                return WRONG_KIND;
            }
            if (!within(place, places)) {
                return NO_PLACE;
            }
            if (!fits(from.kind, kind)) {
                return WRONG_KIND;
            }
            stand(place, from.kind, from.number);
            return NO_TRAP;
        }

        private void stand(int place, int valueKind, long number) {
            boolean ofNumbers = kind < NUMBER_KINDS;
            kinds[place] = ofNumbers ? kind : valueKind;
            numbers[place] = ofNumbers ? widened(number, valueKind, kind) : number;
        }

        int reshape(int newKind, int newPlaces) {
            if (kind == MISSING) {
                return IS_MISSING;
            }
            int both = Math.min(places, newPlaces);
            if (kind == THING || !fitsAs(newKind, both)) {
                return WRONG_KIND;
            }
            kind = newKind;
            places = newPlaces;
            for (int p = 0; p < both; p++) {
                stand(p, kinds[p], numbers[p]);
            }
            blankFrom(both);
            return NO_TRAP;
        }

        boolean fitsAs(int newKind, int firstPlaces) {
            boolean fitting = true;
            for (int p = 0; p < firstPlaces && p < PLACES; p++) {
                fitting &= fits(kinds[p], newKind);
            }
            return fitting;
        }

        int alikePlaces(Row other) {
            int alike = 0;
            for (int p = 0; p < places && p < other.places && p < PLACES; p++) {
                boolean numbersBoth = within(kinds[p], NUMBER_KINDS) && within(other.kinds[p], NUMBER_KINDS);
                boolean equal = numbersBoth
                        ? widened(numbers[p], kinds[p], KIND_F) == widened(other.numbers[p], other.kinds[p], KIND_F)
                        : kinds[p] == other.kinds[p] && numbers[p] == other.numbers[p];
                if (equal) {
                    alike++;
                }
            }
            return alike;
        }
    }

    /** A TASK; its FRAMES lie in rows, the lowest first. */
    private static final class Task {
        final int[] functions = new int[FRAMES];
        final int[] patches = new int[FRAMES];
        final int[] places = new int[FRAMES];
        /** 1: blurred. */
        final int[] blurred = new int[FRAMES];
        int frames;
        int rests;
        int trap;
        final Value value = new Value();
        boolean turned;
        int forced;
        int deeds;

        boolean push(int function, int patch) {
            if (frames >= FRAMES) {
                return false;
            }
            functions[frames] = function;
            patches[frames] = patch;
            places[frames] = 0;
            blurred[frames] = 0;
            frames++;
            return true;
        }

        void pop() {
            frames = Math.max(frames - 1, 0);
        }

        void dropAll() {
            frames = 0;
            rests = 0;
        }

        /** The FRAME stays at its rest until the last TICK of it has gone by. */
        void restOn(int top) {
            rests--;
            if (rests == 0) {
                places[top]++;
            }
        }

        void copyFrom(Task other) {
            System.arraycopy(other.functions, 0, functions, 0, FRAMES);
            System.arraycopy(other.patches, 0, patches, 0, FRAMES);
            System.arraycopy(other.places, 0, places, 0, FRAMES);
            System.arraycopy(other.blurred, 0, blurred, 0, FRAMES);
            frames = other.frames;
            rests = other.rests;
            trap = other.trap;
            value.be(other.value.kind, other.value.number);
            turned = other.turned;
            forced = other.forced;
            deeds = other.deeds;
        }
    }

    /** All that TICKS can change, and the CODES, which they can't: a copy holds the same ones. */
    private static final class World {
        final Code[] functions = new Code[FUNCTIONS];
        final Patch[] patches = new Patch[PATCHES];
        /** Of each DATUM six: itself, then its SHADOWS. */
        final Row[] rows = new Row[DATA * (SHADOWS + 1)];
        final Task[] tasks = new Task[TASKS];
        final int[] stack = new int[PATCHES];
        final int[] enabled = new int[PATCHES];
        final Value byHand = new Value();
        int stacked;
        int turning = NONE;
        boolean turningOn;
        int ticks;
        int overs;
        int traps;
        int patchTraps;

        World() {
            for (int f = 0; f < FUNCTIONS; f++) {
                functions[f] = new Code();
            }
            for (int r = 0; r < rows.length; r++) {
                rows[r] = new Row();
            }
            for (int t = 0; t < TASKS; t++) {
                tasks[t] = new Task();
            }
        }

        void copyFrom(World other) {
            System.arraycopy(other.functions, 0, functions, 0, FUNCTIONS);
            System.arraycopy(other.patches, 0, patches, 0, PATCHES);
            for (int r = 0; r < rows.length; r++) {
                rows[r].copyFrom(other.rows[r]);
            }
            for (int t = 0; t < TASKS; t++) {
                tasks[t].copyFrom(other.tasks[t]);
            }
            System.arraycopy(other.stack, 0, stack, 0, PATCHES);
            System.arraycopy(other.enabled, 0, enabled, 0, PATCHES);
            stacked = other.stacked;
            turning = other.turning;
            turningOn = other.turningOn;
            ticks = other.ticks;
            overs = other.overs;
            traps = other.traps;
            patchTraps = other.patchTraps;
        }

        Row rowAt(int datum, int shadow) {
            return rows[datum * (SHADOWS + 1) + shadow + 1];
        }

        void layDatum(int datum, int kind, int places) {
            rowAt(datum, NONE).lay(kind, places);
            for (int m = 0; m < SHADOWS; m++) {
                rowAt(datum, m).lay(MISSING, 0);
            }
        }

        int allPlaces() {
            int places = 0;
            for (int r = 0; r < rows.length; r++) {
                places += rows[r].places;
            }
            return places;
        }

        int allShadows() {
            int shadows = 0;
            for (int d = 0; d < DATA; d++) {
                shadows += Integer.bitCount(shadowBits(d));
            }
            return shadows;
        }

        int shadowBits(int datum) {
            int bits = 0;
            for (int m = 0; m < SHADOWS; m++) {
                if (rowAt(datum, m).kind != MISSING) {
                    bits |= 1 << m;
                }
            }
            return bits;
        }

        int makeShadow(Deed deed) {
            if (rowAt(deed.datum, NONE).kind == MISSING) {
                return IS_MISSING;
            }
            Row shadow = rowAt(deed.datum, deed.shadow);
            if (shadow.kind == MISSING) {
                shadow.lay(deed.kind, deed.place);
            }
            return NO_TRAP;
        }

        int freeShadow(int datum, int number) {
            Row shadow = rowAt(datum, number);
            if (shadow.kind == MISSING) {
                return IS_MISSING;
            }
            shadow.lay(MISSING, 0);
            return NO_TRAP;
        }

        int keepShadow(int datum, int number) {
            Row row = rowAt(datum, NONE);
            if (row.kind == MISSING) {
                return IS_MISSING;
            }
            if (row.kind == THING) {
                return WRONG_KIND;
            }
            rowAt(datum, number).copyFrom(row);
            return NO_TRAP;
        }

        int liftShadow(int datum, int number) {
            Row shadow = rowAt(datum, number);
            if (shadow.kind == MISSING) {
                return IS_MISSING;
            }
            rowAt(datum, NONE).copyFrom(shadow);
            shadow.lay(MISSING, 0);
            return NO_TRAP;
        }

        /** A DEED that has to do with data or the VALUE alone, so that TASKS and PATCHES do it alike. */
        int doOnData(Deed deed, Value value) {
            Row row = rowAt(deed.datum, deed.shadow);
            switch (deed.op) {
                case TAKE: value.be(deed.kind, cut(deed.kind, deed.amount)); return NO_TRAP;
                case WORD: value.be(TEXT, deed.amount); return NO_TRAP;
                case EMPTY: value.be(NONE, 0); return NO_TRAP;
                case GET: return row.readAs(deed.kind, deed.place, value);
                case SET: return row.writeAs(deed.kind, deed.place, deed.amount);
                case BOX: return row.box(deed.place, value);
                case PUT: return row.put(deed.place, value);
                case MAKE: return makeShadow(deed);
                case FREE: return freeShadow(deed.datum, deed.shadow);
                case SHAPE: return row.reshape(deed.kind, deed.place);
                case KEEP: return keepShadow(deed.datum, deed.shadow);
                case LIFT: return liftShadow(deed.datum, deed.shadow);
                default: return NO_TRAP;
            }
        }

        int launch(int t, int function) {
            int patch = callee(t, function);
            tasks[t].value.be(NONE, 0);
            tasks[t].push(function, patch);
            return patch;
        }

        void tick() {
            for (int t = 0; t < TASKS; t++) {
                act(t);
            }
            ticks++;
            settle();
        }

        void act(int t) {
            Task task = tasks[t];
            int top = task.frames - 1;
            if (!within(top, FRAMES)) {
                return;
            }
            if (task.rests > 0) {
                task.restOn(top);
                return;
            }
            task.deeds++;
            task.trap = doDeed(t, top);
            if (task.trap != NO_TRAP) {
                traps++;
            }
        }

        private int doDeed(int t, int top) {
            Task task = tasks[t];
            Code code = codeOf(task.functions[top], task.patches[top]);
            int next = task.places[top] + 1;
            Deed deed = code == null ? null : code.deedAt(next - 1);
            if (deed == null) {
                task.pop();
                return NO_TRAP;
            }
            switch (deed.op) {
                case RET:
                    task.pop();
                    return NO_TRAP;
                case BACK:
                    task.places[top] = 0;
                    return NO_TRAP;
                case REST:
                    task.rests = deed.amount;
                    task.places[top] = deed.amount > 0 ? next - 1 : next;
                    return NO_TRAP;
                case SKIP:
                    task.places[top] = task.value.isNothing() ? Math.min(next + deed.amount, code.count) : next;
                    return NO_TRAP;
                case BLUR:
                case CLEAR:
                    task.blurred[top] = deed.op == Op.BLUR ? 1 : 0;
                    task.places[top] = next;
                    return NO_TRAP;
                case CALL:
                    task.places[top] = next;
                    return task.push(deed.amount, callee(t, deed.amount)) ? NO_TRAP : TOO_DEEP;
                default:
                    task.places[top] = next;
                    return doOnData(deed, task.value);
            }
        }

        private Code codeOf(int function, int patch) {
            if (!within(patch, PATCHES)) {
                return functions[function];
            }
            return patches[patch] == null ? null : patches[patch].codes[function];
        }

        private void perform(Code code) {
            Value value = byHand;
            value.be(NONE, 0);
            for (int at = 0; at < code.count; at++) {
                Deed deed = code.deedAt(at);
                if (deed == null || deed.op == Op.RET) {
                    return;
                }
                if (deed.op == Op.SKIP && value.isNothing()) {
                    at += deed.amount;
                }
                if (doOnData(deed, value) != NO_TRAP) {
                    patchTraps++;
                }
            }
        }

        private boolean has(int patch, int function) {
            return within(patch, PATCHES) && patches[patch] != null && patches[patch].codes[function] != null;
        }

        int callee(int t, int function) {
            for (int s = stacked - 1; s >= 0; s--) {
                boolean leftOut = stack[s] == turning && !tasks[t].turned;
                if (!leftOut && has(stack[s], function)) {
                    return stack[s];
                }
            }
            return NONE;
        }

        int topmostWith(int function) {
            for (int s = stacked - 1; s >= 0; s--) {
                if (has(stack[s], function)) {
                    return stack[s];
                }
            }
            return NONE;
        }

        int topmost() {
            return stacked > 0 ? stack[stacked - 1] : NONE;
        }

        int heightOf(int patch) {
            for (int s = 0; s < stacked; s++) {
                if (stack[s] == patch) {
                    return s;
                }
            }
            return NONE;
        }

        int stackUp(int patch) {
            if (stacked < PATCHES && patches[patch] != null) {
                enabled[patch]++;
                perform(patches[patch].begin);
                stack[stacked] = patch;
                stacked++;
                beginTurning(patch, true);
                settle();
            }
            return leftToTurn();
        }

        int turnOff() {
            beginTurning(topmost(), false);
            settle();
            return leftToTurn();
        }

        private void beginTurning(int patch, boolean on) {
            turning = patch;
            turningOn = on;
            for (int t = 0; t < TASKS; t++) {
                tasks[t].turned = !on;
            }
        }

        int turnBack() {
            turningOn = !turningOn;
            settle();
            return leftToTurn();
        }

        int forceAll() {
            int bits = 0;
            for (int t = 0; t < TASKS; t++) {
                if (!hasTurned(t)) {
                    bits |= 1 << t;
                    tasks[t].turned = turningOn;
                    tasks[t].forced++;
                }
            }
            settle();
            return bits;
        }

        /** It is looked at who TURNS, and whether the turning is over. */
        void settle() {
            if (turning == NONE) {
                return;
            }
            for (int t = 0; t < TASKS; t++) {
                if (hindrance(t) == NONE) {
                    tasks[t].turned = turningOn;
                }
            }
            Patch patch = patches[turning];
            if (leftToTurn() > 0 || patch == null) {
                return;
            }
            turning = NONE;
            overs++;
            if (turningOn) {
                perform(patch.done);
                unstackBelow(patch);
            } else {
                stacked--;
                perform(patch.undone);
            }
        }

        private void unstackBelow(Patch top) {
            if (top.all && stacked > 0) {
                stack[0] = stack[stacked - 1];
                stacked = 1;
            }
        }

        /** The FRAME nearest the top for which a TASK can't TURN. */
        int hindrance(int t) {
            Task task = tasks[t];
            for (int at = task.frames - 1; at >= 0; at--) {
                if (task.blurred[at] == 1 || has(turning, task.functions[at])) {
                    return task.frames - 1 - at;
                }
            }
            return NONE;
        }

        boolean hasTurned(int t) {
            return turning == NONE || tasks[t].turned == turningOn;
        }

        int leftToTurn() {
            int left = 0;
            for (int t = 0; t < TASKS; t++) {
                if (!hasTurned(t)) {
                    left++;
                }
            }
            return left;
        }

        int turnedBits() {
            int bits = 0;
            for (int t = 0; t < TASKS; t++) {
                if (turning != NONE && tasks[t].turned) {
                    bits |= 1 << t;
                }
            }
            return bits;
        }

        int idleBits() {
            int bits = 0;
            for (int t = 0; t < TASKS; t++) {
                if (tasks[t].frames == 0) {
                    bits |= 1 << t;
                }
            }
            return bits;
        }

        int allForced() {
            int forced = 0;
            for (int t = 0; t < TASKS; t++) {
                forced += tasks[t].forced;
            }
            return forced;
        }
    }
}
