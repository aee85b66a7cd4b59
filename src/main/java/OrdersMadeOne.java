import java.util.Arrays;

/**
 * A machine of small ORDERS, its PROGRAMS, and the rows of ORDERS that are made into single new ones.
 *
 * All that is told lies in one State, so that an image is nothing but a copy of it. The rows in which the work is
 * done are made once, in the constructors, and used again by every call.
 */
public final class OrdersMadeOne {
    public static final int NONE = -1;

    private static final int MOST_IMAGES = 3;

    private final State now = new State();
    private final State[] images = new State[MOST_IMAGES];
    private final Ways ways = new Ways();
    private final Chooser chooser = new Chooser();

    public OrdersMadeOne() {
    }

    public int program() {
        if (now.programCount >= State.MOST_PROGRAMS) {
            return NONE;
        }
        now.programs[now.programCount].clear();
        now.programCount++;
        return now.programCount - 1;
    }

    public int order(int program, int kind, int argument) {
        if (!now.hasProgram(program)) {
            return NONE;
        }
        Program changed = now.programs[program];
        if (!changed.append(kind, argument)) {
            return NONE;
        }
        changed.forgetRun();
        return changed.size - 1;
    }

    public boolean change(int program, int place, int argument) {
        if (!now.hasOrder(program, place)) {
            return false;
        }
        Program changed = now.programs[program];
        if (!changed.replace(place, argument)) {
            return false;
        }
        changed.forgetRun();
        return true;
    }

    public int tell(int program, int place, int what) {
        if (!now.hasOrder(program, place)) {
            return NONE;
        }
        Program asked = now.programs[program];
        switch (what) {
            case 0:
                return asked.kinds[place];
            case 1:
                return asked.arguments[place];
            case 2:
                return asked.times[place];
            case 3:
                return asked.isLedTo(place) ? 1 : 0;
            default:
                return NONE;
        }
    }

    public int join(int n, int a, int b, int c, int d) {
        int row = Row.of(n, a, b, c, d);
        if (row == Row.IMPOSSIBLE || now.joined.indexOf(row) != NONE || !now.joined.append(row)) {
            return NONE;
        }
        return now.joined.size - 1;
    }

    public void part() {
        now.joined.size = 0;
    }

    public int joined(int join, int k) {
        return now.joined.kind(join, k);
    }

    public int pack(int program) {
        if (!now.hasProgram(program)) {
            return NONE;
        }
        Program asked = now.programs[program];
        ways.measure(asked, now.joined, false);
        now.packed.make(asked, ways);
        return now.packed.codeCount;
    }

    public int code(int k, int what) {
        if (!now.packed.hasCode(k)) {
            return NONE;
        }
        switch (what) {
            case 0:
                return now.packed.numbers[k];
            case 1:
                return now.packed.places[k];
            case 2:
                return now.packed.lengths[k];
            default:
                return NONE;
        }
    }

    public int bytes(int k) {
        return now.packed.hasByte(k) ? now.packed.written[k] : NONE;
    }

    public int run(int program, boolean packed, int most) {
        if (most < 0 || most > Run.MOST_ORDERS) {
            return NONE;
        }
        if (packed) {
            return now.packed.there ? now.latest.follow(now.packed.program, now.packed, most) : NONE;
        }
        return now.hasProgram(program) ? now.latest.follow(now.programs[program], null, most) : NONE;
    }

    public int ran(int what) {
        if (!now.latest.there) {
            return NONE;
        }
        switch (what) {
            case 0:
                return now.latest.done;
            case 1:
                return now.latest.begun;
            case 2:
                return now.latest.pileSize;
            case 3:
                return now.latest.outSize;
            case 4:
                return now.latest.place;
            default:
                return NONE;
        }
    }

    public int had(int what, int k) {
        switch (what) {
            case 0:
                return numberOf(now.latest.pile, now.latest.pileSize, k);
            case 1:
                return numberOf(now.latest.out, now.latest.outSize, k);
            case 2:
                return numberOf(now.latest.registers, Run.REGISTERS, k);
            default:
                return 0;
        }
    }

    public int cost(boolean byRuns) {
        int sum = 0;
        for (int program = 0; program < now.programCount; program++) {
            sum += ways.measure(now.programs[program], now.joined, byRuns);
        }
        return sum;
    }

    public int choose(int k, boolean byRuns) {
        if (k < 1 || k > State.MOST_CHOSEN) {
            return NONE;
        }
        now.wasAsked = true;
        return chooser.search(now, k, byRuns);
    }

    public int chosen(int k, int i) {
        return now.chosen.kind(k, i);
    }

    public int take() {
        if (!now.wasAsked) {
            return NONE;
        }
        now.joined.copyFrom(now.chosen);
        return now.joined.size;
    }

    public int feed(int four, int n) {
        return now.told.append(four, n) ? now.told.size : NONE;
    }

    public int read() {
        if (now.programCount >= State.MOST_PROGRAMS) {
            return NONE;
        }
        // The first unused PROGRAM is written, and counts only once all of it is right.
        if (!now.told.readInto(now.programs[now.programCount], now.joined)) {
            return NONE;
        }
        now.told.size = 0;
        now.programCount++;
        return now.programCount - 1;
    }

    public int count(int what) {
        switch (what) {
            case 0:
                return now.programCount;
            case 1:
                return now.joined.size;
            case 2:
                return now.packed.there ? now.packed.codeCount : NONE;
            case 3:
                return now.packed.there ? now.packed.byteCount : NONE;
            case 4:
                return now.chosen.size;
            case 5:
                return now.told.size;
            default:
                return what >= 10 && now.hasProgram(what - 10) ? now.programs[what - 10].size : NONE;
        }
    }

    public boolean image(int k) {
        if (k < 0 || k >= MOST_IMAGES) {
            return false;
        }
        if (images[k] == null) {
            images[k] = new State();
        }
        images[k].copyFrom(now);
        return true;
    }

    public boolean again(int k) {
        if (k < 0 || k >= MOST_IMAGES || images[k] == null) {
            return false;
        }
        now.copyFrom(images[k]);
        return true;
    }

    private static int numberOf(int[] numbers, int size, int k) {
        return k >= 0 && k < size ? numbers[k] : 0;
    }

    /** What is told of the kinds of ORDERS. */
    private static final class Kind {
        static final int COUNT = 16;

        static final int PUSH = 0;
        static final int ADD = 1;
        static final int TAKE = 2;
        static final int TIMES = 3;
        static final int TWICE = 4;
        static final int TURN = 5;
        static final int DROP = 6;
        static final int GET = 7;
        static final int SET = 8;
        static final int GO = 9;
        static final int IF = 10;
        static final int LESS = 11;
        static final int OUT = 12;
        static final int HALT = 13;
        static final int MORE = 15;

        /** How many numbers each kind wants on the pile, and how many lie there in their stead behind it. */
        static final int[] WANTS = {0, 2, 2, 2, 1, 2, 1, 0, 1, 0, 1, 2, 1, 0, 0, 0};
        static final int[] LEAVES = {1, 1, 1, 1, 2, 2, 0, 1, 0, 0, 0, 1, 0, 0, 0, 0};

        static final int[] LEAST_ARGUMENT = {-128, 0, 0, 0, 0, 0, 0, 0, 0, 0, 0, 0, 0, 0, 0, 0};
        static final int[] MOST_ARGUMENT = {127, 0, 0, 0, 0, 0, 0, 7, 7, 39, 39, 0, 0, 0, 0, 7};

        static boolean isOne(int kind) {
            return kind >= 0 && kind < COUNT;
        }

        static boolean hasArgument(int kind) {
            return MOST_ARGUMENT[kind] > 0;
        }

        static boolean fits(int kind, int argument) {
            return argument >= LEAST_ARGUMENT[kind] && argument <= MOST_ARGUMENT[kind];
        }

        static boolean leads(int kind) {
            return kind == GO || kind == IF;
        }

        static boolean isLastAlone(int kind) {
            return leads(kind) || kind == HALT;
        }
    }

    /**
     * A row of 2 .. 4 kinds as one number: five bits a kind, each one more than the kind, the first kind highest and
     * 0 behind the last. So rows are alike if their numbers are, and the lesser row is the lesser number.
     */
    private static final class Row {
        static final int LEAST = 2;
        static final int MOST = 4;
        static final int IMPOSSIBLE = 0;

        private static final int BITS = 5;
        private static final int MASK = 31;

        static int of(int n, int a, int b, int c, int d) {
            if (n < LEAST || n > MOST) {
                return IMPOSSIBLE;
            }
            int row = 0;
            for (int k = 0; k < n; k++) {
                int kind = k == 0 ? a : k == 1 ? b : k == 2 ? c : d;
                if (!Kind.isOne(kind) || k < n - 1 && Kind.isLastAlone(kind)) {
                    return IMPOSSIBLE;
                }
                row = with(row, k, kind);
            }
            return row;
        }

        static int with(int row, int k, int kind) {
            return row | ((kind + 1) << (BITS * (MOST - 1 - k)));
        }

        /** NONE behind the last kind. */
        static int kind(int row, int k) {
            return ((row >>> (BITS * (MOST - 1 - k))) & MASK) - 1;
        }
    }

    /** Rows in their order: the JOINED ORDERS, or those that are CHOSEN. */
    private static final class Rows {
        static final int MOST = 6;

        int size;
        private final int[] rows = new int[MOST];

        boolean append(int row) {
            if (size >= MOST) {
                return false;
            }
            rows[size] = row;
            size++;
            return true;
        }

        int indexOf(int row) {
            for (int k = 0; k < size; k++) {
                if (rows[k] == row) {
                    return k;
                }
            }
            return NONE;
        }

        int kind(int k, int i) {
            if (k < 0 || k >= size || i < 0 || i >= Row.MOST) {
                return NONE;
            }
            return Row.kind(rows[k], i);
        }

        void copyFrom(Rows other) {
            size = other.size;
            System.arraycopy(other.rows, 0, rows, 0, MOST);
        }
    }

    /** ORDERS, and how often each was done in the latest RUN that was not PACKED. */
    private static final class Program {
        static final int MOST = 40;

        int size;
        final int[] kinds = new int[MOST];
        final int[] arguments = new int[MOST];
        final int[] times = new int[MOST];
        /** How many ORDERS lead to each place: kept along, so that no call has to look for them. */
        private final int[] leading = new int[MOST];

        void clear() {
            size = 0;
            Arrays.fill(leading, 0);
            forgetRun();
        }

        void forgetRun() {
            Arrays.fill(times, 0);
        }

        boolean has(int place) {
            return place >= 0 && place < size;
        }

        boolean isLedTo(int place) {
            return leading[place] > 0;
        }

        boolean append(int kind, int argument) {
            if (size >= MOST || !Kind.isOne(kind) || !Kind.fits(kind, argument)) {
                return false;
            }
            kinds[size] = kind;
            arguments[size] = argument;
            size++;
            if (Kind.leads(kind)) {
                leading[argument]++;
            }
            return true;
        }

        boolean replace(int place, int argument) {
            int kind = kinds[place];
            if (!Kind.hasArgument(kind) || !Kind.fits(kind, argument)) {
                return false;
            }
            if (Kind.leads(kind)) {
                leading[arguments[place]]--;
                leading[argument]++;
            }
            arguments[place] = argument;
            return true;
        }

        /** How many ORDERS a CODE that begins at a place could have at most. */
        int reach(int place) {
            int length = 1;
            while (length < Row.MOST && place + length < size
                    && !isLedTo(place + length) && !Kind.isLastAlone(kinds[place + length - 1])) {
                length++;
            }
            return length;
        }

        int weight(int place, boolean byRuns) {
            return byRuns ? times[place] : 1;
        }

        void copyFrom(Program other) {
            size = other.size;
            System.arraycopy(other.kinds, 0, kinds, 0, MOST);
            System.arraycopy(other.arguments, 0, arguments, 0, MOST);
            System.arraycopy(other.times, 0, times, 0, MOST);
            System.arraycopy(other.leading, 0, leading, 0, MOST);
        }
    }

    /** The cheapest way to PACK one PROGRAM by given rows, found from its end to its beginning. */
    private static final class Ways {
        /** For each place, of the CODE that begins there on the cheapest way from it: ORDERS and number. */
        final int[] lengths = new int[Program.MOST];
        final int[] numbers = new int[Program.MOST];
        private final int[] least = new int[Program.MOST + 1];

        int measure(Program program, Rows rows, boolean byRuns) {
            least[program.size] = 0;
            for (int place = program.size - 1; place >= 0; place--) {
                begin(program, rows, place);
                least[place] = program.weight(place, byRuns) + least[place + lengths[place]];
            }
            return least[0];
        }

        private void begin(Program program, Rows rows, int place) {
            lengths[place] = 1;
            numbers[place] = program.kinds[place];
            int reach = program.reach(place);
            int row = Row.with(0, 0, program.kinds[place]);
            for (int length = Row.LEAST; length <= reach; length++) {
                row = Row.with(row, length - 1, program.kinds[place + length - 1]);
                int join = rows.indexOf(row);
                // Of ways that cost the same the longer first CODE counts, and lengths come upwards here.
                if (join != NONE && least[place + length] <= least[place + lengths[place]]) {
                    lengths[place] = length;
                    numbers[place] = Kind.COUNT + join;
                }
            }
        }
    }

    /** The PROGRAM that was PACKED last, as it was then. */
    private static final class Packed {
        private static final int MOST_BYTES = 2 * Program.MOST;

        boolean there;
        /** A copy, so that later changes, and the counts of its RUNS, leave the PROGRAM and it apart. */
        final Program program = new Program();
        int codeCount;
        final int[] numbers = new int[Program.MOST];
        final int[] places = new int[Program.MOST];
        final int[] lengths = new int[Program.MOST];
        int byteCount;
        final int[] written = new int[MOST_BYTES];
        /** For each place the CODE that begins there, or NONE. */
        private final int[] codesAt = new int[Program.MOST];

        boolean hasCode(int k) {
            return there && k >= 0 && k < codeCount;
        }

        boolean hasByte(int k) {
            return there && k >= 0 && k < byteCount;
        }

        boolean beginsAt(int place) {
            return codesAt[place] != NONE;
        }

        void make(Program source, Ways ways) {
            there = true;
            program.copyFrom(source);
            codeCount = 0;
            byteCount = 0;
            int next = 0;
            for (int place = 0; place < program.size; place++) {
                codesAt[place] = place == next ? codeCount : NONE;
                if (place == next) {
                    beginCode(place, ways.numbers[place], ways.lengths[place]);
                    next += ways.lengths[place];
                }
                if (Kind.hasArgument(program.kinds[place])) {
                    write(program.arguments[place]);
                }
            }
        }

        private void beginCode(int place, int number, int length) {
            numbers[codeCount] = number;
            places[codeCount] = place;
            lengths[codeCount] = length;
            codeCount++;
            write(number);
        }

        private void write(int number) {
            written[byteCount] = number & 255;
            byteCount++;
        }

        void copyFrom(Packed other) {
            there = other.there;
            program.copyFrom(other.program);
            codeCount = other.codeCount;
            System.arraycopy(other.numbers, 0, numbers, 0, Program.MOST);
            System.arraycopy(other.places, 0, places, 0, Program.MOST);
            System.arraycopy(other.lengths, 0, lengths, 0, Program.MOST);
            byteCount = other.byteCount;
            System.arraycopy(other.written, 0, written, 0, MOST_BYTES);
            System.arraycopy(other.codesAt, 0, codesAt, 0, Program.MOST);
        }
    }

    /** The latest RUN. */
    private static final class Run {
        static final int MOST_ORDERS = 20000;
        static final int REGISTERS = 8;

        private static final int MOST_PILE = 24;
        private static final int MOST_OUT = 40;

        private static final int GOES_ON = -1;
        private static final int AT_ITS_END = 0;
        private static final int TOO_FEW = 1;
        private static final int TOO_MANY = 2;
        private static final int ALL_DONE = 3;

        boolean there;
        int done;
        int begun;
        int place;
        int pileSize;
        final int[] pile = new int[MOST_PILE];
        int outSize;
        final int[] out = new int[MOST_OUT];
        final int[] registers = new int[REGISTERS];

        /** How it ENDS; packed is null for a PROGRAM that is not PACKED, whose every ORDER counts as begun. */
        int follow(Program program, Packed packed, int most) {
            clear();
            program.forgetRun();
            int end = GOES_ON;
            // Each step but the last does one ORDER.
            for (int step = 0; step <= most && end == GOES_ON; step++) {
                end = endAhead(program, most);
                if (end == GOES_ON) {
                    if (packed == null || packed.beginsAt(place)) {
                        begun++;
                    }
                    end = tryOrder(program);
                }
            }
            return end;
        }

        private void clear() {
            there = true;
            done = 0;
            begun = 0;
            place = 0;
            pileSize = 0;
            outSize = 0;
            Arrays.fill(registers, 0);
        }

        private int endAhead(Program program, int most) {
            if (!program.has(place)) {
                return AT_ITS_END;
            }
            return done >= most ? ALL_DONE : GOES_ON;
        }

        private int tryOrder(Program program) {
            int kind = program.kinds[place];
            if (pileSize < Kind.WANTS[kind]) {
                return TOO_FEW;
            }
            if (pileSize - Kind.WANTS[kind] + Kind.LEAVES[kind] > MOST_PILE
                    || kind == Kind.OUT && outSize >= MOST_OUT) {
                return TOO_MANY;
            }
            done++;
            program.times[place]++;
            if (kind == Kind.HALT) {
                return AT_ITS_END;
            }
            carryOut(kind, program.arguments[place]);
            return GOES_ON;
        }

        /** The pile was looked at before. */
        private void carryOut(int kind, int argument) {
            int next = place + 1;
            switch (kind) {
                case Kind.PUSH:
                    lay(argument);
                    break;
                case Kind.ADD:
                case Kind.TAKE:
                case Kind.TIMES:
                case Kind.LESS:
                    layOneForTwo(kind);
                    break;
                case Kind.TWICE:
                    lay(pile[pileSize - 1]);
                    break;
                case Kind.TURN:
                    turnUpperTwo();
                    break;
                case Kind.DROP:
                    lift();
                    break;
                case Kind.GET:
                    lay(registers[argument]);
                    break;
                case Kind.SET:
                    registers[argument] = lift();
                    break;
                case Kind.GO:
                    next = argument;
                    break;
                case Kind.IF:
                    next = lift() == 0 ? argument : next;
                    break;
                case Kind.OUT:
                    out[outSize] = lift();
                    outSize++;
                    break;
                case Kind.MORE:
                    registers[argument]++;
                    break;
                default:
                    break;
            }
            place = next;
        }

        private void layOneForTwo(int kind) {
            int top = lift();
            int second = lift();
            switch (kind) {
                case Kind.ADD:
                    lay(second + top);
                    break;
                case Kind.TAKE:
                    lay(second - top);
                    break;
                case Kind.TIMES:
                    lay(second * top);
                    break;
                default:
                    lay(second < top ? 1 : 0);
                    break;
            }
        }

        private void turnUpperTwo() {
            int top = lift();
            int second = lift();
            lay(top);
            lay(second);
        }

        private void lay(int number) {
            pile[pileSize] = number;
            pileSize++;
        }

        private int lift() {
            pileSize--;
            return pile[pileSize];
        }

        void copyFrom(Run other) {
            there = other.there;
            done = other.done;
            begun = other.begun;
            place = other.place;
            pileSize = other.pileSize;
            System.arraycopy(other.pile, 0, pile, 0, MOST_PILE);
            outSize = other.outSize;
            System.arraycopy(other.out, 0, out, 0, MOST_OUT);
            System.arraycopy(other.registers, 0, registers, 0, REGISTERS);
        }
    }

    /** The BYTES that are told. */
    private static final class Told {
        private static final int MOST = 160;

        int size;
        private final int[] told = new int[MOST];
        private int next;

        boolean append(int four, int n) {
            if (n < 1 || n > 4 || size + n > MOST) {
                return false;
            }
            for (int k = 0; k < n; k++) {
                told[size] = (four >>> (24 - 8 * k)) & 255;
                size++;
            }
            return true;
        }

        /** False, and the PROGRAM is to be left aside, if they are none. */
        boolean readInto(Program program, Rows joined) {
            program.clear();
            next = 0;
            // Each CODE takes a byte or more.
            for (int code = 0; code < MOST && next < size; code++) {
                int number = told[next];
                next++;
                if (!readCode(program, joined, number)) {
                    return false;
                }
            }
            return true;
        }

        private boolean readCode(Program program, Rows joined, int number) {
            if (Kind.isOne(number)) {
                return readOrder(program, number);
            }
            int join = number - Kind.COUNT;
            if (join >= joined.size) {
                return false;
            }
            for (int k = 0; k < Row.MOST && joined.kind(join, k) != NONE; k++) {
                if (!readOrder(program, joined.kind(join, k))) {
                    return false;
                }
            }
            return true;
        }

        private boolean readOrder(Program program, int kind) {
            if (!Kind.hasArgument(kind)) {
                return program.append(kind, 0);
            }
            if (next >= size) {
                return false;
            }
            int argument = kind == Kind.PUSH ? (byte) told[next] : told[next];
            next++;
            return program.append(kind, argument);
        }

        void copyFrom(Told other) {
            size = other.size;
            System.arraycopy(other.told, 0, told, 0, MOST);
        }
    }

    /** All that is told. */
    private static final class State {
        static final int MOST_PROGRAMS = 3;
        static final int MOST_CHOSEN = 2;

        int programCount;
        final Program[] programs = new Program[MOST_PROGRAMS];
        final Rows joined = new Rows();
        final Packed packed = new Packed();
        final Run latest = new Run();
        boolean wasAsked;
        final Rows chosen = new Rows();
        final Told told = new Told();

        State() {
            for (int program = 0; program < MOST_PROGRAMS; program++) {
                programs[program] = new Program();
            }
        }

        boolean hasProgram(int program) {
            return program >= 0 && program < programCount;
        }

        boolean hasOrder(int program, int place) {
            return hasProgram(program) && programs[program].has(place);
        }

        void copyFrom(State other) {
            programCount = other.programCount;
            for (int program = 0; program < programCount; program++) {
                programs[program].copyFrom(other.programs[program]);
            }
            joined.copyFrom(other.joined);
            packed.copyFrom(other.packed);
            latest.copyFrom(other.latest);
            wasAsked = other.wasAsked;
            chosen.copyFrom(other.chosen);
            told.copyFrom(other.told);
        }
    }

    /**
     * The search for the rows to be CHOSEN. A row STANDS at a place if a CODE could be it there; such a CODE SAVES
     * what its ORDERS but the first would cost, so that the least cost is the most that is saved.
     */
    private static final class Chooser {
        /** At each place but the last ones of a PROGRAM a row of 2, of 3 and of 4. */
        private static final int MOST_STANDS = State.MOST_PROGRAMS * 3 * Program.MOST;

        private int rowCount;
        /** The rows, the least first. */
        private final int[] rows = new int[MOST_STANDS];
        private final int[] lastStands = new int[MOST_STANDS];
        private final int[] savedAlone = new int[MOST_STANDS];
        /** The most that a row from this one on saves alone. */
        private final int[] savedFromHere = new int[MOST_STANDS + 1];

        private int standCount;
        /** Places go on from PROGRAM to PROGRAM. */
        private final int[] places = new int[MOST_STANDS];
        private final int[] ends = new int[MOST_STANDS];
        private final int[] saves = new int[MOST_STANDS];
        /** The stand of the same row ahead of it. */
        private final int[] standsAhead = new int[MOST_STANDS];

        /** What is saved at best from the stand of each step on, the last stand first. */
        private final int[] stepPlaces = new int[MOST_STANDS];
        private final int[] stepSaved = new int[MOST_STANDS];

        private int saved;
        private int first;
        private int second;

        /** The cost with the rows that it makes the CHOSEN ones. */
        int search(State state, int k, boolean byRuns) {
            int unsaved = gather(state, byRuns);
            chooseOne();
            if (k > 1) {
                chooseTwo();
            }
            state.chosen.size = 0;
            if (first != NONE) {
                state.chosen.append(rows[first]);
            }
            if (second != NONE) {
                state.chosen.append(rows[second]);
            }
            return unsaved - saved;
        }

        /** The cost without rows. */
        private int gather(State state, boolean byRuns) {
            rowCount = 0;
            standCount = 0;
            int cost = 0;
            for (int number = 0; number < state.programCount; number++) {
                Program program = state.programs[number];
                for (int place = 0; place < program.size; place++) {
                    cost += program.weight(place, byRuns);
                    gatherAt(program, place, number * Program.MOST, byRuns);
                }
            }
            return cost;
        }

        private void gatherAt(Program program, int place, int base, boolean byRuns) {
            int reach = program.reach(place);
            int row = Row.with(0, 0, program.kinds[place]);
            int save = 0;
            for (int length = Row.LEAST; length <= reach; length++) {
                int last = place + length - 1;
                row = Row.with(row, length - 1, program.kinds[last]);
                save += program.weight(last, byRuns);
                // What saves nothing never makes a set better than one with fewer rows.
                if (save > 0) {
                    addStand(row, base + place, base + last + 1, save);
                }
            }
        }

        private void addStand(int row, int place, int end, int save) {
            int index = findRow(row);
            places[standCount] = place;
            ends[standCount] = end;
            saves[standCount] = save;
            standsAhead[standCount] = lastStands[index];
            lastStands[index] = standCount;
            standCount++;
        }

        /** A row that was not there comes in between, without a stand. */
        private int findRow(int row) {
            int low = 0;
            int high = rowCount;
            for (int step = 0; step < MOST_STANDS && low < high; step++) {
                int middle = (low + high) / 2;
                if (rows[middle] < row) {
                    low = middle + 1;
                } else {
                    high = middle;
                }
            }
            if (low == rowCount || rows[low] != row) {
                System.arraycopy(rows, low, rows, low + 1, rowCount - low);
                System.arraycopy(lastStands, low, lastStands, low + 1, rowCount - low);
                rows[low] = row;
                lastStands[low] = NONE;
                rowCount++;
            }
            return low;
        }

        private void chooseOne() {
            saved = 0;
            first = NONE;
            second = NONE;
            for (int row = 0; row < rowCount; row++) {
                savedAlone[row] = mostSaved(lastStands[row], NONE);
                if (savedAlone[row] > saved) {
                    saved = savedAlone[row];
                    first = row;
                }
            }
        }

        /** Two rows save no more than both of them alone; and pairs come upwards, so that only a better one counts. */
        private void chooseTwo() {
            savedFromHere[rowCount] = 0;
            for (int row = rowCount - 1; row >= 0; row--) {
                savedFromHere[row] = Math.max(savedAlone[row], savedFromHere[row + 1]);
            }
            for (int one = 0; one < rowCount; one++) {
                for (int two = one + 1; two < rowCount && savedAlone[one] + savedFromHere[two] > saved; two++) {
                    if (savedAlone[one] + savedAlone[two] > saved) {
                        tryTwo(one, two);
                    }
                }
            }
        }

        private void tryTwo(int one, int two) {
            int both = mostSaved(lastStands[one], lastStands[two]);
            if (both > saved) {
                saved = both;
                first = one;
                second = two;
            }
        }

        /** By CODES that do not overlap, at the stands of one row or two, that are told by their last ones. */
        private int mostSaved(int lastOne, int lastTwo) {
            int one = lastOne;
            int two = lastTwo;
            int best = 0;
            for (int step = 0; step < MOST_STANDS && (one != NONE || two != NONE); step++) {
                boolean takesOne = two == NONE || one != NONE && places[one] >= places[two];
                int stand = takesOne ? one : two;
                best = Math.max(best, saves[stand] + savedFrom(ends[stand], step));
                stepPlaces[step] = places[stand];
                stepSaved[step] = best;
                if (takesOne) {
                    one = standsAhead[one];
                } else {
                    two = standsAhead[two];
                }
            }
            return best;
        }

        /** Few steps are looked at: those of the places that one CODE has. */
        private int savedFrom(int place, int steps) {
            for (int step = steps - 1; step >= 0; step--) {
                if (stepPlaces[step] >= place) {
                    return stepSaved[step];
                }
            }
            return 0;
        }
    }
}
