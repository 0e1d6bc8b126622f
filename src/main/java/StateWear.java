import java.util.Arrays;

/**
 * Things that may only be used in their order: KINDS with STATES and USES, ROUTINES of STATEMENTS
 * with unknown ANSWERS, a judge that goes through all that MAY BE, and runs by told ANSWERS.
 */
public final class StateWear {
    public static final int NONE = -1, BAD = -2, NO = -3, FULL = -4, SPENT = -5;

    private static final int KINDS = 6, STATES = 6, NAMES = 8;
    private static final int ROUTINES = 6, STATEMENTS = 24, BLOCKS = 6, VARIABLES = 5;
    private static final int CASES = 40, MAY_BE_IN_A_CASE = 2000;
    private static final int TOLD_ANSWERS = 60, DONE = 500, OPEN_ROUTINES = 10, TRIED_ANSWERS = 8;

    private static final int MAKE = 0, USE = 1, ASK = 2, IF = 3, WHILE = 4, LOOP = 5, ELSE = 6, END = 7;
    private static final int NAME = 8, DROP = 9, LEND = 10, GIVE = 11, LEAVE = 12, FAIL = 13, TRY = 14, LAST = 15;

    private static final int RIGHT = 0, NOTHING = 1, GONE_AWAY = 2, STATE = 3, LENT_ONLY = 4, LEFT = 5;
    private static final int OVER = 0, FAILED = 6, TOO_LONG = 7, TOO_DEEP = 8;

    /** How the second block of a TRY goes on at its END. */
    private static final int LEAVES = 1, FAILS = 2;

    /** In place of a STATE: the THING was given away. */
    private static final int GONE = 6;

    /** The slot of what was lent; the slots below it are for THINGS of the ROUTINE's own. */
    private static final int LENT = 5;

    /** How a CASE begins. */
    private static final int BY_LEND = 0, BY_GIVE = 1, BY_BEGINNING = 2;

    /** A paper has the STATES of a FAILED CASE so many bits above those of one that ended well. */
    private static final int FAILED_BITS = 8;

    private final Book book = new Book();
    private final Fitting fitting = new Fitting();
    private final Judge judge = new Judge();
    private final Runner runner = new Runner();
    private final int[] lastRun = new int[6];
    private boolean hasRun = false;
    private int parting = NONE;

    public StateWear() {
    }

    // ---- books

    public int kind(int states, int ends) {
        if (states < 1 || states > STATES || !areStates(ends, states)) return BAD;
        if (book.kindCount >= KINDS) return FULL;
        book.kinds[book.kindCount].begin(states, ends);
        return book.kindCount++;
    }

    public int heir(int kind, int more) {
        if (!book.hasKind(kind) || more < 0 || more > STATES - book.kinds[kind].states) return BAD;
        if (book.kindCount >= KINDS) return FULL;
        book.kinds[book.kindCount].inherit(book.kinds[kind], more);
        return book.kindCount++;
    }

    public int use(int kind, int state, int name, int yes, int no) {
        if (!book.hasState(kind, state) || !isName(name) || !book.hasState(kind, yes)) return BAD;
        if (no != NONE && !book.hasState(kind, no)) return BAD;
        if (book.kinds[kind].hasUse(state, name)) return NO;
        book.kinds[kind].setUse(state, name, yes, no);
        return 1;
    }

    public int drop(int kind, int state, int name) {
        if (!book.hasState(kind, state) || !isName(name)) return BAD;
        if (!book.kinds[kind].hasUse(state, name)) return NO;
        book.kinds[kind].setUse(state, name, NONE, NONE);
        return 1;
    }

    public int ends(int kind, int ends) {
        if (!book.hasKind(kind) || !areStates(ends, book.kinds[kind].states)) return BAD;
        int before = book.kinds[kind].ends;
        book.kinds[kind].ends = ends;
        return before;
    }

    public int leads(int kind, int state, int name, boolean yes) {
        if (!book.hasKind(kind)) return BAD;
        if (state == NONE && name == NONE) return book.kinds[kind].states;
        if (!book.hasState(kind, state) || !isName(name)) return BAD;
        return book.kinds[kind].after(state, name, yes);
    }

    public int fits(int kind, int under) {
        if (!book.hasKind(kind) || !book.hasKind(under)) return BAD;
        int uses = fitting.usesToParting(book.kinds[kind], book.kinds[under]);
        if (uses == NONE) return 1;
        parting = uses;
        return 0;
    }

    public int parts() {
        return parting;
    }

    // ---- routines

    public int routine() {
        if (book.routineCount >= ROUTINES) return FULL;
        return book.routineCount++;
    }

    public int statement(int routine, int sort, int a, int b) {
        if (!book.hasRoutine(routine) || sort < MAKE || sort > LAST) return BAD;
        if (!isFirst(sort, a) || !isSecond(sort, b)) return BAD;
        Routine body = book.routines[routine];
        if (!body.takes(sort)) return NO;
        if (body.length >= STATEMENTS) return FULL;
        body.append(sort, looksAtFirst(sort) ? a : 0, looksAtSecond(sort) ? b : 0);
        return body.length;
    }

    public int cut(int routine) {
        if (!book.hasRoutine(routine)) return BAD;
        if (book.routines[routine].length == 0) return NO;
        book.routines[routine].removeLast();
        return book.routines[routine].length;
    }

    public int told(int routine, int i, int what) {
        if (!book.hasRoutine(routine) || what < 0 || what > 2) return BAD;
        return book.routines[routine].part(i, what);
    }

    public int open(int routine) {
        if (!book.hasRoutine(routine)) return BAD;
        return book.routines[routine].openBlocks;
    }

    // ---- judging

    public int judge() {
        if (!book.isWhole()) return NO;
        judge.findAll(book);
        if (judge.spent) return SPENT;
        return judge.wrongCount == 0 ? 1 : 0;
    }

    public int wrong(int i, int what) {
        if (what < 0 || what > 2) return BAD;
        return judge.partOfWrong(i, what);
    }

    public int may(int routine, int i, int variable) {
        if (!book.hasPlace(routine, i) || !isVariable(variable)) return BAD;
        return judge.statesOf(routine, i, variable);
    }

    public int one(int routine, int i, int v, int other) {
        if (!book.hasPlace(routine, i) || !isVariable(v) || !isVariable(other)) return BAD;
        return judge.sameThing(routine, i, v, other);
    }

    public int paper(int routine, boolean given, int kind, int state) {
        if (!book.hasRoutine(routine) || !book.hasState(kind, state)) return BAD;
        return judge.paperOf(caseCode(routine, given ? BY_GIVE : BY_LEND, kind, state));
    }

    public int count(int what) {
        switch (what) {
            case 0: return book.kindCount;
            case 1: return book.routineCount;
            case 2: return judge.wrongCount;
            case 3: return judge.caseCount;
            case 4: return judge.pool.size;
            default: return BAD;
        }
    }

    // ---- runs

    public int run(long answers, int n) {
        if (n < 0 || n > TOLD_ANSWERS) return BAD;
        if (!book.isWhole()) return NO;
        hasRun = true;
        lastRun[0] = runner.play(book, answers, n);
        lastRun[1] = runner.endRoutine;
        lastRun[2] = runner.endPlace;
        lastRun[3] = runner.asked;
        lastRun[4] = runner.done;
        lastRun[5] = runner.deepest;
        return lastRun[0];
    }

    public int ended(int what) {
        if (what < 0 || what >= lastRun.length) return BAD;
        return hasRun ? lastRun[what] : NONE;
    }

    public int breaks(int n) {
        if (n < 0 || n > TRIED_ANSWERS) return BAD;
        if (!book.isWhole()) return NO;
        for (int length = 0; length <= n; length++) {
            // A row that closes with a no runs as the shorter one without it, which was not WRONG.
            for (int bits = 1 << length >> 1; bits < 1 << length; bits++) {
                int told = runner.play(book, bits, length);
                if (told >= NOTHING && told <= LEFT) return bits + (1 << length);
            }
        }
        return 0;
    }

    public long digest() {
        long h = 29;
        for (int k = 0; k < book.kindCount; k++) h = book.kinds[k].digestFrom(h);
        for (int r = 0; r < book.routineCount; r++) h = book.routines[r].digestFrom(h);
        return h;
    }

    // ---- what numbers may be

    private static boolean isName(int name) {
        return name >= 0 && name < NAMES;
    }

    private static boolean isVariable(int variable) {
        return variable >= 0 && variable < VARIABLES;
    }

    /** Whether bits are set for some of so many STATES alone. */
    private static boolean areStates(int bits, int states) {
        return bits >= 0 && bits < 1 << states;
    }

    private static boolean isCall(int sort) {
        return sort == LEND || sort == GIVE;
    }

    private static boolean usesThing(int sort) {
        return sort == USE || sort == ASK || sort == LOOP;
    }

    private static boolean opensBlock(int sort) {
        return sort == ASK || sort == IF || sort == WHILE || sort == LOOP || sort == TRY;
    }

    private static boolean looksAtFirst(int sort) {
        return looksAtSecond(sort) || sort == DROP;
    }

    private static boolean looksAtSecond(int sort) {
        return sort == MAKE || usesThing(sort) || sort == NAME || isCall(sort);
    }

    private static boolean isFirst(int sort, int a) {
        if (!looksAtFirst(sort)) return true;
        return isCall(sort) ? a >= 0 && a < ROUTINES : isVariable(a);
    }

    private boolean isSecond(int sort, int b) {
        if (!looksAtSecond(sort)) return true;
        if (sort == MAKE) return book.hasKind(b);
        return usesThing(sort) ? isName(b) : isVariable(b);
    }

    private static int caseCode(int routine, int how, int kind, int state) {
        return ((how * ROUTINES + routine) * KINDS + kind) * STATES + state;
    }

    /** A KIND: its STATES, which of them are ENDS, and where each USE leads. */
    private static final class Kind {
        int states = 0;
        int ends = 0;
        private final int[] byYes = new int[STATES * NAMES];
        private final int[] byNo = new int[STATES * NAMES];

        void begin(int howMany, int whichEnd) {
            states = howMany;
            ends = whichEnd;
            Arrays.fill(byYes, NONE);
            Arrays.fill(byNo, NONE);
        }

        void inherit(Kind from, int more) {
            states = from.states + more;
            ends = from.ends;
            System.arraycopy(from.byYes, 0, byYes, 0, byYes.length);
            System.arraycopy(from.byNo, 0, byNo, 0, byNo.length);
        }

        private boolean isUseful(int state, int name) {
            return state >= 0 && state < states && name >= 0 && name < NAMES;
        }

        void setUse(int state, int name, int yes, int no) {
            if (!isUseful(state, name)) return;
            byYes[state * NAMES + name] = yes;
            byNo[state * NAMES + name] = no;
        }

        boolean hasUse(int state, int name) {
            return isUseful(state, name) && byYes[state * NAMES + name] != NONE;
        }

        boolean isAsking(int state, int name) {
            return isUseful(state, name) && byNo[state * NAMES + name] != NONE;
        }

        int after(int state, int name, boolean yes) {
            if (!isUseful(state, name)) return NONE;
            int at = state * NAMES + name;
            return yes || byNo[at] == NONE ? byYes[at] : byNo[at];
        }

        boolean isEnd(int state) {
            return (ends >> state & 1) != 0;
        }

        long digestFrom(long start) {
            long h = 31 * (31 * start + states) + ends;
            for (int state = 0; state < states; state++) {
                for (int name = 0; name < NAMES; name++) {
                    h = 31 * h + after(state, name, true);
                    h = 31 * h + after(state, name, false);
                }
            }
            return h;
        }
    }

    /** Goes through the pairs of STATES of two KINDS, the nearest ones first. */
    private static final class Fitting {
        private final int[] uses = new int[STATES * STATES];
        private final int[] pairs = new int[STATES * STATES];
        private int found = 0;

        /** How many USES come to the nearest pair that parts them; NONE: it FITS. */
        int usesToParting(Kind kind, Kind under) {
            Arrays.fill(uses, NONE);
            found = 0;
            find(0, 0, 0);
            for (int i = 0; i < found && i < pairs.length; i++) {
                int state = pairs[i] / STATES;
                int below = pairs[i] % STATES;
                if (arePartedAt(kind, state, under, below)) return uses[pairs[i]];
                findBehind(kind, state, under, below);
            }
            return NONE;
        }

        private void find(int state, int below, int howMany) {
            if (state < 0 || below < 0 || found >= pairs.length) return;
            int pair = state * STATES + below;
            if (uses[pair] != NONE) return;
            uses[pair] = howMany;
            pairs[found++] = pair;
        }

        private static boolean arePartedAt(Kind kind, int state, Kind under, int below) {
            if (under.isEnd(below) && !kind.isEnd(state)) return true;
            for (int name = 0; name < NAMES; name++) {
                if (!under.hasUse(below, name)) continue;
                if (!kind.hasUse(state, name)) return true;
                if (kind.isAsking(state, name) && !under.isAsking(below, name)) return true;
            }
            return false;
        }

        private void findBehind(Kind kind, int state, Kind under, int below) {
            int howMany = uses[state * STATES + below] + 1;
            for (int name = 0; name < NAMES; name++) {
                if (!under.hasUse(below, name)) continue;
                find(kind.after(state, name, true), under.after(below, name, true), howMany);
                find(kind.after(state, name, false), under.after(below, name, false), howMany);
            }
        }
    }

    /** A ROUTINE: its STATEMENTS, and where their blocks lead. */
    private static final class Routine {
        int length = 0;
        int openBlocks = 0;
        final int[] sorts = new int[STATEMENTS];
        final int[] firsts = new int[STATEMENTS];
        final int[] seconds = new int[STATEMENTS];

        /** Where it goes if not to the next STATEMENT: behind a no, an ELSE, an END; of a TRY: its LAST. */
        final int[] targets = new int[STATEMENTS];

        /** The TRY whose LAST is next as this STATEMENT FAILS or LEAVES; NONE: there is none. */
        final int[] catchers = new int[STATEMENTS];

        /** Of a TRY and its END: how many blocks it stands in; NONE for all others. */
        final int[] levels = new int[STATEMENTS];

        /** Which bits of the modes are known at a place: those of the TRYs in whose second block it stands. */
        final int[] keptModes = new int[STATEMENTS + 1];

        /** Of a block: its ELSE or LAST; NONE before it has one. */
        private final int[] middles = new int[STATEMENTS];
        private final int[] blocks = new int[BLOCKS];

        boolean takes(int sort) {
            if (opensBlock(sort)) return openBlocks < BLOCKS;
            if (sort != ELSE && sort != LAST && sort != END) return true;
            if (openBlocks < 1 || openBlocks > BLOCKS) return false;
            int block = blocks[openBlocks - 1];
            boolean whole = middles[block] != NONE;
            if (sort == ELSE) return !whole && (sorts[block] == ASK || sorts[block] == IF);
            if (sort == LAST) return !whole && sorts[block] == TRY;
            return whole || sorts[block] != TRY;
        }

        void append(int sort, int a, int b) {
            if (length >= STATEMENTS) return;
            sorts[length] = sort;
            firsts[length] = a;
            seconds[length] = b;
            length++;
            link();
        }

        void removeLast() {
            if (length < 1) return;
            length--;
            link();
        }

        int part(int i, int what) {
            if (i < 0 || i >= length) return NONE;
            if (what == 0) return sorts[i];
            return what == 1 ? firsts[i] : seconds[i];
        }

        boolean callsBeyond(int routineCount) {
            for (int i = 0; i < length; i++) {
                if (isCall(sorts[i]) && firsts[i] >= routineCount) return true;
            }
            return false;
        }

        /** Made anew from the first STATEMENT on, so that a cut needs nothing undone. */
        private void link() {
            openBlocks = 0;
            for (int i = 0; i < length; i++) {
                targets[i] = i + 1;
                levels[i] = NONE;
                middles[i] = NONE;
                if (sorts[i] == ELSE || sorts[i] == LAST) linkMiddle(i);
                keptModes[i] = modesKnown();
                if (sorts[i] == END) linkEnd(i);
                catchers[i] = innermostCatcher();
                if (opensBlock(sorts[i])) linkBlock(i);
            }
            keptModes[length] = 0;
        }

        private void linkBlock(int i) {
            if (openBlocks >= BLOCKS) return;
            if (sorts[i] == TRY) levels[i] = openBlocks;
            blocks[openBlocks++] = i;
        }

        private void linkMiddle(int i) {
            if (openBlocks < 1) return;
            int block = blocks[openBlocks - 1];
            middles[block] = i;
            targets[block] = sorts[i] == ELSE ? i + 1 : i;
        }

        private void linkEnd(int i) {
            if (openBlocks < 1) return;
            openBlocks--;
            int block = blocks[openBlocks];
            if (sorts[block] == TRY) {
                levels[i] = levels[block];
            } else if (middles[block] != NONE) {
                targets[middles[block]] = i + 1;
            } else {
                targets[block] = i + 1;
                if (sorts[block] == WHILE || sorts[block] == LOOP) targets[i] = block;
            }
        }

        private int innermostCatcher() {
            for (int open = openBlocks - 1; open >= 0; open--) {
                int block = blocks[open];
                if (sorts[block] == TRY && middles[block] == NONE) return block;
            }
            return NONE;
        }

        private int modesKnown() {
            int known = 0;
            for (int open = 0; open < openBlocks; open++) {
                int block = blocks[open];
                if (sorts[block] == TRY && middles[block] != NONE) known |= 3 << 2 * open;
            }
            return known;
        }

        long digestFrom(long start) {
            long h = 31 * start + length;
            for (int i = 0; i < length; i++) {
                for (int what = 0; what < 3; what++) h = 31 * h + part(i, what);
            }
            return h;
        }
    }

    /** All KINDS and ROUTINES; the ones above the counts are there only as room. */
    private static final class Book {
        int kindCount = 0;
        int routineCount = 0;
        final Kind[] kinds = new Kind[KINDS];
        final Routine[] routines = new Routine[ROUTINES];

        Book() {
            for (int k = 0; k < KINDS; k++) kinds[k] = new Kind();
            for (int r = 0; r < ROUTINES; r++) routines[r] = new Routine();
        }

        boolean hasKind(int kind) {
            return kind >= 0 && kind < kindCount;
        }

        boolean hasState(int kind, int state) {
            return hasKind(kind) && state >= 0 && state < kinds[kind].states;
        }

        boolean hasRoutine(int routine) {
            return routine >= 0 && routine < routineCount;
        }

        boolean hasPlace(int routine, int i) {
            return hasRoutine(routine) && i >= 0 && i <= routines[routine].length;
        }

        /** Whether it can be judged and run. */
        boolean isWhole() {
            if (routineCount == 0) return false;
            for (int r = 0; r < routineCount; r++) {
                if (routines[r].openBlocks > 0 || routines[r].callsBeyond(routineCount)) return false;
            }
            return true;
        }
    }

    /**
     * What is at one place of a called ROUTINE: what its VARIABLES name, and how its TRYs go on.
     * The judge and the runs both go from one such scene to the next.
     */
    private static final class Scene {
        private static final int SAME_CODE = 2, THING_CODE = SAME_CODE + VARIABLES - 1;

        int routine = 0;
        int place = 0;
        private int modes = 0;
        private final int[] slots = new int[VARIABLES];
        private final int[] kinds = new int[LENT + 1];
        private final int[] states = new int[LENT + 1];

        /** At the beginning of a ROUTINE; kind and state are looked at if it is called. */
        void begin(int which, int how, int kind, int state) {
            routine = which;
            place = 0;
            modes = 0;
            Arrays.fill(slots, NONE);
            kinds[LENT] = 0;
            states[LENT] = 0;
            if (how == BY_BEGINNING) return;
            slots[0] = how == BY_GIVE ? 0 : LENT;
            kinds[slots[0]] = kind;
            states[slots[0]] = state;
        }

        /** One number for what is here, the same one for scenes that differ in nothing that is told of them. */
        long pack() {
            long packed = 0;
            for (int v = VARIABLES - 1; v >= 0; v--) packed = packed << 6 | codeOf(v);
            packed = packed << 3 | states[LENT];
            packed = packed << 2 * BLOCKS | modes;
            return packed << 5 | place;
        }

        private int codeOf(int v) {
            int slot = slots[v];
            if (slot == NONE) return 0;
            if (slot == LENT) return 1;
            for (int w = 0; w < v; w++) {
                if (slots[w] == slot) return SAME_CODE + w;
            }
            return THING_CODE + kinds[slot] * (GONE + 1) + states[slot];
        }

        static int placeIn(long packed) {
            return (int) packed & 31;
        }

        static int caseIn(long packed) {
            return (int) (packed >>> 50) & 63;
        }

        static long packWithCase(long packed, int number) {
            return packed | (long) number << 50;
        }

        /** Into a scene that has begun in the same CASE. */
        void unpack(long packed) {
            place = placeIn(packed);
            modes = (int) (packed >>> 5) & (1 << 2 * BLOCKS) - 1;
            states[LENT] = (int) (packed >>> 17) & 7;
            for (int v = 0; v < VARIABLES; v++) takeCode(v, (int) (packed >>> 20 + 6 * v) & 63);
        }

        private void takeCode(int v, int code) {
            if (code == 0) {
                slots[v] = NONE;
            } else if (code == 1) {
                slots[v] = LENT;
            } else if (code < THING_CODE) {
                slots[v] = slots[code - SAME_CODE];
            } else {
                slots[v] = v;
                kinds[v] = (code - THING_CODE) / (GONE + 1);
                states[v] = (code - THING_CODE) % (GONE + 1);
            }
        }

        boolean namesNothing(int v) {
            return slots[v] == NONE;
        }

        boolean nameOne(int v, int other) {
            return slots[v] != NONE && slots[v] == slots[other];
        }

        int kindOf(int v) {
            return slots[v] == NONE ? 0 : kinds[slots[v]];
        }

        int stateOf(int v) {
            return slots[v] == NONE ? 0 : states[slots[v]];
        }

        int stateOfLent() {
            return states[LENT];
        }

        /** Which WRONG the STATEMENT at this place is; RIGHT: none. */
        int wrongAhead(Book book) {
            Routine body = book.routines[routine];
            int a = body.firsts[place];
            int b = body.seconds[place];
            switch (body.sorts[place]) {
                case USE:
                case ASK:
                case LOOP:
                    return wrongUse(book, a, b);
                case LEND:
                case GIVE:
                    return wrongCall(b, body.sorts[place] == GIVE);
                case MAKE:
                case DROP:
                    return isLeftBy(book, a, NONE) ? LEFT : RIGHT;
                case NAME:
                    return isLeftBy(book, a, slots[b]) ? LEFT : RIGHT;
                default:
                    return RIGHT;
            }
        }

        private int wrongUse(Book book, int v, int name) {
            if (namesNothing(v)) return NOTHING;
            if (stateOf(v) == GONE) return GONE_AWAY;
            return book.kinds[kindOf(v)].hasUse(stateOf(v), name) ? RIGHT : STATE;
        }

        private int wrongCall(int v, boolean given) {
            if (namesNothing(v)) return NOTHING;
            if (stateOf(v) == GONE) return GONE_AWAY;
            return given && slots[v] == LENT ? LENT_ONLY : RIGHT;
        }

        /** Whether what a VARIABLE names would be LEFT as it names what is in another slot. */
        private boolean isLeftBy(Book book, int v, int nextSlot) {
            if (slots[v] == nextSlot || !mustBeNamed(book, v)) return false;
            for (int w = 0; w < VARIABLES; w++) {
                if (w != v && slots[w] == slots[v]) return false;
            }
            return true;
        }

        private boolean mustBeNamed(Book book, int v) {
            if (slots[v] == NONE || slots[v] == LENT || stateOf(v) == GONE) return false;
            return !book.kinds[kindOf(v)].isEnd(stateOf(v));
        }

        /** Whether something is LEFT as the ROUTINE is over or FAILED. */
        boolean leavesThings(Book book) {
            for (int v = 0; v < VARIABLES; v++) {
                if (mustBeNamed(book, v)) return true;
            }
            return false;
        }

        boolean asksAhead(Book book) {
            Routine body = book.routines[routine];
            switch (body.sorts[place]) {
                case ASK:
                case IF:
                case WHILE:
                case LOOP:
                    return true;
                case USE:
                    int v = body.firsts[place];
                    return book.kinds[kindOf(v)].isAsking(stateOf(v), body.seconds[place]);
                default:
                    return false;
            }
        }

        /** Does the STATEMENT at this place, which is neither WRONG nor a call; false: the ROUTINE FAILED. */
        boolean goOn(Book book, boolean answer) {
            Routine body = book.routines[routine];
            int a = body.firsts[place];
            int b = body.seconds[place];
            int sort = body.sorts[place];
            int next = place + 1;
            switch (sort) {
                case MAKE:
                    makeThing(a, b);
                    break;
                case USE:
                case ASK:
                case LOOP:
                    useThing(book, a, b, answer);
                    if (sort != USE && !answer) next = body.targets[place];
                    break;
                case IF:
                case WHILE:
                    if (!answer) next = body.targets[place];
                    break;
                case ELSE:
                    next = body.targets[place];
                    break;
                case END:
                    int mode = modeOfTry(body);
                    if (mode != 0) return goOut(body, mode);
                    next = body.targets[place];
                    break;
                case NAME:
                    slots[a] = slots[b];
                    break;
                case DROP:
                    slots[a] = NONE;
                    break;
                case LEAVE:
                    return goOut(body, LEAVES);
                case FAIL:
                    return goOut(body, FAILS);
                default:
                    break;
            }
            comeTo(body, next);
            return true;
        }

        /** Does the call at this place, whose CASE has ended; false: this ROUTINE FAILED too. */
        boolean comeBack(Book book, boolean failed, int lentState) {
            Routine body = book.routines[routine];
            int slot = slots[body.seconds[place]];
            if (slot != NONE) states[slot] = body.sorts[place] == GIVE ? GONE : lentState;
            if (failed) return goOut(body, FAILS);
            comeTo(body, place + 1);
            return true;
        }

        private void makeThing(int v, int kind) {
            slots[v] = NONE;
            int slot = freeSlot();
            slots[v] = slot;
            kinds[slot] = kind;
            states[slot] = 0;
        }

        /** There is one: a VARIABLE names nothing, so that the others name THINGS in fewer slots than there are. */
        private int freeSlot() {
            for (int slot = 0; slot < LENT; slot++) {
                boolean free = true;
                for (int v = 0; v < VARIABLES; v++) free = free && slots[v] != slot;
                if (free) return slot;
            }
            return 0;
        }

        private void useThing(Book book, int v, int name, boolean answer) {
            int slot = slots[v];
            if (slot == NONE) return;
            states[slot] = book.kinds[kinds[slot]].after(states[slot], name, answer);
        }

        private int modeOfTry(Routine body) {
            int level = body.levels[place];
            return level == NONE ? 0 : modes >> 2 * level & 3;
        }

        private boolean goOut(Routine body, int mode) {
            int block = body.catchers[place];
            if (block != NONE) {
                comeTo(body, body.targets[block]);
                modes |= mode << 2 * body.levels[block];
                return true;
            }
            if (mode == FAILS) return false;
            comeTo(body, body.length);
            return true;
        }

        private void comeTo(Routine body, int where) {
            place = where;
            modes &= body.keptModes[where];
        }
    }

    /** A CASE, and what the judge knows of it so far. */
    private static final class Case {
        int routine = 0;
        int how = BY_BEGINNING;
        int kind = 0;
        int state = 0;

        /** The STATES in which it MAY end, as paper() tells them. */
        int paper = 0;

        /** How many MAY BE in it. */
        int size = 0;

        /** The latest found scene that calls it; the pool chains the others. */
        int firstCaller = NONE;

        void begin(int which, int called, int withKind, int inState) {
            routine = which;
            how = called;
            kind = withKind;
            state = inState;
            paper = 0;
            size = 0;
            firstCaller = NONE;
        }
    }

    /** Packed scenes, each once, in the order in which they were found; its rows grow and are used again. */
    private static final class Pool {
        private static final int FIRST_ROOM = 128;
        private static final long MIX = 0x9E3779B97F4A7C15L;

        int size = 0;
        long[] scenes = new long[FIRST_ROOM];
        int[] nextCallers = new int[FIRST_ROOM];

        /** Numbers of scenes plus one, found by their mixed bits; twice as long as the rows are. */
        private int[] table = new int[2 * FIRST_ROOM];

        void clear() {
            size = 0;
            Arrays.fill(table, 0);
        }

        /** Whether it is new; there must be room for it. */
        boolean add(long scene) {
            int at = find(scene);
            if (table[at] != 0 || size >= scenes.length) return false;
            scenes[size] = scene;
            nextCallers[size] = NONE;
            size++;
            table[at] = size;
            return true;
        }

        /** Where a scene stands in the table, or the empty place for it. */
        private int find(long scene) {
            int last = table.length - 1;
            int at = (int) (scene * MIX >>> 32) & last;
            for (int tries = 0; tries <= last; tries++) {
                if (table[at] == 0 || scenes[table[at] - 1] == scene) return at;
                at = at + 1 & last;
            }
            return at;
        }

        /** For one scene more. */
        void makeRoom() {
            if (size < scenes.length) return;
            scenes = Arrays.copyOf(scenes, 2 * size);
            nextCallers = Arrays.copyOf(nextCallers, 2 * size);
            table = new int[4 * size];
            for (int i = 0; i < size; i++) table[find(scenes[i])] = i + 1;
        }
    }

    /** Finds all that MAY BE, and keeps it till it judges anew. */
    private static final class Judge {
        private static final int PLACES = STATEMENTS + 1;

        /** The last code is that of the beginning. */
        private static final int CODES = 2 * ROUTINES * KINDS * STATES + 1;

        /** More than all scenes and all ways in which CASES end. */
        private static final int TURNS = CASES * (MAY_BE_IN_A_CASE + 2 * FAILED_BITS);

        boolean spent = false;
        int caseCount = 0;
        int wrongCount = 0;
        final Pool pool = new Pool();
        private final Case[] cases = new Case[CASES];
        private final int[] caseByCode = new int[CODES];

        /** For each place of each ROUTINE the WRONGS that MAY be there, as bits. */
        private final int[] wrongs = new int[ROUTINES * PLACES];

        /** Ways in which CASES end that their callers are to be told: 16 times the CASE, and the bit in its paper. */
        private final int[] news = new int[CASES * 2 * FAILED_BITS];
        private int newsCount = 0;
        private final Scene scene = new Scene();

        Judge() {
            for (int c = 0; c < CASES; c++) cases[c] = new Case();
            Arrays.fill(caseByCode, NONE);
        }

        private void clear() {
            caseCount = 0;
            wrongCount = 0;
            newsCount = 0;
            pool.clear();
            Arrays.fill(caseByCode, NONE);
            Arrays.fill(wrongs, 0);
        }

        void findAll(Book book) {
            clear();
            spent = false;
            caseFor(0, BY_BEGINNING, 0, 0);
            int visited = 0;
            int spread = 0;
            for (int turn = 0; turn < TURNS && !spent; turn++) {
                if (spread < newsCount) {
                    spreadNews(book, news[spread++]);
                } else if (visited < pool.size) {
                    int called = visit(book, visited);
                    if (called != NONE) comeBackAsKnown(book, visited, called);
                    visited++;
                } else {
                    break;
                }
            }
            if (spent) clear();
        }

        /** The number of a CASE, which begins if it is new; NONE: it is one too many. */
        private int caseFor(int routine, int how, int kind, int state) {
            int code = caseCode(routine, how, kind, state);
            if (caseByCode[code] != NONE) return caseByCode[code];
            if (caseCount >= CASES) {
                spent = true;
                return NONE;
            }
            int number = caseCount++;
            caseByCode[code] = number;
            cases[number].begin(routine, how, kind, state);
            scene.begin(routine, how, kind, state);
            keep(number);
            return number;
        }

        /** The scene at hand MAY BE in this CASE. */
        private void keep(int number) {
            pool.makeRoom();
            if (!pool.add(Scene.packWithCase(scene.pack(), number))) return;
            cases[number].size++;
            if (cases[number].size > MAY_BE_IN_A_CASE) spent = true;
        }

        private void load(long packed) {
            Case at = cases[Scene.caseIn(packed)];
            scene.begin(at.routine, at.how, at.kind, at.state);
            scene.unpack(packed);
        }

        /** Finds what comes next to a scene; if that is a call, the number of the CASE that it calls, else NONE. */
        private int visit(Book book, int index) {
            long packed = pool.scenes[index];
            int number = Scene.caseIn(packed);
            load(packed);
            Routine body = book.routines[scene.routine];
            if (scene.place >= body.length) {
                endCase(book, number, false);
                return NONE;
            }
            int wrong = scene.wrongAhead(book);
            if (wrong != RIGHT) {
                addWrong(scene.routine, scene.place, wrong);
                return NONE;
            }
            if (isCall(body.sorts[scene.place])) return callFrom(body, index);
            boolean asks = scene.asksAhead(book);
            goOn(book, number, true);
            if (!asks) return NONE;
            load(packed);
            goOn(book, number, false);
            return NONE;
        }

        private void goOn(Book book, int number, boolean answer) {
            if (scene.goOn(book, answer)) {
                keep(number);
            } else {
                endCase(book, number, true);
            }
        }

        private int callFrom(Routine body, int index) {
            int v = body.seconds[scene.place];
            int how = body.sorts[scene.place] == GIVE ? BY_GIVE : BY_LEND;
            int called = caseFor(body.firsts[scene.place], how, scene.kindOf(v), scene.stateOf(v));
            if (called == NONE) return NONE;
            pool.nextCallers[index] = cases[called].firstCaller;
            cases[called].firstCaller = index;
            return called;
        }

        /** From a call, on all ways in which the called CASE is known to end so far. */
        private void comeBackAsKnown(Book book, int index, int called) {
            int paper = cases[called].paper;
            for (int bit = 0; bit < 2 * FAILED_BITS; bit++) {
                if ((paper >> bit & 1) != 0) comeBack(book, index, bit);
            }
        }

        private void comeBack(Book book, int index, int bit) {
            long packed = pool.scenes[index];
            int number = Scene.caseIn(packed);
            load(packed);
            if (scene.comeBack(book, bit >= FAILED_BITS, bit % FAILED_BITS)) {
                keep(number);
            } else {
                endCase(book, number, true);
            }
        }

        /** The scene at hand is the last one of its CASE. */
        private void endCase(Book book, int number, boolean failed) {
            if (scene.leavesThings(book)) {
                addWrong(scene.routine, book.routines[scene.routine].length, LEFT);
                return;
            }
            int bit = scene.stateOfLent() + (failed ? FAILED_BITS : 0);
            if ((cases[number].paper >> bit & 1) != 0 || newsCount >= news.length) return;
            cases[number].paper |= 1 << bit;
            news[newsCount++] = number * 2 * FAILED_BITS + bit;
        }

        private void spreadNews(Book book, int item) {
            int caller = cases[item / (2 * FAILED_BITS)].firstCaller;
            for (int left = pool.size; left > 0 && caller != NONE; left--) {
                comeBack(book, caller, item % (2 * FAILED_BITS));
                caller = pool.nextCallers[caller];
            }
        }

        private void addWrong(int routine, int place, int wrong) {
            int at = routine * PLACES + place;
            if ((wrongs[at] >> wrong & 1) != 0) return;
            wrongs[at] |= 1 << wrong;
            wrongCount++;
        }

        int partOfWrong(int i, int what) {
            if (i < 0 || i >= wrongCount) return NONE;
            int ahead = i;
            for (int at = 0; at < wrongs.length; at++) {
                for (int wrong = NOTHING; wrong <= LEFT; wrong++) {
                    if ((wrongs[at] >> wrong & 1) == 0) continue;
                    if (ahead == 0) return what == 0 ? at / PLACES : what == 1 ? at % PLACES : wrong;
                    ahead--;
                }
            }
            return NONE;
        }

        /** Whether a scene that was found is at this place; if so, it is the scene at hand. */
        private boolean isAt(int index, int routine, int place) {
            long packed = pool.scenes[index];
            if (Scene.placeIn(packed) != place || cases[Scene.caseIn(packed)].routine != routine) return false;
            load(packed);
            return true;
        }

        int statesOf(int routine, int place, int variable) {
            int bits = 0;
            for (int i = 0; i < pool.size; i++) {
                if (!isAt(i, routine, place)) continue;
                bits |= 1 << (scene.namesNothing(variable) ? GONE + 1 : scene.stateOf(variable));
            }
            return bits;
        }

        int sameThing(int routine, int place, int v, int other) {
            int all = 0;
            int same = 0;
            for (int i = 0; i < pool.size; i++) {
                if (!isAt(i, routine, place)) continue;
                all++;
                if (scene.nameOne(v, other)) same++;
            }
            if (all == 0) return NONE;
            return same == 0 ? 0 : same < all ? 1 : 2;
        }

        int paperOf(int code) {
            return caseByCode[code] == NONE ? NONE : cases[caseByCode[code]].paper;
        }
    }

    /** Runs by told ANSWERS. */
    private static final class Runner {
        /** More than all STATEMENTS that are done and all ROUTINES that are over. */
        private static final int TURNS = 3 * DONE;

        int endRoutine = 0;
        int endPlace = 0;
        int asked = 0;
        int done = 0;
        int deepest = 0;
        private int depth = 0;
        private long answers = 0;
        private int answerCount = 0;
        private final Scene[] scenes = new Scene[OPEN_ROUTINES];

        Runner() {
            for (int i = 0; i < OPEN_ROUTINES; i++) scenes[i] = new Scene();
        }

        /** What run() tells. */
        int play(Book book, long bits, int howMany) {
            answers = bits;
            answerCount = howMany;
            asked = 0;
            done = 0;
            depth = 0;
            deepest = 0;
            openRoutine(0, BY_BEGINNING, 0, 0);
            int end = NONE;
            for (int turn = 0; turn < TURNS && end == NONE; turn++) end = takeTurn(book);
            return end;
        }

        private void openRoutine(int routine, int how, int kind, int state) {
            if (depth >= OPEN_ROUTINES) return;
            scenes[depth].begin(routine, how, kind, state);
            depth++;
            deepest = Math.max(deepest, depth);
        }

        /** Does a STATEMENT, or goes back from a ROUTINE that is over; NONE: the run goes on. */
        private int takeTurn(Book book) {
            Scene scene = scenes[depth - 1];
            Routine body = book.routines[scene.routine];
            if (scene.place >= body.length) return goBack(book, false);
            if (done >= DONE) return endAt(scene.routine, scene.place, TOO_LONG);
            done++;
            int wrong = scene.wrongAhead(book);
            if (wrong != RIGHT) return endAt(scene.routine, scene.place, wrong);
            if (isCall(body.sorts[scene.place])) return callFrom(scene, body);
            boolean answer = scene.asksAhead(book) && nextAnswer();
            return scene.goOn(book, answer) ? NONE : goBack(book, true);
        }

        private int callFrom(Scene scene, Routine body) {
            if (depth >= OPEN_ROUTINES) return endAt(scene.routine, scene.place, TOO_DEEP);
            int v = body.seconds[scene.place];
            int how = body.sorts[scene.place] == GIVE ? BY_GIVE : BY_LEND;
            openRoutine(body.firsts[scene.place], how, scene.kindOf(v), scene.stateOf(v));
            return NONE;
        }

        private boolean nextAnswer() {
            int i = asked++;
            return i < answerCount && (answers >>> i & 1) != 0;
        }

        /** The innermost ROUTINE is over or FAILED, and with it all callers that FAIL of it. */
        private int goBack(Book book, boolean failed) {
            for (int left = OPEN_ROUTINES; left > 0; left--) {
                Scene scene = scenes[depth - 1];
                int behind = book.routines[scene.routine].length;
                if (scene.leavesThings(book)) return endAt(scene.routine, behind, LEFT);
                if (depth == 1) return endAt(scene.routine, behind, failed ? FAILED : OVER);
                depth--;
                if (scenes[depth - 1].comeBack(book, failed, scene.stateOfLent())) return NONE;
            }
            return NONE;
        }

        private int endAt(int routine, int place, int end) {
            endRoutine = routine;
            endPlace = place;
            return end;
        }
    }
}
