/** The bounds of promises 10 to 14, a test for each sentence that names one. */
public final class RoutineEdgesTest {
    private static final int NONE = StateWear.NONE, BAD = StateWear.BAD, NO = StateWear.NO, FULL = StateWear.FULL;
    private static final int LOWEST = Edges.LOWEST, HIGHEST = Edges.HIGHEST;
    private static final int[] USING = {Sorts.USE, Sorts.ASK, Sorts.LOOP};
    private static final int[] CALLING = {Sorts.LEND, Sorts.GIVE};
    private static final int[] OPENING = {Sorts.ASK, Sorts.IF, Sorts.WHILE, Sorts.LOOP, Sorts.TRY};
    private static final Due DUE = new Due("RoutineEdgesTest");
    private static final Edges EDGES = new Edges(DUE);

    public static void main(String[] args) {
        sixRoutines();
        statementsOfWhich();
        sorts();
        variablesOfStatements();
        kindsOfMake();
        namesOfUses();
        routinesOfCalls();
        whatIsNotLookedAt();
        badAheadOfNo();
        elseOfWhichBlock();
        lastOfWhichBlock();
        endOfWhichBlock();
        sevenOpenBlocks();
        twentyFourStatements();
        noAheadOfFull();
        cutsWhich();
        cutsDownToNone();
        cutsOpenAgain();
        toldWhich();
        toldWhatIsThere();
        openWhich();
        openHowMany();
        DUE.end();
    }

    private static void due(String call, long got, long want) {
        DUE.due(call, got, want);
    }

    /** "FULL: 6" */
    private static void sixRoutines() {
        StateWear x = new StateWear();
        for (int r = 0; r < 6; r++) {
            due("not there yet", x.open(r), BAD);
            due("routine", x.routine(), r);
            due("how many", x.count(1), r + 1);
            due("it is empty", x.told(r, 0, 0), NONE);
        }
        due("a seventh", x.routine(), FULL);
        due("it is not there", x.open(6), BAD);
        EDGES.changesNothing("a seventh ROUTINE", Samples::full, StateWear::routine, FULL);
    }

    /** "BAD: the ROUTINE" */
    private static void statementsOfWhich() {
        EDGES.badOutside("LEAVE in ROUTINE n", Samples::busy, 0, 1, (y, n) -> y.statement(n, Sorts.LEAVE, 0, 0));
        EDGES.badOutside("MAKE in ROUTINE n", Samples::fresh, 0, 0, (y, n) -> y.statement(n, Sorts.MAKE, 0, 0));
        EDGES.badOutside("DROP in ROUTINE n of six", Samples::full, 0, 5, (y, n) -> y.statement(n, Sorts.DROP, 0, 0));
        EDGES.changesNothing("of none", StateWear::new, y -> y.statement(0, Sorts.LEAVE, 0, 0), BAD);
        StateWear x = Samples.full();
        due("the sixth ROUTINE", x.statement(5, Sorts.LEAVE, 0, 0), 1);
        due("another one", x.statement(4, Sorts.FAIL, 0, 0), 1);
        due("each has its own", x.told(5, 0, 0) * 100 + x.told(4, 0, 0), 1213);
    }

    /** "sort (0 .. 15)" */
    private static void sorts() {
        EDGES.badOutside("sort n", Samples::busy, 0, 15, (y, n) -> y.statement(0, n, 0, 0));
        EDGES.badOutside("sort n in an open block", Samples::open, 0, 15, (y, n) -> y.statement(1, n, 0, 0));
        StateWear x = Samples.fresh();
        int[] all = {Sorts.MAKE, Sorts.USE, Sorts.ASK, Sorts.ELSE, Sorts.END, Sorts.IF, Sorts.END, Sorts.WHILE, Sorts.END,
            Sorts.LOOP, Sorts.END, Sorts.NAME, Sorts.DROP, Sorts.LEND, Sorts.GIVE, Sorts.LEAVE, Sorts.FAIL, Sorts.TRY,
            Sorts.LAST, Sorts.END};
        for (int i = 0; i < all.length; i++) {
            due("sort " + all[i], x.statement(0, all[i], 0, 0), i + 2);
            due("it is told", x.told(0, i + 1, 0), all[i]);
        }
    }

    /** "VARIABLES 0 .. 4 (a; of NAME, LEND, GIVE b)" */
    private static void variablesOfStatements() {
        for (int sort : new int[] {Sorts.MAKE, Sorts.USE, Sorts.ASK, Sorts.LOOP, Sorts.NAME, Sorts.DROP}) {
            EDGES.badOutside("a = n of " + sort, Samples::busy, 0, 4, (y, n) -> y.statement(0, sort, n, 0));
            for (int v = 0; v < 5; v++) {
                StateWear x = Samples.busy();
                due("a = " + v + " of " + sort, x.statement(0, sort, v, 0), 9);
                due("it is told", x.told(0, 8, 1), v);
            }
        }
        for (int sort : new int[] {Sorts.NAME, Sorts.LEND, Sorts.GIVE}) {
            EDGES.badOutside("b = n of " + sort, Samples::busy, 0, 4, (y, n) -> y.statement(0, sort, 0, n));
            for (int v = 0; v < 5; v++) {
                StateWear x = Samples.busy();
                due("b = " + v + " of " + sort, x.statement(0, sort, 0, v), 9);
                due("it is told", x.told(0, 8, 2), v);
            }
        }
    }

    /** "a KIND that is there (MAKE's b)" */
    private static void kindsOfMake() {
        EDGES.badOutside("MAKE of KIND n of two", Samples::busy, 0, 1, (y, n) -> y.statement(0, Sorts.MAKE, 0, n));
        EDGES.badOutside("MAKE of KIND n of six", Samples::full, 0, 5, (y, n) -> y.statement(1, Sorts.MAKE, 0, n));
        StateWear x = new StateWear();
        x.routine();
        for (int k = 0; k < 6; k++) {
            due("MAKE of one that is not there yet", x.statement(0, Sorts.MAKE, 4, k), BAD);
            x.kind(1, 1);
            due("MAKE of KIND " + k, x.statement(0, Sorts.MAKE, 4, k), k + 1);
            due("it is told", x.told(0, k, 2), k);
        }
    }

    /** "NAMES 0 .. 7 (b of USE, ASK, LOOP)" */
    private static void namesOfUses() {
        for (int sort : USING) {
            EDGES.badOutside("b = n of " + sort, Samples::busy, 0, 7, (y, n) -> y.statement(0, sort, 0, n));
            for (int name = 0; name < 8; name++) {
                StateWear x = Samples.busy();
                due("NAME " + name + " of " + sort, x.statement(0, sort, 4, name), 9);
                due("it is told", x.told(0, 8, 2), name);
            }
        }
    }

    /** "a ROUTINE 0 .. 5 (a of LEND, GIVE)": also one that is not there */
    private static void routinesOfCalls() {
        for (int sort : CALLING) {
            EDGES.badOutside("a = n of " + sort, Samples::busy, 0, 5, (y, n) -> y.statement(0, sort, n, 0));
            EDGES.badOutside("a = n of " + sort, Samples::full, 0, 5, (y, n) -> y.statement(0, sort, n, 0));
            for (int r = 0; r < 6; r++) {
                StateWear x = Samples.busy();
                due("ROUTINE " + r + " of " + sort, x.statement(0, sort, r, 4), 9);
                due("it is told", x.told(0, 8, 1), r);
            }
        }
    }

    /** "a, b that are looked at", "what is not looked at: 0" */
    private static void whatIsNotLookedAt() {
        int[] numbers = {LOWEST, -2, -1, 1, 5, 8, 24, HIGHEST};
        for (int number : numbers) {
            StateWear x = Samples.fresh();
            due("DROP's b", x.statement(0, Sorts.DROP, 4, number), 2);
            due("it is told 0", x.told(0, 1, 2), 0);
            due("DROP's a is looked at", x.told(0, 1, 1), 4);
            int[] bare = {Sorts.IF, Sorts.ELSE, Sorts.END, Sorts.WHILE, Sorts.END, Sorts.LEAVE, Sorts.FAIL, Sorts.TRY,
                Sorts.LAST, Sorts.END};
            for (int i = 0; i < bare.length; i++) {
                due("a, b of " + bare[i], x.statement(0, bare[i], number, number), i + 3);
                due("a is told 0", x.told(0, i + 2, 1), 0);
                due("b is told 0", x.told(0, i + 2, 2), 0);
            }
            StateWear y = Samples.fresh();
            Sorts.write(y, 0, Sorts.DROP, 4);
            for (int sort : bare) y.statement(0, sort, 0, 0);
            EDGES.dueAlike("with 0 in their place", x, y);
        }
    }

    private static StateWear inFullBlocks() {
        StateWear x = Samples.busy();
        for (int i = 0; i < 6; i++) Sorts.write(x, 1, Sorts.TRY);
        return x;
    }

    /** The order of refusals: BAD ahead of NO */
    private static void badAheadOfNo() {
        EDGES.changesNothing("ASK, seventh, VARIABLE", RoutineEdgesTest::inFullBlocks,
                y -> y.statement(1, Sorts.ASK, 5, 0), BAD);
        EDGES.changesNothing("ASK, seventh, NAME", RoutineEdgesTest::inFullBlocks,
                y -> y.statement(1, Sorts.ASK, 0, 8), BAD);
        EDGES.changesNothing("LOOP, seventh, VARIABLE", RoutineEdgesTest::inFullBlocks,
                y -> y.statement(1, Sorts.LOOP, -1, 0), BAD);
        EDGES.changesNothing("LOOP, seventh, NAME", RoutineEdgesTest::inFullBlocks,
                y -> y.statement(1, Sorts.LOOP, 0, -1), BAD);
        EDGES.changesNothing("ELSE, of no ROUTINE", Samples::busy, y -> y.statement(2, Sorts.ELSE, 0, 0), BAD);
        EDGES.changesNothing("END, of no ROUTINE", Samples::busy, y -> y.statement(-1, Sorts.END, 0, 0), BAD);
    }

    private static Edges.Maker behind(int... sorts) {
        return () -> {
            StateWear x = Samples.busy();
            for (int sort : sorts) x.statement(1, sort, 0, 0);
            return x;
        };
    }

    /** A sort behind others in ROUTINE 1, which has three STATEMENTS: it is NO, or so many blocks are open then. */
    private static void dueTaken(String what, int sort, int want, int... sorts) {
        if (want == NO) {
            EDGES.changesNothing(what, behind(sorts), y -> y.statement(1, sort, 0, 0), NO);
            return;
        }
        StateWear x = behind(sorts).make();
        due(what, x.statement(1, sort, 0, 0), 4 + sorts.length);
        due(what + ": open", x.open(1), want);
    }

    /** "ELSE, but the innermost open block is none of ASK, IF without ELSE" */
    private static void elseOfWhichBlock() {
        dueTaken("ELSE, none open", Sorts.ELSE, NO);
        dueTaken("ELSE of ASK", Sorts.ELSE, 1, Sorts.ASK);
        dueTaken("ELSE of IF", Sorts.ELSE, 1, Sorts.IF);
        dueTaken("ELSE of WHILE", Sorts.ELSE, NO, Sorts.WHILE);
        dueTaken("ELSE of LOOP", Sorts.ELSE, NO, Sorts.LOOP);
        dueTaken("ELSE of TRY", Sorts.ELSE, NO, Sorts.TRY);
        dueTaken("ELSE in the second block of TRY", Sorts.ELSE, NO, Sorts.TRY, Sorts.LAST);
        dueTaken("a second ELSE of ASK", Sorts.ELSE, NO, Sorts.ASK, Sorts.ELSE);
        dueTaken("a second ELSE of IF", Sorts.ELSE, NO, Sorts.IF, Sorts.ELSE);
        for (int inner : new int[] {Sorts.WHILE, Sorts.LOOP, Sorts.TRY}) {
            dueTaken("ELSE of an IF, but it is not the innermost", Sorts.ELSE, NO, Sorts.IF, inner);
        }
        dueTaken("ELSE, the inner one has its own", Sorts.ELSE, NO, Sorts.IF, Sorts.IF, Sorts.ELSE);
        dueTaken("ELSE behind an inner one", Sorts.ELSE, 1, Sorts.IF, Sorts.IF, Sorts.ELSE, Sorts.END);
        dueTaken("ELSE of an inner one in an ELSE", Sorts.ELSE, 2, Sorts.IF, Sorts.ELSE, Sorts.ASK);
        dueTaken("ELSE behind that", Sorts.ELSE, NO, Sorts.IF, Sorts.ELSE, Sorts.ASK, Sorts.ELSE, Sorts.END);
        dueTaken("ELSE, all closed", Sorts.ELSE, NO, Sorts.IF, Sorts.END);
    }

    /** "LAST, but it is none of TRY without LAST" */
    private static void lastOfWhichBlock() {
        dueTaken("LAST, none open", Sorts.LAST, NO);
        dueTaken("LAST of TRY", Sorts.LAST, 1, Sorts.TRY);
        for (int sort : new int[] {Sorts.ASK, Sorts.IF, Sorts.WHILE, Sorts.LOOP}) {
            dueTaken("LAST of " + sort, Sorts.LAST, NO, sort);
            dueTaken("LAST, but the innermost is " + sort, Sorts.LAST, NO, Sorts.TRY, sort);
            dueTaken("LAST behind that", Sorts.LAST, 1, Sorts.TRY, sort, Sorts.END);
        }
        dueTaken("LAST behind an ELSE", Sorts.LAST, NO, Sorts.TRY, Sorts.IF, Sorts.ELSE);
        dueTaken("a second LAST", Sorts.LAST, NO, Sorts.TRY, Sorts.LAST);
        dueTaken("LAST of a TRY in a first block", Sorts.LAST, 2, Sorts.TRY, Sorts.TRY);
        dueTaken("LAST of a TRY in a second block", Sorts.LAST, 2, Sorts.TRY, Sorts.LAST, Sorts.TRY);
        dueTaken("LAST, the inner one has its own", Sorts.LAST, NO, Sorts.TRY, Sorts.TRY, Sorts.LAST);
        dueTaken("LAST behind an inner one", Sorts.LAST, 1, Sorts.TRY, Sorts.TRY, Sorts.LAST, Sorts.END);
        dueTaken("LAST, all closed", Sorts.LAST, NO, Sorts.TRY, Sorts.LAST, Sorts.END);
    }

    /** "END, but none is open, or it is that of TRY without LAST" */
    private static void endOfWhichBlock() {
        dueTaken("END, none open", Sorts.END, NO);
        for (int sort : new int[] {Sorts.ASK, Sorts.IF, Sorts.WHILE, Sorts.LOOP}) {
            dueTaken("END of " + sort, Sorts.END, 0, sort);
            dueTaken("END behind the END of " + sort, Sorts.END, NO, sort, Sorts.END);
            dueTaken("END of an inner " + sort, Sorts.END, 1, Sorts.TRY, sort);
        }
        dueTaken("END behind an ELSE", Sorts.END, 0, Sorts.IF, Sorts.ELSE);
        dueTaken("END of TRY without LAST", Sorts.END, NO, Sorts.TRY);
        dueTaken("END of TRY with LAST", Sorts.END, 0, Sorts.TRY, Sorts.LAST);
        dueTaken("END of an inner TRY without LAST", Sorts.END, NO, Sorts.TRY, Sorts.LAST, Sorts.TRY);
        dueTaken("END of an inner TRY with LAST", Sorts.END, 1, Sorts.TRY, Sorts.TRY, Sorts.LAST);
        dueTaken("END of the outer TRY without LAST", Sorts.END, NO, Sorts.TRY, Sorts.TRY, Sorts.LAST, Sorts.END);
    }

    /** "a block would be the seventh open one" */
    private static void sevenOpenBlocks() {
        for (int outer : OPENING) {
            int[] six = {outer, outer, outer, outer, outer, outer};
            dueTaken("a sixth", outer, 6, outer, outer, outer, outer, outer);
            for (int sort : OPENING) dueTaken("a seventh, " + sort + " in " + outer, sort, NO, six);
            for (int sort : new int[] {Sorts.MAKE, Sorts.USE, Sorts.NAME, Sorts.DROP, Sorts.LEND, Sorts.GIVE, Sorts.LEAVE,
                Sorts.FAIL}) dueTaken("no block, " + sort, sort, 6, six);
        }
        dueTaken("an ELSE opens none", Sorts.ELSE, 6, Sorts.IF, Sorts.IF, Sorts.IF, Sorts.IF, Sorts.IF, Sorts.IF);
        dueTaken("a LAST opens none", Sorts.LAST, 6, Sorts.TRY, Sorts.TRY, Sorts.TRY, Sorts.TRY, Sorts.TRY, Sorts.TRY);
        dueTaken("a seventh in the second block", Sorts.IF, NO, Sorts.TRY, Sorts.IF, Sorts.IF, Sorts.IF, Sorts.IF,
                Sorts.TRY, Sorts.LAST);
        dueTaken("a seventh, but one is closed", Sorts.TRY, 6, Sorts.IF, Sorts.IF, Sorts.IF, Sorts.IF, Sorts.IF, Sorts.IF,
                Sorts.END);
    }

    /** "up to 24 STATEMENTS", "FULL: 24" */
    private static void twentyFourStatements() {
        StateWear x = new StateWear();
        x.routine();
        x.routine();
        for (int i = 0; i < 24; i++) due("statement", x.statement(0, Sorts.NAME, i % 5, i / 5), i + 1);
        due("the 25th", x.statement(0, Sorts.NAME, 0, 0), FULL);
        for (int i = 0; i < 24; i++) due("a of " + i, x.told(0, i, 1) * 10 + x.told(0, i, 2), i % 5 * 10 + i / 5);
        due("behind them", x.told(0, 24, 0), NONE);
        due("another ROUTINE has room", x.statement(1, Sorts.NAME, 0, 0), 1);
        due("cut", x.cut(0), 23);
        due("the 24th again", x.statement(0, Sorts.DROP, 0, 0), 24);
        due("the 25th again", x.statement(0, Sorts.DROP, 0, 0), FULL);
        for (int sort : new int[] {Sorts.MAKE, Sorts.USE, Sorts.ASK, Sorts.IF, Sorts.WHILE, Sorts.LOOP, Sorts.NAME,
            Sorts.DROP, Sorts.LEND, Sorts.GIVE, Sorts.LEAVE, Sorts.FAIL, Sorts.TRY}) {
            EDGES.changesNothing("the 25th is " + sort, Samples::full, y -> y.statement(0, sort, 0, 0), FULL);
        }
        due("what may be is found at all 25 places", Samples.full().may(0, 24, 3), 128);
    }

    private static Edges.Maker fullBehind(int... sorts) {
        return () -> {
            StateWear x = Samples.busy();
            for (int i = 3 + sorts.length; i < 24; i++) Sorts.write(x, 1, Sorts.DROP, 0);
            for (int sort : sorts) x.statement(1, sort, 0, 0);
            return x;
        };
    }

    /** The order of refusals: BAD and NO ahead of FULL */
    private static void noAheadOfFull() {
        EDGES.changesNothing("BAD ahead, VARIABLE", Samples::full, y -> y.statement(0, Sorts.DROP, 5, 0), BAD);
        EDGES.changesNothing("BAD ahead, NAME", Samples::full, y -> y.statement(0, Sorts.USE, 0, 8), BAD);
        EDGES.changesNothing("BAD ahead, KIND", Samples::full, y -> y.statement(0, Sorts.MAKE, 0, 6), BAD);
        EDGES.changesNothing("BAD ahead, ROUTINE", Samples::full, y -> y.statement(0, Sorts.GIVE, 6, 0), BAD);
        EDGES.changesNothing("BAD ahead, sort", Samples::full, y -> y.statement(0, 16, 0, 0), BAD);
        for (int sort : new int[] {Sorts.ELSE, Sorts.END, Sorts.LAST}) {
            EDGES.changesNothing("NO ahead of FULL", Samples::full, y -> y.statement(0, sort, 0, 0), NO);
        }
        EDGES.changesNothing("END of IF: FULL", fullBehind(Sorts.IF), y -> y.statement(1, Sorts.END, 0, 0), FULL);
        EDGES.changesNothing("ELSE of IF: FULL", fullBehind(Sorts.IF), y -> y.statement(1, Sorts.ELSE, 0, 0), FULL);
        EDGES.changesNothing("LAST in IF: NO", fullBehind(Sorts.IF), y -> y.statement(1, Sorts.LAST, 0, 0), NO);
        EDGES.changesNothing("LAST of TRY: FULL", fullBehind(Sorts.TRY), y -> y.statement(1, Sorts.LAST, 0, 0), FULL);
        EDGES.changesNothing("END of TRY: NO", fullBehind(Sorts.TRY), y -> y.statement(1, Sorts.END, 0, 0), NO);
        Edges.Maker six = fullBehind(Sorts.IF, Sorts.IF, Sorts.IF, Sorts.IF, Sorts.IF, Sorts.IF);
        EDGES.changesNothing("a seventh block: NO", six, y -> y.statement(1, Sorts.WHILE, 0, 0), NO);
        Edges.Maker five = fullBehind(Sorts.IF, Sorts.IF, Sorts.IF, Sorts.IF, Sorts.IF);
        EDGES.changesNothing("a sixth block: FULL", five, y -> y.statement(1, Sorts.WHILE, 0, 0), FULL);
    }

    private static void cutsWhich() {
        EDGES.badOutside("cut(n) of two", Samples::busy, 0, 1, StateWear::cut);
        EDGES.badOutside("cut(n) of six", Samples::full, 0, 5, StateWear::cut);
        EDGES.changesNothing("cut of none", StateWear::new, y -> y.cut(0), BAD);
        EDGES.changesNothing("an empty one", Samples::full, y -> y.cut(5), NO);
    }

    /** "how many are left", "NO: it has none" */
    private static void cutsDownToNone() {
        StateWear x = Samples.full();
        for (int left = 23; left >= 0; left--) {
            due("cut", x.cut(0), left);
            due("it is not there any more", x.told(0, left, 0), NONE);
        }
        due("nothing is left", x.cut(0), NO);
        due("nothing is left", x.cut(0), NO);
        due("the other one is as it was", x.cut(1), 2);
        due("from the first on again", x.statement(0, Sorts.LEAVE, 0, 0), 1);
    }

    private static void cutsOpenAgain() {
        StateWear x = new StateWear();
        x.routine();
        Sorts.write(x, 0, Sorts.TRY, Sorts.IF, Sorts.ELSE, Sorts.END, Sorts.LAST, Sorts.WHILE, Sorts.END, Sorts.END);
        int[] open = {0, 1, 2, 2, 1, 1, 2, 1};
        for (int left = 7; left >= 0; left--) {
            due("cut", x.cut(0), left);
            due("open with " + left, x.open(0), open[left]);
        }
        Sorts.write(x, 0, Sorts.IF, Sorts.ELSE);
        x.cut(0);
        x.cut(0);
        Sorts.write(x, 0, Sorts.IF);
        due("what was cut is forgotten: ELSE", x.statement(0, Sorts.ELSE, 0, 0), 2);
        x.cut(0);
        x.cut(0);
        Sorts.write(x, 0, Sorts.TRY, Sorts.LAST);
        x.cut(0);
        due("what was cut is forgotten: LAST", x.statement(0, Sorts.END, 0, 0), NO);
        due("LAST again", x.statement(0, Sorts.LAST, 0, 0), 2);
    }

    /** "BAD: the ROUTINE, what" */
    private static void toldWhich() {
        EDGES.badOutside("told(n, 0, 0) of two", Samples::busy, 0, 1, (y, n) -> y.told(n, 0, 0));
        EDGES.badOutside("told(n, 0, 0) of six", Samples::full, 0, 5, (y, n) -> y.told(n, 0, 0));
        EDGES.badOutside("told(0, 0, n)", Samples::busy, 0, 2, (y, n) -> y.told(0, 0, n));
        EDGES.badOutside("BAD ahead of NONE", Samples::busy, 0, 2, (y, n) -> y.told(0, 8, n));
        EDGES.badOutside("BAD ahead of NONE", Samples::busy, 0, 2, (y, n) -> y.told(0, -1, n));
        EDGES.badOutside("BAD ahead of NONE", Samples::busy, 0, 1, (y, n) -> y.told(n, HIGHEST, 0));
        EDGES.changesNothing("told of none", StateWear::new, y -> y.told(0, 0, 0), BAD);
    }

    /** "NONE: there is none such" */
    private static void toldWhatIsThere() {
        for (int i : Edges.outside(0, 7)) {
            for (int what = 0; what < 3; what++) {
                int which = what;
                EDGES.changesNothing("told(0, " + i + ", " + what + ")", Samples::busy, y -> y.told(0, i, which), NONE);
            }
        }
        for (int i : Edges.outside(0, 23)) {
            EDGES.changesNothing("of a full one", Samples::full, y -> y.told(0, i, 0), NONE);
            EDGES.changesNothing("of an empty one", Samples::full, y -> y.told(5, i, 0), NONE);
        }
        EDGES.changesNothing("the first of an empty one", Samples::full, y -> y.told(5, 0, 0), NONE);
        EDGES.changesNothing("the first", Samples::busy, y -> y.told(0, 0, 0), Sorts.MAKE);
        EDGES.changesNothing("the last", Samples::busy, y -> y.told(0, 7, 0), Sorts.GIVE);
        EDGES.changesNothing("a of the last", Samples::busy, y -> y.told(0, 7, 1), 1);
        EDGES.changesNothing("the 24th", Samples::full, y -> y.told(0, 23, 1), 3);
    }

    private static void openWhich() {
        EDGES.badOutside("open(n) of two", Samples::busy, 0, 1, StateWear::open);
        EDGES.badOutside("open(n) of six", Samples::full, 0, 5, StateWear::open);
        EDGES.changesNothing("open of none", StateWear::new, y -> y.open(0), BAD);
    }

    /** "How many blocks of a ROUTINE are open" */
    private static void openHowMany() {
        StateWear x = Samples.full();
        due("an empty one", x.open(5), 0);
        for (int i = 0; i < 5; i++) {
            x.statement(5, OPENING[i], 0, 0);
            due("open", x.open(5), i + 1);
        }
        x.statement(5, Sorts.TRY, 0, 0);
        due("six", x.open(5), 6);
        x.statement(5, Sorts.IF, 0, 0);
        due("a seventh is none", x.open(5), 6);
        x.statement(5, Sorts.LAST, 0, 0);
        due("LAST closes none", x.open(5), 6);
        x.statement(5, Sorts.END, 0, 0);
        due("END closes one", x.open(5), 5);
        due("of another ROUTINE none", x.open(4), 0);
        EDGES.changesNothing("open(1)", Samples::open, y -> y.open(1), 1);
    }
}
