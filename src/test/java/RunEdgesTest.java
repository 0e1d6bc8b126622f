/** The bounds of promises 21 to 24, a test for each sentence that names one. */
public final class RunEdgesTest {
    private static final int NONE = StateWear.NONE, BAD = StateWear.BAD, NO = StateWear.NO;
    private static final Due DUE = new Due("RunEdgesTest");
    private static final Edges EDGES = new Edges(DUE);

    public static void main(String[] args) {
        runHowMany();
        runOfWhatIsNotWhole();
        furtherOnesAreNo();
        sixtyAnswers();
        bitZeroFirst();
        whatAsks();
        whatAsksByKindAndState();
        eachThatIsComeToCounts();
        justFiveHundred();
        fiveHundredInCalls();
        tenRoutines();
        wrongAheadOfTenRoutines();
        runLeavesTheRest();
        endedWhich();
        endedBeforeAny();
        endedOfTheLatest();
        endedWhere();
        breaksHowMany();
        breaksOfWhatIsNotWhole();
        breaksOfNone();
        breaksOfEight();
        breaksInOrder();
        breaksOfWrongAlone();
        breaksLeavesTheRest();
        digestOfEmptyOnes();
        digestOfFullOnes();
        digestSeesEach();
        DUE.end();
    }

    private static void due(String call, long got, long want) {
        DUE.due(call, got, want);
    }

    /** Runs; what ended() tells from 0 on. */
    private static void dueRun(String what, StateWear x, long answers, int n, int... want) {
        due(what + ": run", x.run(answers, n), want[0]);
        for (int part = 0; part < want.length; part++) due(what + ": ended " + part, x.ended(part), want[part]);
    }

    /** "n (0 .. 60) of them", "BAD: n" */
    private static void runHowMany() {
        EDGES.badOutside("run(0, n)", Samples::busy, 0, 60, (y, n) -> y.run(0, n));
        EDGES.badOutside("run(-1, n)", Samples::busy, 0, 60, (y, n) -> y.run(-1L, n));
        EDGES.badOutside("BAD ahead of NO, open", Samples::open, 0, 60, (y, n) -> y.run(0, n));
        EDGES.badOutside("BAD ahead of NO, called", Samples::callsNobody, 0, 60, (y, n) -> y.run(0, n));
        EDGES.badOutside("BAD ahead of NO, no ROUTINE", StateWear::new, 0, 60, (y, n) -> y.run(0, n));
        StateWear x = Samples.fresh();
        for (long answers : new long[] {0, 1, -1, Long.MIN_VALUE, Long.MAX_VALUE}) {
            dueRun("none", x, answers, 0, 0, 0, 1, 0, 1, 1);
            dueRun("sixty", x, answers, 60, 0, 0, 1, 0, 1, 1);
        }
    }

    /** "NO as judge()" */
    private static void runOfWhatIsNotWhole() {
        EDGES.changesNothing("no ROUTINE 0", StateWear::new, y -> y.run(0, 0), NO);
        EDGES.changesNothing("KINDS alone", () -> Sorts.withKind(0), y -> y.run(0, 60), NO);
        EDGES.changesNothing("an open block", Samples::open, y -> y.run(0, 0), NO);
        EDGES.changesNothing("an open block", Samples::open, y -> y.run(-1L, 60), NO);
        EDGES.changesNothing("a call of nobody", Samples::callsNobody, y -> y.run(0, 0), NO);
        StateWear x = Samples.open();
        x.cut(1);
        due("it is closed", x.run(0, 0), 3);
        x = Samples.callsNobody();
        x.routine();
        due("it is there", x.run(0, 0), 3);
    }

    private static StateWear loop() {
        StateWear x = new StateWear();
        x.routine();
        Sorts.write(x, 0, Sorts.WHILE, Sorts.END);
        return x;
    }

    /** "further ones being no" */
    private static void furtherOnesAreNo() {
        StateWear x = loop();
        for (int n = 0; n <= 60; n++) dueRun("all yes, " + n, x, -1L, n, 0, 0, 2, n + 1, 2 * n + 1, 1);
    }

    /** The bits from 60 on are never looked at, nor do answers come round again. */
    private static void sixtyAnswers() {
        StateWear x = loop();
        dueRun("bits 60 .. 63 alone", x, -1L << 60, 60, 0, 0, 2, 1, 1, 1);
        dueRun("bit 59", x, (1L << 60) - 1, 60, 0, 0, 2, 61, 121, 1);
        dueRun("but bit 59", x, (1L << 59) - 1, 60, 0, 0, 2, 60, 119, 1);
        dueRun("bit 59 is above 59", x, (1L << 60) - 1, 59, 0, 0, 2, 60, 119, 1);
        dueRun("a hole at 32", x, ~(1L << 32), 60, 0, 0, 2, 33, 65, 1);
        dueRun("a hole at 31", x, ~(1L << 31), 60, 0, 0, 2, 32, 63, 1);
        StateWear y = new StateWear();
        y.routine();
        Sorts.write(y, 0, Sorts.WHILE, Sorts.IF, Sorts.END, Sorts.IF, Sorts.END, Sorts.IF, Sorts.END, Sorts.END);
        dueRun("the 61st to the 65th are no", y, -1L, 60, 0, 0, 8, 61, 15 * 8 + 1, 1);
        dueRun("the 60th is WHILE's no", y, ~(1L << 56), 60, 0, 0, 8, 57, 14 * 8 + 1, 1);
    }

    /** "bit 0 first" */
    private static void bitZeroFirst() {
        StateWear x = Sorts.withKind(1);
        Sorts.write(x, 0, Sorts.IF, Sorts.LEAVE, Sorts.END, Sorts.IF, Sorts.FAIL, Sorts.END, Sorts.IF, Sorts.USE, 0, 0);
        Sorts.write(x, 0, Sorts.END);
        dueRun("yes", x, 0b001, 3, 0, 0, 9, 1, 2, 1);
        dueRun("no, yes", x, 0b010, 3, 6, 0, 9, 2, 3, 1);
        dueRun("no, no, yes", x, 0b100, 3, 1, 0, 7, 3, 4, 1);
        dueRun("all no", x, 0b1000, 4, 0, 0, 9, 3, 3, 1);
        dueRun("none is told", x, 0b111, 0, 0, 0, 9, 3, 3, 1);
        dueRun("the third is not told", x, 0b100, 2, 0, 0, 9, 3, 3, 1);
    }

    /** "with USE if what is used is ASKING, with ASK and LOOP always, with IF and WHILE" */
    private static void whatAsks() {
        StateWear x = Sorts.withKind(1);
        x.use(0, 0, 3, 0, 0);
        Sorts.write(x, 0, Sorts.MAKE, 0, 0);
        int[][] uses = {{Sorts.USE, 2, 0}, {Sorts.USE, 3, 1}, {Sorts.ASK, 2, 1}, {Sorts.ASK, 3, 1}, {Sorts.LOOP, 2, 1},
            {Sorts.LOOP, 3, 1}};
        for (int[] use : uses) {
            x.statement(0, use[0], 0, use[1]);
            boolean block = use[0] != Sorts.USE;
            if (block) x.statement(0, Sorts.END, 0, 0);
            int behind = block ? 3 : 2;
            dueRun("by no: " + use[0] + " " + use[1], x, 0, 1, 0, 0, behind, use[2], 2, 1);
            boolean again = use[0] == Sorts.LOOP;
            dueRun("by yes", x, 1, 1, 0, 0, behind, use[2] + (again ? 1 : 0), block ? again ? 4 : 3 : 2, 1);
            x.cut(0);
            if (block) x.cut(0);
        }
        int[] quiet = {Sorts.MAKE, 1, 0, Sorts.NAME, 2, 1, Sorts.DROP, 1, Sorts.TRY, Sorts.LAST, Sorts.END, Sorts.LEAVE};
        Sorts.write(x, 0, quiet);
        dueRun("nothing else asks", x, -1L, 60, 0, 0, 8, 0, 8, 1);
    }

    /** Whether a USE asks lies with the THING that is used there, and with its STATE. */
    private static void whatAsksByKindAndState() {
        StateWear x = new StateWear();
        x.kind(2, 3);
        x.use(0, 0, 0, 1, NONE);
        x.use(0, 1, 0, 0, 1);
        x.kind(2, 3);
        x.use(1, 0, 0, 1, 0);
        x.use(1, 1, 0, 0, NONE);
        x.routine();
        Sorts.write(x, 0, Sorts.MAKE, 0, 0, Sorts.MAKE, 4, 1, Sorts.USE, 0, 0, Sorts.USE, 4, 0);
        Sorts.write(x, 0, Sorts.USE, 4, 0, Sorts.USE, 0, 0);
        dueRun("by yes: of 4, then of 0", x, 3, 2, 0, 0, 6, 2, 6, 1);
        dueRun("by no: twice of 4, then of 0", x, 0, 0, 0, 0, 6, 3, 6, 1);
        due("judge", x.judge(), 1);
        due("0 ahead of the second USE of 4", x.may(0, 4, 0), 2);
        due("4 there", x.may(0, 4, 4), 3);
        due("0 behind the last", x.may(0, 6, 0), 3);
        due("4 behind the last", x.may(0, 6, 4), 3);
        due("all that MAY BE", x.count(4), 4 + 2 + 2 + 4);
    }

    /** "each that is come to counts, ELSE, END, LAST, too" */
    private static void eachThatIsComeToCounts() {
        StateWear x = new StateWear();
        x.routine();
        dueRun("nothing", x, 0, 0, 0, 0, 0, 0, 0, 1);
        Sorts.write(x, 0, Sorts.IF, Sorts.ELSE, Sorts.END);
        dueRun("IF ELSE", x, 1, 1, 0, 0, 3, 1, 2, 1);
        dueRun("IF END", x, 0, 1, 0, 0, 3, 1, 2, 1);
        Sorts.write(x, 0, Sorts.TRY, Sorts.LAST, Sorts.END);
        dueRun("and TRY LAST END", x, 0, 1, 0, 0, 6, 1, 5, 1);
        for (int i = 0; i < 6; i++) x.cut(0);
        Sorts.write(x, 0, Sorts.IF, Sorts.END);
        dueRun("without ELSE: IF END", x, 1, 1, 0, 0, 2, 1, 2, 1);
        dueRun("without ELSE: IF", x, 0, 1, 0, 0, 2, 1, 1, 1);
        x.cut(0);
        x.cut(0);
        Sorts.write(x, 0, Sorts.TRY, Sorts.IF, Sorts.LEAVE, Sorts.ELSE, Sorts.FAIL, Sorts.END, Sorts.LAST, Sorts.END);
        dueRun("TRY IF LEAVE LAST END", x, 1, 1, 0, 0, 8, 1, 5, 1);
        dueRun("TRY IF FAIL LAST END", x, 0, 1, 6, 0, 8, 1, 5, 1);
    }

    private static StateWear turnsOfTen() {
        StateWear x = new StateWear();
        x.routine();
        Sorts.write(x, 0, Sorts.WHILE);
        for (int i = 0; i < 8; i++) Sorts.write(x, 0, Sorts.DROP, 0);
        Sorts.write(x, 0, Sorts.END);
        return x;
    }

    /** "7 500 STATEMENTS were done and one more was due" */
    private static void justFiveHundred() {
        StateWear x = turnsOfTen();
        dueRun("491", x, -1L, 49, 0, 0, 10, 50, 491, 1);
        dueRun("500, and WHILE was due", x, -1L, 50, 7, 0, 0, 50, 500, 1);
        dueRun("likewise by more ANSWERS", x, -1L, 60, 7, 0, 0, 50, 500, 1);
        for (int more = 1; more <= 9; more++) {
            Sorts.write(x, 0, Sorts.DROP, 0);
            dueRun("some behind it", x, -1L, 49, 0, 0, 10 + more, 50, 491 + more, 1);
        }
        int[] late = {Sorts.DROP, Sorts.LEAVE, Sorts.FAIL, Sorts.USE};
        for (int sort : late) {
            x.statement(0, sort, 0, 0);
            dueRun("the 501st is " + sort, x, -1L, 49, 7, 0, 19, 50, 500, 1);
            x.cut(0);
        }
        int[] ends = {0, 0, 6, 1};
        x.cut(0);
        for (int i = 0; i < late.length; i++) {
            x.statement(0, late[i], 0, 0);
            dueRun("the 500th is " + late[i], x, -1L, 49, ends[i], 0, ends[i] == 1 ? 18 : 19, 50, 500, 1);
            x.cut(0);
        }
        x.statement(0, Sorts.TRY, 0, 0);
        x.statement(0, Sorts.LAST, 0, 0);
        x.statement(0, Sorts.END, 0, 0);
        dueRun("LAST was due", x, -1L, 49, 7, 0, 19, 50, 500, 1);
        x.cut(0);
        x.cut(0);
        x.cut(0);
        x.cut(0);
        Sorts.write(x, 0, Sorts.TRY, Sorts.LAST, Sorts.END);
        dueRun("END was due", x, -1L, 49, 7, 0, 19, 50, 500, 1);
    }

    /** What is over at the 500th is over, and so are its callers; LEFT is told there too. */
    private static void fiveHundredInCalls() {
        StateWear x = Sorts.withKind(2);
        Sorts.write(x, 0, Sorts.MAKE, 0, 0, Sorts.USE, 0, 2, Sorts.LEND, 1, 0);
        Sorts.write(x, 1, Sorts.WHILE, Sorts.NAME, 1, 0, Sorts.DROP, 1, Sorts.NAME, 1, 0, Sorts.NAME, 2, 0);
        Sorts.write(x, 1, Sorts.DROP, 3, Sorts.DROP, 3, Sorts.END);
        Sorts.write(x, 1, Sorts.IF, Sorts.ELSE, Sorts.FAIL, Sorts.END);
        dueRun("few", x, 0, 0, 6, 0, 3, 2, 3 + 3, 2);
        for (int i = 0; i < 4; i++) x.cut(1);
        dueRun("3 + 62 * 8 = 499", x, -1L, 60, 0, 0, 3, 61, 3 + 60 * 8 + 1, 2);
        for (int i = 0; i < 15; i++) Sorts.write(x, 1, Sorts.DROP, 4);
        dueRun("499 in the called one", x, -1L, 60, 0, 0, 3, 61, 499, 2);
        Sorts.write(x, 0, Sorts.DROP, 4);
        dueRun("the 500th in the caller", x, -1L, 60, 0, 0, 4, 61, 500, 2);
        Sorts.write(x, 0, Sorts.DROP, 4);
        dueRun("the 501st in the caller", x, -1L, 60, 7, 0, 4, 61, 500, 2);
        Sorts.write(x, 1, Sorts.DROP, 4);
        dueRun("the 501st in the caller, one earlier", x, -1L, 60, 7, 0, 3, 61, 500, 2);
        x.cut(0);
        x.cut(0);
        x.ends(0, 0);
        dueRun("LEFT behind the 500th", x, -1L, 60, 5, 0, 3, 61, 500, 2);
        x.ends(0, 7);
        x.cut(1);
        Sorts.write(x, 1, Sorts.FAIL);
        dueRun("FAILED by the 500th", x, -1L, 60, 6, 0, 3, 61, 500, 2);
    }

    /** "8 a call with 10 ROUTINES open" */
    private static void tenRoutines() {
        for (int sort : new int[] {Sorts.LEND, Sorts.GIVE}) {
            StateWear x = Sorts.withKind(2);
            Sorts.write(x, 0, Sorts.MAKE, 0, 0, sort, 1, 0);
            Sorts.write(x, 1, Sorts.IF, sort, 1, 0, Sorts.END);
            for (int deep = 0; deep <= 8; deep++) {
                dueRun("so many calls more: " + deep, x, -1L, deep, 0, 0, 2, deep + 1, 3 + 3 * deep, deep + 2);
            }
            dueRun("an eleventh", x, -1L, 9, 8, 1, 1, 9, 20, 10);
            dueRun("whatever else is told", x, -1L, 60, 8, 1, 1, 9, 20, 10);
            Sorts.write(x, 1, sort, 1, 0);
            due("the eleventh by another call", x.run(0, 0), 8);
            due("which", x.ended(2), 3);
            due("all ten are open", x.ended(5), 10);
        }
        StateWear x = Sorts.withKind(1);
        Sorts.write(x, 0, Sorts.MAKE, 0, 0, Sorts.LEND, 0, 0);
        dueRun("ROUTINE 0 is one of them", x, 0, 0, 8, 0, 1, 0, 20, 10);
        StateWear y = Sorts.withKind(3);
        Sorts.write(y, 0, Sorts.MAKE, 0, 0);
        for (int i = 0; i < 12; i++) Sorts.write(y, 0, Sorts.LEND, 1, 0);
        Sorts.write(y, 1, Sorts.LEND, 2, 0);
        dueRun("twenty-four calls, three open at once", y, 0, 0, 0, 0, 13, 0, 25, 3);
    }

    private static void wrongAheadOfTenRoutines() {
        StateWear x = Sorts.withKind(3);
        Sorts.write(x, 0, Sorts.MAKE, 0, 0, Sorts.LEND, 1, 0);
        Sorts.write(x, 1, Sorts.IF, Sorts.LEND, 1, 0, Sorts.LEAVE, Sorts.END, Sorts.GIVE, 2, 0);
        dueRun("GIVE of what was lent, with ten open", x, -1L, 8, 4, 1, 4, 9, 20, 10);
        x.cut(1);
        Sorts.write(x, 1, Sorts.LEND, 2, 3);
        dueRun("LEND of nothing, with ten open", x, -1L, 8, 1, 1, 4, 9, 20, 10);
        x.cut(1);
        Sorts.write(x, 1, Sorts.MAKE, 1, 0, Sorts.LEND, 2, 1);
        dueRun("a right call, with ten open", x, -1L, 8, 8, 1, 5, 9, 21, 10);
        dueRun("with nine open", x, -1L, 7, 0, 0, 2, 8, 2 + 7 * 2 + 3 + 7, 10);
    }

    /** A run changes nothing but what ended() tells. */
    private static void runLeavesTheRest() {
        StateWear x = Samples.busy();
        x.run(-1L, 7);
        x.run(1, 2);
        EDGES.dueAlike("two runs more", x, Samples.busy());
        due("no KINDS, nothing judged", Samples.fresh().run(0, 0), 0);
        StateWear y = Samples.fresh();
        y.run(0, 0);
        due("nothing is judged by it", y.count(3), 0);
    }

    /** "BAD" */
    private static void endedWhich() {
        EDGES.badOutside("ended(n)", Samples::busy, 0, 5, StateWear::ended);
        EDGES.badOutside("BAD ahead of NONE", Samples::fresh, 0, 5, StateWear::ended);
        EDGES.badOutside("BAD ahead of NONE", StateWear::new, 0, 5, StateWear::ended);
    }

    /** "NONE before any" */
    private static void endedBeforeAny() {
        for (int what = 0; what < 6; what++) {
            int part = what;
            EDGES.changesNothing("of a new one " + what, StateWear::new, y -> y.ended(part), NONE);
            EDGES.changesNothing("of a fresh one " + what, Samples::fresh, y -> y.ended(part), NONE);
        }
        StateWear x = Samples.fresh();
        x.run(0, 61);
        x.run(0, -1);
        x.judge();
        x.breaks(3);
        x.statement(0, Sorts.IF, 0, 0);
        x.run(0, 0);
        for (int what = 0; what < 6; what++) due("refused runs and breaks() are none", x.ended(what), NONE);
        x.cut(0);
        x.run(0, 0);
        due("now there is one", x.ended(0), 0);
    }

    /** "Of the latest run() that was not refused" */
    private static void endedOfTheLatest() {
        StateWear x = Samples.busy();
        int[] before = new int[6];
        for (int what = 0; what < 6; what++) before[what] = x.ended(what);
        x.run(3, 61);
        x.statement(1, Sorts.TRY, 0, 0);
        x.run(3, 2);
        x.cut(1);
        x.cut(1);
        x.statement(1, Sorts.END, 0, 0);
        x.judge();
        x.breaks(4);
        x.ends(0, 0);
        for (int what = 0; what < 6; what++) due("it stays " + what, x.ended(what), before[what]);
        dueRun("a later one", x, 0, 0, 3, 0, 3, 1, 5, 2);
    }

    /** "1 the ROUTINE, 2 the STATEMENT where it ended (of 0, 6: ROUTINE 0, behind its last one)" */
    private static void endedWhere() {
        StateWear x = Sorts.withKind(3);
        Sorts.write(x, 0, Sorts.MAKE, 0, 0, Sorts.LEND, 1, 0, Sorts.DROP, 1);
        Sorts.write(x, 1, Sorts.IF, Sorts.LEND, 2, 0, Sorts.END);
        Sorts.write(x, 2, Sorts.IF, Sorts.FAIL, Sorts.END, Sorts.IF, Sorts.USE, 0, 1, Sorts.END);
        Sorts.write(x, 2, Sorts.IF, Sorts.MAKE, 1, 0, Sorts.USE, 1, 0, Sorts.END);
        dueRun("over", x, 0, 0, 0, 0, 3, 1, 4, 2);
        dueRun("over", x, 1, 1, 0, 0, 3, 4, 9, 3);
        dueRun("FAILED in ROUTINE 2", x, 3, 2, 6, 0, 3, 2, 6, 3);
        dueRun("WRONG in ROUTINE 2", x, 5, 3, 3, 2, 4, 3, 7, 3);
        dueRun("LEFT in ROUTINE 2", x, 9, 4, 5, 2, 10, 4, 10, 3);
        Sorts.write(x, 0, Sorts.LEAVE, Sorts.DROP, 1);
        dueRun("by LEAVE", x, 0, 0, 0, 0, 5, 1, 5, 2);
    }

    /** "up to n (0 .. 8) ANSWERS", "BAD" */
    private static void breaksHowMany() {
        EDGES.badOutside("breaks(n)", Samples::busy, 0, 8, StateWear::breaks);
        EDGES.badOutside("BAD ahead of NO, open", Samples::open, 0, 8, StateWear::breaks);
        EDGES.badOutside("BAD ahead of NO, called", Samples::callsNobody, 0, 8, StateWear::breaks);
        EDGES.badOutside("BAD ahead of NO, no ROUTINE", StateWear::new, 0, 8, StateWear::breaks);
        StateWear x = Samples.fresh();
        for (int n = 0; n <= 8; n++) due("none is WRONG", x.breaks(n), 0);
        x.statement(0, Sorts.USE, 1, 0);
        for (int n = 0; n <= 8; n++) due("all are WRONG", x.breaks(n), 1);
    }

    /** "NO" */
    private static void breaksOfWhatIsNotWhole() {
        for (int n = 0; n <= 8; n += 8) {
            int many = n;
            EDGES.changesNothing("no ROUTINE 0", StateWear::new, y -> y.breaks(many), NO);
            EDGES.changesNothing("an open block", Samples::open, y -> y.breaks(many), NO);
            EDGES.changesNothing("a call of nobody", Samples::callsNobody, y -> y.breaks(many), NO);
        }
    }

    /** Up to 0 ANSWERS: the empty row alone, told as 2 to 0. */
    private static void breaksOfNone() {
        StateWear x = new StateWear();
        x.routine();
        Sorts.write(x, 0, Sorts.IF, Sorts.LEAVE, Sorts.END, Sorts.USE, 0, 0);
        due("WRONG by no", x.breaks(0), 1);
        due("WRONG by no", x.breaks(8), 1);
        for (int i = 0; i < 4; i++) x.cut(0);
        Sorts.write(x, 0, Sorts.IF, Sorts.USE, 0, 0, Sorts.END);
        due("WRONG by yes: not of none", x.breaks(0), 0);
        due("WRONG by yes", x.breaks(1), 3);
        due("WRONG by yes", x.breaks(8), 3);
    }

    private static StateWear wrongBehindNestedLoops(int depth) {
        StateWear x = new StateWear();
        x.routine();
        for (int i = 0; i < depth; i++) Sorts.write(x, 0, Sorts.IF, Sorts.ELSE, Sorts.LEAVE, Sorts.END);
        Sorts.write(x, 0, Sorts.USE, 0, 0);
        return x;
    }

    /** The longest rows: 8 ANSWERS, the last of all is WRONG alone. */
    private static void breaksOfEight() {
        StateWear x = new StateWear();
        for (int r = 0; r < 2; r++) x.routine();
        Samples.ring(x, 1);
        Sorts.write(x, 0, Sorts.MAKE, 0, 0);
        for (int i = 0; i < 4; i++) Sorts.write(x, 0, Sorts.IF, Sorts.ELSE, Sorts.LEAVE, Sorts.END);
        Sorts.write(x, 0, Sorts.LEND, 1, 0);
        for (int i = 0; i < 4; i++) Sorts.write(x, 1, Sorts.IF, Sorts.ELSE, Sorts.LEAVE, Sorts.END);
        Sorts.write(x, 1, Sorts.USE, 1, 0);
        for (int n = 0; n < 8; n++) due("eight yes, but up to " + n, x.breaks(n), 0);
        due("eight yes", x.breaks(8), 511);
        x.cut(1);
        Sorts.write(x, 1, Sorts.IF, Sorts.USE, 1, 0, Sorts.END);
        due("nine yes", x.breaks(8), 0);
        for (int depth = 1; depth <= 5; depth++) {
            StateWear y = wrongBehindNestedLoops(depth);
            due("one too few for " + depth, y.breaks(depth - 1), 0);
            due("just enough for " + depth, y.breaks(depth), (2 << depth) - 1);
            due("more than enough for " + depth, y.breaks(8), (2 << depth) - 1);
        }
    }

    /** "the shorter ones first, of like length by their bits as a number" */
    private static void breaksInOrder() {
        StateWear x = new StateWear();
        x.routine();
        Sorts.write(x, 0, Sorts.IF, Sorts.IF, Sorts.IF, Sorts.USE, 0, 0, Sorts.END, Sorts.END, Sorts.ELSE);
        Sorts.write(x, 0, Sorts.IF, Sorts.ELSE, Sorts.IF, Sorts.USE, 0, 0, Sorts.END, Sorts.END, Sorts.END);
        due("no no yes (4) ahead of yes yes yes (7)", x.breaks(8), 8 + 4);
        due("by three", x.breaks(3), 8 + 4);
        due("by two none", x.breaks(2), 0);
        Sorts.write(x, 0, Sorts.IF, Sorts.USE, 0, 0, Sorts.END);
        due("yes no yes (5) behind it", x.breaks(8), 8 + 4);
        for (int i = 0; i < 3; i++) x.cut(0);
        Sorts.write(x, 0, Sorts.IF, Sorts.IF, Sorts.USE, 0, 0, Sorts.END, Sorts.END);
        due("the shorter ones first", x.breaks(8), 8 + 4);
        StateWear y = new StateWear();
        y.routine();
        Sorts.write(y, 0, Sorts.IF, Sorts.IF, Sorts.USE, 0, 0, Sorts.END, Sorts.ELSE, Sorts.IF, Sorts.USE, 0, 0);
        Sorts.write(y, 0, Sorts.END, Sorts.END);
        due("no yes (2) ahead of yes yes (3)", y.breaks(8), 4 + 2);
        StateWear z = new StateWear();
        z.routine();
        Sorts.write(z, 0, Sorts.IF, Sorts.IF, Sorts.USE, 0, 0, Sorts.END, Sorts.ELSE, Sorts.IF, Sorts.IF);
        Sorts.write(z, 0, Sorts.USE, 0, 0, Sorts.END, Sorts.END, Sorts.END);
        due("yes yes ahead of no yes yes, though 3 < 6", z.breaks(8), 4 + 3);
    }

    /** "the first that is WRONG": neither one that FAILED, nor 7, nor 8 */
    private static void breaksOfWrongAlone() {
        StateWear failed = Samples.fresh();
        failed.statement(0, Sorts.FAIL, 0, 0);
        due("run", failed.run(0, 0), 6);
        due("FAILED", failed.breaks(8), 0);
        StateWear deep = Sorts.withKind(1);
        Sorts.write(deep, 0, Sorts.MAKE, 0, 0, Sorts.LEND, 0, 0);
        due("run", deep.run(0, 0), 8);
        due("10 ROUTINES", deep.breaks(8), 0);
        StateWear left = Sorts.withKind(1);
        left.ends(0, 0);
        Sorts.write(left, 0, Sorts.MAKE, 0, 0);
        due("run", left.run(0, 0), 5);
        due("LEFT", left.breaks(8), 1);
        due("500 STATEMENTS", fiveHundredByNo().breaks(8), 0);
    }

    /** By calls of one ROUTINE of 24 STATEMENTS 500 are done with no ANSWER asked; a WRONG stands behind them. */
    private static StateWear fiveHundredByNo() {
        StateWear x = Sorts.withKind(2);
        Sorts.write(x, 0, Sorts.MAKE, 0, 0);
        for (int i = 0; i < 22; i++) Sorts.write(x, 0, Sorts.LEND, 1, 0);
        Sorts.write(x, 0, Sorts.USE, 4, 0);
        for (int i = 0; i < 24; i++) Sorts.write(x, 1, Sorts.DROP, 4);
        due("run", x.run(0, 0), 7);
        due("where", x.ended(1) * 100 + x.ended(2), 100 + (499 - 1) % 25);
        return x;
    }

    /** "(ended() stays.)" */
    private static void breaksLeavesTheRest() {
        StateWear x = Samples.busy();
        due("a WRONG one", x.breaks(8), 1);
        due("and again", x.breaks(0), 1);
        EDGES.dueAlike("breaks()", x, Samples.busy());
        StateWear y = Samples.fresh();
        due("none", y.breaks(8), 0);
        due("no run yet", y.ended(0), NONE);
        due("nothing judged", y.count(3), 0);
    }

    private static void digestOfEmptyOnes() {
        EDGES.changesNothing("a new one", StateWear::new, StateWear::digest, 29);
        StateWear x = new StateWear();
        long h = 29;
        for (int r = 0; r < 6; r++) {
            x.routine();
            h *= 31;
            due("empty ROUTINES", x.digest(), h);
        }
        x.routine();
        due("a refused one", x.digest(), h);
    }

    /** The document's rule, by what leads() and told() tell; far beyond what a long holds. */
    private static long digestByTelling(StateWear x, int[] ends) {
        long h = 29;
        for (int k = 0; k < x.count(0); k++) {
            int states = x.leads(k, NONE, NONE, true);
            h = 31 * (31 * h + states) + ends[k];
            for (int s = 0; s < states; s++) {
                for (int name = 0; name < 8; name++) {
                    h = 31 * h + x.leads(k, s, name, true);
                    h = 31 * h + x.leads(k, s, name, false);
                }
            }
        }
        for (int r = 0; r < x.count(1); r++) {
            int[] sorts = new int[25];
            int many = 0;
            while ((sorts[many] = x.told(r, many, 0)) != NONE) many++;
            h = 31 * h + many;
            for (int i = 0; i < many; i++) h = 31 * (31 * (31 * h + sorts[i]) + x.told(r, i, 1)) + x.told(r, i, 2);
        }
        return h;
    }

    private static void digestOfFullOnes() {
        StateWear x = Samples.busy();
        due("busy", x.digest(), digestByTelling(Samples.busy(), new int[] {5, 5}));
        due("fresh", Samples.fresh().digest(), digestByTelling(Samples.fresh(), new int[] {5}));
        due("full", Samples.full().digest(), digestByTelling(Samples.full(), new int[] {5, 5, 1, 1, 1, 1}));
        due("open", Samples.open().digest(), digestByTelling(Samples.open(), new int[] {5, 5}));
    }

    /** Each thing that is told of changes it, and undone it is as before. */
    private static void digestSeesEach() {
        StateWear x = Samples.busy();
        long before = x.digest();
        x.ends(0, 4);
        DUE.holds("it sees ENDS", x.digest() != before);
        x.ends(0, 5);
        due("as before", x.digest(), before);
        x.use(0, 2, 7, 2, NONE);
        long plain = x.digest();
        DUE.holds("it sees a USE", plain != before);
        x.drop(0, 2, 7);
        due("as before", x.digest(), before);
        x.use(0, 2, 7, 2, 1);
        DUE.holds("it sees where a no leads", x.digest() != plain);
        x.drop(0, 2, 7);
        x.use(0, 2, 7, 2, 2);
        due("it is made of where they lead alone", x.digest(), plain);
        x.drop(0, 2, 7);
        x.statement(1, Sorts.IF, 0, 0);
        DUE.holds("it sees a STATEMENT", x.digest() != before);
        x.cut(1);
        x.judge();
        x.run(0, 0);
        x.fits(0, 0);
        due("as before", x.digest(), before);
    }
}
