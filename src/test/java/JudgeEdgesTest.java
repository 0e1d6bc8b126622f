/** The bounds of promises 15 to 20, a test for each sentence that names one. */
public final class JudgeEdgesTest {
    private static final int NONE = StateWear.NONE, BAD = StateWear.BAD, NO = StateWear.NO, SPENT = StateWear.SPENT;
    private static final int LOWEST = Edges.LOWEST, HIGHEST = Edges.HIGHEST;
    private static final int NOTHING_NAMED = 128, GONE = 64;
    private static final Due DUE = new Due("JudgeEdgesTest");
    private static final Edges EDGES = new Edges(DUE);

    public static void main(String[] args) {
        noRoutineZero();
        openSomewhere();
        calledIsNotThere();
        calledByTheFirstOrTheLast();
        noStaysJudged();
        emptyProgram();
        failedIsNotWrong();
        staysThroughChanges();
        twoThousandInTheBeginning();
        twoThousandInACalledCase();
        twoThousandInEachOfTwo();
        fortyCasesByLend();
        fortyCasesByGive();
        spentForgetsWhatWasJudged();
        judgedAgainAfterSpent();
        wrongWhich();
        wrongInOrder();
        wrongEachOnce();
        wrongAtTheFirstAndLastPlaces();
        mayWhere();
        mayBehindTheLast();
        mayAllBits();
        oneWhere();
        oneHowOften();
        paperOfWhich();
        paperAllStates();
        paperGiven();
        paperGivenByOneThatWasLent();
        paperOfWhatNeverEnds();
        paperOfAllCasesInAllWays();
        paperForLaterCallers();
        paperOfTheBeginning();
        countWhich();
        countBeforeAndAfter();
        countEachOnce();
        DUE.end();
    }

    private static void due(String call, long got, long want) {
        DUE.due(call, got, want);
    }

    /** Judges; each row is a WRONG: the ROUTINE, the STATEMENT, which. */
    private static void dueWrongs(String what, StateWear x, int[]... rows) {
        due(what + ": judge", x.judge(), rows.length == 0 ? 1 : 0);
        due(what + ": how many", x.count(2), rows.length);
        for (int i = 0; i < rows.length; i++) {
            for (int part = 0; part < 3; part++) due(what + ": wrong " + i + " " + part, x.wrong(i, part), rows[i][part]);
        }
        due(what + ": no more", x.wrong(rows.length, 0), NONE);
    }

    private static StateWear kindsAlone() {
        return Sorts.withKind(0);
    }

    /** "NO: there is no ROUTINE 0" */
    private static void noRoutineZero() {
        EDGES.changesNothing("judge of a new one", StateWear::new, StateWear::judge, NO);
        EDGES.changesNothing("judge of KINDS alone", JudgeEdgesTest::kindsAlone, StateWear::judge, NO);
        StateWear x = kindsAlone();
        x.routine();
        due("with ROUTINE 0", x.judge(), 1);
    }

    /** "a block is open somewhere" */
    private static void openSomewhere() {
        for (int sort : new int[] {Sorts.ASK, Sorts.IF, Sorts.WHILE, Sorts.LOOP, Sorts.TRY}) {
            for (int r = 0; r < 2; r++) {
                int in = r;
                Edges.Maker maker = () -> {
                    StateWear x = Samples.busy();
                    x.statement(in, Sorts.LEAVE, 0, 0);
                    x.statement(in, sort, 0, 0);
                    return x;
                };
                EDGES.changesNothing("open " + sort + " in " + r, maker, StateWear::judge, NO);
                StateWear x = maker.make();
                if (sort == Sorts.TRY) x.statement(r, Sorts.LAST, 0, 0);
                due("open behind LAST or none", x.judge(), NO);
                x.statement(r, Sorts.END, 0, 0);
                due("it is closed", x.judge(), 0);
            }
        }
        EDGES.changesNothing("open in the last ROUTINE of six", () -> {
            StateWear x = Samples.full();
            x.statement(5, Sorts.IF, 0, 0);
            return x;
        }, StateWear::judge, NO);
    }

    /** "a ROUTINE that is called is not there": whether or not the call can be come to */
    private static void calledIsNotThere() {
        for (int sort : new int[] {Sorts.LEND, Sorts.GIVE}) {
            for (int called = 2; called < 6; called++) {
                int a = called;
                Edges.Maker maker = () -> {
                    StateWear x = Samples.busy();
                    x.statement(1, Sorts.LEAVE, 0, 0);
                    x.statement(1, sort, a, 0);
                    return x;
                };
                EDGES.changesNothing("a call of " + called, maker, StateWear::judge, NO);
                StateWear x = maker.make();
                for (int r = 2; r < called; r++) {
                    x.routine();
                    due("not yet", x.judge(), NO);
                }
                x.routine();
                due("it is there", x.judge(), 0);
            }
        }
        StateWear x = Samples.fresh();
        x.statement(0, Sorts.LEND, 1, 0);
        due("ROUTINE 0 itself calls", x.judge(), NO);
        x.cut(0);
        due("it calls no more", x.judge(), 1);
    }

    /** The call is the first STATEMENT of a ROUTINE, or the 24th. */
    private static void calledByTheFirstOrTheLast() {
        for (int place : new int[] {0, 23}) {
            for (int r : new int[] {0, 5}) {
                StateWear x = new StateWear();
                x.routine();
                if (r == 0) {
                    writeCallAt(x, 0, place, 5);
                    for (int more = 1; more < 6; more++) {
                        due("judge", x.judge(), NO);
                        due("run", x.run(0, 0), NO);
                        due("breaks", x.breaks(0), NO);
                        x.routine();
                    }
                    dueWrongs("all are there", x, new int[] {0, place, 1});
                    continue;
                }
                for (int more = 1; more < 6; more++) x.routine();
                writeCallAt(x, r, place, 5);
                dueWrongs("never called", x);
            }
        }
    }

    private static void writeCallAt(StateWear x, int routine, int place, int called) {
        for (int i = 0; i < place; i++) Sorts.write(x, routine, Sorts.DROP, 0);
        Sorts.write(x, routine, Sorts.LEND, called, 0);
    }

    /** "What was judged stays so till the next judge() that is not NO." */
    private static void noStaysJudged() {
        EDGES.changesNothing("an open block", Samples::open, StateWear::judge, NO);
        EDGES.changesNothing("a call of nobody", Samples::callsNobody, StateWear::judge, NO);
        StateWear x = Samples.open();
        due("WRONGS before", x.count(2), 4);
        due("judge", x.judge(), NO);
        due("WRONGS after", x.count(2), 4);
        for (int i = 0; i < 4; i++) x.cut(1);
        for (int i = 0; i < 7; i++) x.cut(0);
        due("judge", x.judge(), 1);
        due("WRONGS then", x.count(2), 0);
        due("CASES then", x.count(3), 1);
        due("all that MAY BE then", x.count(4), 2);
        due("no paper any more", x.paper(1, false, 0, 0), NONE);
        due("no CASE any more", x.may(1, 0, 0), 0);
    }

    private static void emptyProgram() {
        StateWear x = new StateWear();
        x.routine();
        due("judge without KINDS", x.judge(), 1);
        due("WRONGS", x.count(2), 0);
        due("CASES", x.count(3), 1);
        due("behind the last, which is the first place", x.count(4), 1);
        for (int v = 0; v < 5; v++) due("names nothing", x.may(0, 0, v), NOTHING_NAMED);
        due("none name one", x.one(0, 0, 3, 4), 0);
    }

    private static void failedIsNotWrong() {
        StateWear x = Samples.fresh();
        x.statement(0, Sorts.FAIL, 0, 0);
        due("a program that FAILED", x.judge(), 1);
        due("it comes to no place", x.may(0, 2, 0), 0);
        due("all that MAY BE", x.count(4), 2);
    }

    private static void staysThroughChanges() {
        StateWear x = Samples.busy();
        x.statement(0, Sorts.DROP, 0, 0);
        x.ends(0, 0);
        x.drop(0, 0, 0);
        x.use(0, 1, 3, 2, 2);
        x.kind(6, 0);
        x.routine();
        x.run(0, 0);
        x.breaks(3);
        x.fits(0, 1);
        StateWear twin = Samples.busy();
        for (int what = 2; what < 5; what++) due("count " + what, x.count(what), twin.count(what));
        for (int i = 0; i < 3; i++) due("wrong " + i, x.wrong(i, 1), twin.wrong(i, 1));
        for (int i = 0; i < 9; i++) due("may " + i, x.may(0, i, 0), twin.may(0, i, 0));
        for (int s = 0; s < 3; s++) due("paper " + s, x.paper(1, false, 0, s), twin.paper(1, false, 0, s));
        due("a place that was not there", x.may(0, 9, 0), 0);
        due("nothing MAY BE there", x.one(0, 9, 0, 1), NONE);
        due("a ROUTINE that was not there", x.may(2, 0, 0), 0);
        due("it was not called", x.paper(2, false, 0, 0), NONE);
        due("a KIND that was not there", x.paper(1, false, 2, 5), NONE);
        x.cut(0);
        x.cut(0);
        due("behind the last of now", x.may(0, 7, 0), twin.may(0, 7, 0));
        due("a place that is not there any more", x.may(0, 8, 0), BAD);
        due("a place that is not there any more", x.one(0, 8, 0, 1), BAD);
    }

    /** 24 STATEMENTS at most, so that three THINGS in 6, 6, 5 STATES MAY BE in just 2000 ways, in each CASE alike. */
    private static void writeTwoThousand(StateWear x, int routine) {
        for (int v = 0; v < 3; v++) Sorts.write(x, routine, Sorts.MAKE, v, v);
        for (int v = 0; v < 3; v++) Sorts.write(x, routine, Sorts.WHILE, Sorts.USE, v, 0, Sorts.END);
        for (int i = 0; i < 6; i++) Sorts.write(x, routine, Sorts.DROP, 4);
        Sorts.write(x, routine, Sorts.DROP, 0, Sorts.DROP, 4, Sorts.DROP, 1, Sorts.DROP, 4, Sorts.DROP, 2);
    }

    private static StateWear twoThousand(int routine) {
        StateWear x = new StateWear();
        for (int states : new int[] {6, 6, 5}) Samples.ring(x, states);
        for (int r = 0; r <= routine; r++) x.routine();
        writeTwoThousand(x, routine);
        return x;
    }

    /** "SPENT if in one CASE more than 2000 (each place by itself) MAY BE" */
    private static void twoThousandInTheBeginning() {
        StateWear x = twoThousand(0);
        due("just 2000", x.judge(), 1);
        due("all", x.count(4), 2000);
        x.cut(0);
        due("one fewer", x.judge(), 1);
        due("all", x.count(4), 1999);
        Sorts.write(x, 0, Sorts.DROP, 2, Sorts.LEAVE);
        due("2001", x.judge(), SPENT);
        due("again", x.judge(), SPENT);
        x.cut(0);
        Sorts.write(x, 0, Sorts.FAIL);
        due("FAIL comes to no place", x.judge(), 1);
        due("all", x.count(4), 2000);
        x.cut(0);
        Sorts.write(x, 0, Sorts.USE, 4, 0);
        dueWrongs("WRONG comes to no place", x, new int[] {0, 23, 1});
        due("all", x.count(4), 2000);
    }

    private static void twoThousandInACalledCase() {
        for (int sort : new int[] {Sorts.LEND, Sorts.GIVE}) {
            StateWear x = twoThousand(1);
            Sorts.write(x, 0, Sorts.MAKE, 0, 0, sort, 1, 0);
            due("just 2000 in the called one by " + sort, x.judge(), 1);
            due("three more in the beginning", x.count(4), 2003);
            due("two CASES", x.count(3), 2);
            due("how it ends", x.paper(1, sort == Sorts.GIVE, 0, 0), 1);
            Sorts.write(x, 1, Sorts.DROP, 4);
            due("2001 in the called one", x.judge(), SPENT);
            due("nothing", x.count(4), 0);
            x.cut(1);
            for (int i = 0; i < 20; i++) Sorts.write(x, 0, Sorts.DROP, 4);
            due("the beginning counts by itself", x.judge(), 1);
            due("all", x.count(4), 2023);
        }
    }

    private static void twoThousandInEachOfTwo() {
        StateWear x = twoThousand(1);
        Sorts.write(x, 0, Sorts.MAKE, 0, 0, Sorts.LEND, 1, 0, Sorts.USE, 0, 0, Sorts.LEND, 1, 0);
        Sorts.write(x, 0, Sorts.GIVE, 1, 0);
        due("three CASES of one ROUTINE", x.judge(), 1);
        due("with the beginning four", x.count(3), 4);
        due("each by itself", x.count(4), 6 + 3 * 2000);
        due("the paper of the last", x.paper(1, true, 0, 1), 1);
        due("in any CASE", x.may(1, 12, 2), 31);
    }

    /** "or there are more than 40 CASES": with the beginning */
    private static void fortyCasesByLend() {
        for (int more = 2; more <= 4; more++) {
            StateWear x = new StateWear();
            Samples.ring(x, 6);
            Samples.ring(x, 5);
            for (int r = 0; r < 6; r++) x.routine();
            Sorts.write(x, 0, Sorts.MAKE, 0, 0, Sorts.WHILE, Sorts.USE, 0, 0, Sorts.END);
            for (int r = 1; r < 6; r++) Sorts.write(x, 0, Sorts.LEND, r, 0);
            Sorts.write(x, 0, Sorts.GIVE, 5, 0);
            Sorts.write(x, 0, Sorts.MAKE, 0, 1);
            for (int i = 0; i < more; i++) Sorts.write(x, 0, Sorts.LEND, 5, 0, Sorts.USE, 0, 0);
            boolean spent = more == 4;
            due("1 + 5 * 6 + 6 + " + more, x.judge(), spent ? SPENT : 1);
            due("CASES", x.count(3), spent ? 0 : 37 + more);
            due("the last one's paper", x.paper(5, false, 1, more - 1), spent ? NONE : 1 << more - 1);
            due("one that was never called", x.paper(5, false, 1, more), NONE);
        }
    }

    /** CASES of two ROUTINES by GIVE, and CASES of a third one by LEND that is called from all of them. */
    private static void fortyCasesByGive() {
        for (int states = 3; states <= 4; states++) {
            StateWear x = new StateWear();
            Samples.ring(x, 6);
            Samples.ring(x, 6);
            Samples.ring(x, states);
            for (int r = 0; r < 4; r++) x.routine();
            for (int k = 0; k < 3; k++) {
                Sorts.write(x, 0, Sorts.MAKE, 0, k, Sorts.WHILE, Sorts.USE, 0, 0, Sorts.END, Sorts.GIVE, 1, 0);
            }
            Sorts.write(x, 1, Sorts.GIVE, 2, 0);
            Sorts.write(x, 2, Sorts.IF, Sorts.GIVE, 2, 0, Sorts.END);
            due("judge", x.judge(), 1);
            int cases = 1 + 2 * (12 + states);
            due("CASES", x.count(3), cases);
            Sorts.write(x, 1, Sorts.MAKE, 0, 2, Sorts.WHILE, Sorts.USE, 0, 0, Sorts.END, Sorts.LEND, 3, 0);
            Sorts.write(x, 0, Sorts.MAKE, 1, 0, Sorts.LEND, 3, 1, Sorts.USE, 1, 0, Sorts.LEND, 3, 1);
            Sorts.write(x, 0, Sorts.USE, 1, 0, Sorts.LEND, 3, 1);
            cases += states + 3;
            due("by so many STATES and three more", x.judge(), 1);
            due("CASES", x.count(3), cases);
            Sorts.write(x, 2, Sorts.MAKE, 1, 1);
            for (cases++; cases <= 42; cases++) {
                Sorts.write(x, 2, Sorts.LEND, 3, 1, Sorts.USE, 1, 0);
                due("one more", x.judge(), cases > 40 ? SPENT : 1);
                due("CASES", x.count(3), cases > 40 ? 0 : cases);
            }
        }
    }

    private static StateWear spent() {
        StateWear x = twoThousand(0);
        x.routine();
        x.ends(1, 0);
        x.fits(1, 0);
        x.run(-1, 4);
        Sorts.write(x, 0, Sorts.DROP, 4);
        x.ends(1, 63);
        return x;
    }

    /** "0: nothing MAY BE there (also before judge(), and SPENT)", and its like for all that tells what was judged */
    private static void spentForgetsWhatWasJudged() {
        StateWear x = Samples.busy();
        due("a WRONG", x.wrong(0, 2), 3);
        due("a paper", x.paper(1, false, 0, 0), 3);
        StateWear y = spent();
        long digest = y.digest();
        int parts = y.parts();
        int done = y.ended(4);
        y.cut(0);
        due("judge", y.judge(), 1);
        due("something MAY BE", y.may(0, 0, 0), NOTHING_NAMED);
        Sorts.write(y, 0, Sorts.DROP, 4);
        due("judge", y.judge(), SPENT);
        for (int what = 2; what < 5; what++) due("count " + what, y.count(what), 0);
        for (int i = 0; i <= 24; i++) due("may " + i, y.may(0, i, 0), 0);
        due("one", y.one(0, 0, 0, 1), NONE);
        due("paper", y.paper(0, false, 0, 0), NONE);
        for (int what = 0; what < 3; what++) due("wrong " + what, y.wrong(0, what), NONE);
        due("BAD as ever", y.may(0, 25, 0), BAD);
        due("BAD as ever", y.one(0, 0, 5, 0), BAD);
        due("BAD as ever", y.paper(2, false, 0, 0), BAD);
        due("BAD as ever", y.wrong(0, 3), BAD);
        due("the books stay", y.digest(), digest);
        due("parts() stays", y.parts(), parts);
        due("ended() stays", y.ended(4), done);
        due("KINDS stay", y.count(0), 3);
        due("ROUTINES stay", y.count(1), 2);
    }

    private static void judgedAgainAfterSpent() {
        StateWear x = spent();
        due("judge", x.judge(), SPENT);
        x.statement(1, Sorts.IF, 0, 0);
        due("NO ahead of SPENT", x.judge(), NO);
        due("still SPENT", x.count(3), 0);
        x.cut(1);
        x.cut(0);
        x.cut(0);
        due("judge", x.judge(), 1);
        due("all", x.count(4), 1999);
        due("a run asks nothing of SPENT", x.run(0, 0), 0);
    }

    /** "NONE: there is none such (also before judge(), and SPENT). BAD: what." */
    private static void wrongWhich() {
        EDGES.badOutside("wrong(0, n)", Samples::busy, 0, 2, (y, n) -> y.wrong(0, n));
        EDGES.badOutside("BAD ahead of NONE", Samples::busy, 0, 2, (y, n) -> y.wrong(4, n));
        EDGES.badOutside("BAD ahead of NONE", Samples::fresh, 0, 2, (y, n) -> y.wrong(0, n));
        EDGES.badOutside("BAD of a new one", StateWear::new, 0, 2, (y, n) -> y.wrong(-1, n));
        for (int i : Edges.outside(0, 3)) {
            for (int what = 0; what < 3; what++) {
                int part = what;
                EDGES.changesNothing("wrong(" + i + ", " + what + ")", Samples::busy, y -> y.wrong(i, part), NONE);
            }
        }
        for (int i : new int[] {LOWEST, -1, 0, 1, HIGHEST}) {
            EDGES.changesNothing("before judge()", Samples::fresh, y -> y.wrong(i, 0), NONE);
            EDGES.changesNothing("of a new one", StateWear::new, y -> y.wrong(i, 2), NONE);
        }
        EDGES.changesNothing("the first", Samples::busy, y -> y.wrong(0, 1), 3);
        EDGES.changesNothing("the second", Samples::busy, y -> y.wrong(1, 1), 5);
        EDGES.changesNothing("the last", Samples::busy, y -> y.wrong(3, 2), 5);
    }

    /** "in the order of these": the ROUTINE, the STATEMENT, which */
    private static void wrongInOrder() {
        StateWear x = Sorts.withKind(6);
        Sorts.write(x, 0, Sorts.MAKE, 0, 0, Sorts.LEND, 5, 0, Sorts.LEND, 2, 0, Sorts.LEND, 5, 0);
        for (int i = 0; i < 10; i++) Sorts.write(x, 0, Sorts.DROP, 4);
        Sorts.write(x, 0, Sorts.USE, 0, 1);
        Sorts.write(x, 2, Sorts.IF, Sorts.DROP, 0, Sorts.END, Sorts.IF, Sorts.USE, 0, 7, Sorts.END);
        Sorts.write(x, 5, Sorts.IF, Sorts.GIVE, 1, 0, Sorts.END, Sorts.IF, Sorts.USE, 3, 0, Sorts.END);
        dueWrongs("by ROUTINES", x, new int[] {0, 14, 3}, new int[] {2, 4, 1}, new int[] {2, 4, 3},
                new int[] {5, 1, 4}, new int[] {5, 4, 1});
        Sorts.write(x, 0, Sorts.MAKE, 2, 0);
        x.ends(0, 4);
        Sorts.write(x, 5, Sorts.IF, Sorts.MAKE, 2, 0, Sorts.END, Sorts.FAIL);
        dueWrongs("as the last STATEMENT of each", x, new int[] {0, 16, 5}, new int[] {5, 1, 4}, new int[] {5, 4, 1},
                new int[] {5, 10, 5});
    }

    /** "each once": two CASES and two ways come to the same one */
    private static void wrongEachOnce() {
        StateWear x = Sorts.withKind(2);
        Sorts.write(x, 0, Sorts.MAKE, 0, 0, Sorts.USE, 0, 0, Sorts.USE, 0, 1, Sorts.IF, Sorts.MAKE, 1, 0, Sorts.END);
        Sorts.write(x, 0, Sorts.IF, Sorts.LEND, 1, 0, Sorts.ELSE, Sorts.GIVE, 1, 0, Sorts.END);
        Sorts.write(x, 1, Sorts.IF, Sorts.USE, 1, 0, Sorts.END, Sorts.USE, 0, 1);
        dueWrongs("by four CASES", x, new int[] {1, 1, 1}, new int[] {1, 3, 3});
        due("CASES", x.count(3), 5);
        due("judge again", x.judge(), 0);
        due("they are not counted twice", x.count(2), 2);
    }

    private static void wrongAtTheFirstAndLastPlaces() {
        StateWear x = Sorts.withKind(6);
        Sorts.write(x, 0, Sorts.USE, 4, 0);
        dueWrongs("the first STATEMENT of the first ROUTINE", x, new int[] {0, 0, 1});
        x.cut(0);
        x.ends(0, 4);
        Sorts.write(x, 0, Sorts.MAKE, 0, 0);
        for (int r : new int[] {1, 4, 5}) {
            Sorts.write(x, 0, Sorts.IF, Sorts.LEND, r, 0, Sorts.END);
            Sorts.write(x, r, Sorts.MAKE, 4, 0);
            for (int i = 1; i < 23; i++) Sorts.write(x, r, Sorts.DROP, 3);
            Sorts.write(x, r, Sorts.NAME, 3, 4);
        }
        for (int i = 10; i < 24; i++) Sorts.write(x, 0, Sorts.DROP, 3);
        dueWrongs("behind the 24th STATEMENT", x, new int[] {0, 24, 5}, new int[] {1, 24, 5}, new int[] {4, 24, 5},
                new int[] {5, 24, 5});
        x.cut(5);
        Sorts.write(x, 5, Sorts.DROP, 4);
        x.cut(0);
        Sorts.write(x, 0, Sorts.USE, 1, 0);
        x.cut(1);
        Sorts.write(x, 1, Sorts.FAIL);
        dueWrongs("at the 24th STATEMENT", x, new int[] {0, 23, 1}, new int[] {1, 24, 5}, new int[] {4, 24, 5},
                new int[] {5, 23, 5});
    }

    private static void mayWhere() {
        EDGES.badOutside("may(n, 0, 0) of two", Samples::busy, 0, 1, (y, n) -> y.may(n, 0, 0));
        EDGES.badOutside("may(n, 0, 0) of six", Samples::full, 0, 5, (y, n) -> y.may(n, 0, 0));
        EDGES.badOutside("may(0, n, 0) of 8", Samples::busy, 0, 8, (y, n) -> y.may(0, n, 0));
        EDGES.badOutside("may(0, n, 0) of 24", Samples::full, 0, 24, (y, n) -> y.may(0, n, 0));
        EDGES.badOutside("may(5, n, 0) of none", Samples::full, 0, 0, (y, n) -> y.may(5, n, 0));
        EDGES.badOutside("may(0, 0, n)", Samples::busy, 0, 4, (y, n) -> y.may(0, 0, n));
        EDGES.badOutside("BAD before judge(): ROUTINE", Samples::fresh, 0, 0, (y, n) -> y.may(n, 0, 0));
        EDGES.badOutside("BAD before judge(): STATEMENT", Samples::fresh, 0, 1, (y, n) -> y.may(0, n, 0));
        EDGES.badOutside("BAD before judge(): VARIABLE", Samples::fresh, 0, 4, (y, n) -> y.may(0, 0, n));
        EDGES.changesNothing("of none", StateWear::new, y -> y.may(0, 0, 0), BAD);
        EDGES.changesNothing("before judge()", Samples::fresh, y -> y.may(0, 0, 4), 0);
        EDGES.changesNothing("before judge(), behind the last", Samples::fresh, y -> y.may(0, 1, 0), 0);
        EDGES.changesNothing("not called", Samples::full, y -> y.may(5, 0, 0), 0);
    }

    /** "behind the last one: as many as there are" */
    private static void mayBehindTheLast() {
        StateWear x = Samples.full();
        due("ahead of the first", x.may(0, 0, 0), NOTHING_NAMED);
        due("ahead of the last", x.may(0, 23, 0), GONE);
        due("behind the last", x.may(0, 24, 0), GONE);
        due("behind that", x.may(0, 25, 0), BAD);
        StateWear y = new StateWear();
        Samples.ring(y, 2);
        y.routine();
        for (int i = 0; i < 24; i++) {
            if (i == 0) Sorts.write(y, 0, Sorts.MAKE, 4, 0);
            else Sorts.write(y, 0, Sorts.USE, 4, 0);
            due("judge", y.judge(), 1);
            due("behind the last", y.may(0, i + 1, 4), 1 << i % 2);
            due("all that MAY BE", y.count(4), i + 2);
        }
    }

    /** "STATES as bits", "bit 6: GONE, bit 7: it names nothing", "in any CASE" */
    private static void mayAllBits() {
        StateWear x = new StateWear();
        Samples.ring(x, 6);
        x.routine();
        x.routine();
        Sorts.write(x, 0, Sorts.MAKE, 4, 0, Sorts.WHILE, Sorts.USE, 4, 0, Sorts.END);
        Sorts.write(x, 0, Sorts.IF, Sorts.GIVE, 1, 4, Sorts.ELSE, Sorts.IF, Sorts.DROP, 4, Sorts.END, Sorts.END);
        due("judge", x.judge(), 1);
        due("ahead of all", x.may(0, 0, 4), NOTHING_NAMED);
        due("made", x.may(0, 1, 4), 63);
        due("behind WHILE", x.may(0, 4, 4), 63);
        due("given", x.may(0, 6, 4), GONE);
        due("all", x.may(0, 11, 4), 255);
        due("another VARIABLE", x.may(0, 11, 3), NOTHING_NAMED);
        due("the given one in all its CASES", x.may(1, 0, 0), 63);
        due("CASES", x.count(3), 7);
        x.cut(0);
        x.cut(0);
        x.cut(0);
        x.cut(0);
        x.cut(0);
        Sorts.write(x, 0, Sorts.END, Sorts.MAKE, 4, 0);
        due("judge", x.judge(), 1);
        due("STATE 0 alone", x.may(0, 8, 4), 1);
    }

    private static void oneWhere() {
        EDGES.badOutside("one(n, 0, 0, 1) of two", Samples::busy, 0, 1, (y, n) -> y.one(n, 0, 0, 1));
        EDGES.badOutside("one(n, 0, 0, 1) of six", Samples::full, 0, 5, (y, n) -> y.one(n, 0, 0, 1));
        EDGES.badOutside("one(0, n, 0, 1) of 8", Samples::busy, 0, 8, (y, n) -> y.one(0, n, 0, 1));
        EDGES.badOutside("one(0, n, 0, 1) of 24", Samples::full, 0, 24, (y, n) -> y.one(0, n, 0, 1));
        EDGES.badOutside("one(0, 0, n, 1)", Samples::busy, 0, 4, (y, n) -> y.one(0, 0, n, 1));
        EDGES.badOutside("one(0, 0, 1, n)", Samples::busy, 0, 4, (y, n) -> y.one(0, 0, 1, n));
        EDGES.badOutside("one(0, 0, n, n)", Samples::busy, 0, 4, (y, n) -> y.one(0, 0, n, n));
        EDGES.badOutside("BAD before judge(): ROUTINE", Samples::fresh, 0, 0, (y, n) -> y.one(n, 0, 0, 1));
        EDGES.badOutside("BAD before judge(): STATEMENT", Samples::fresh, 0, 1, (y, n) -> y.one(0, n, 0, 1));
        EDGES.badOutside("BAD before judge(): VARIABLE", Samples::fresh, 0, 4, (y, n) -> y.one(0, 0, n, 1));
        EDGES.badOutside("BAD before judge(): the other", Samples::fresh, 0, 4, (y, n) -> y.one(0, 0, 0, n));
        EDGES.changesNothing("of none", StateWear::new, y -> y.one(0, 0, 0, 1), BAD);
        EDGES.changesNothing("before judge()", Samples::fresh, y -> y.one(0, 0, 3, 4), NONE);
        EDGES.changesNothing("not called", Samples::full, y -> y.one(5, 0, 0, 4), NONE);
    }

    /** "0 never, 1 in some that MAY BE, 2 in all. NONE: nothing MAY BE there." */
    private static void oneHowOften() {
        StateWear x = new StateWear();
        Samples.ring(x, 2);
        x.routine();
        Sorts.write(x, 0, Sorts.MAKE, 0, 0, Sorts.MAKE, 4, 0, Sorts.IF, Sorts.NAME, 4, 0, Sorts.END);
        Sorts.write(x, 0, Sorts.DROP, 0, Sorts.NAME, 0, 4, Sorts.LEAVE, Sorts.DROP, 1);
        due("judge", x.judge(), 1);
        due("both name nothing", x.one(0, 0, 0, 4), 0);
        due("one names nothing", x.one(0, 1, 0, 4), 0);
        due("the other names nothing", x.one(0, 1, 4, 0), 0);
        due("alike, but two THINGS", x.one(0, 2, 0, 4), 0);
        due("in all", x.one(0, 4, 0, 4), 2);
        due("in some", x.one(0, 5, 0, 4), 1);
        due("the other way round", x.one(0, 5, 4, 0), 1);
        due("it names nothing any more", x.one(0, 6, 0, 4), 0);
        due("in all again", x.one(0, 7, 4, 0), 2);
        due("nothing MAY BE", x.one(0, 8, 4, 0), NONE);
        due("behind the last", x.one(0, 9, 0, 4), 2);
        due("a VARIABLE and itself", x.one(0, 9, 4, 4), 2);
        due("the same where it names nothing", x.one(0, 9, 3, 3), 0);
        due("two ways MAY BE behind the END, one behind DROP", x.count(4), 5 + 2 + 1 + 1 + 0 + 1);
    }

    private static void paperOfWhich() {
        EDGES.badOutside("paper(n, ..) of two", Samples::busy, 0, 1, (y, n) -> y.paper(n, false, 0, 0));
        EDGES.badOutside("paper(n, ..) of six", Samples::full, 0, 5, (y, n) -> y.paper(n, true, 0, 0));
        EDGES.badOutside("KIND n of two", Samples::busy, 0, 1, (y, n) -> y.paper(1, false, n, 0));
        EDGES.badOutside("KIND n of six", Samples::full, 0, 5, (y, n) -> y.paper(1, true, n, 0));
        EDGES.badOutside("STATE n of 3", Samples::busy, 0, 2, (y, n) -> y.paper(1, false, 0, n));
        EDGES.badOutside("STATE n of 4", Samples::busy, 0, 3, (y, n) -> y.paper(1, true, 1, n));
        EDGES.badOutside("BAD before judge(): ROUTINE", Samples::fresh, 0, 0, (y, n) -> y.paper(n, false, 0, 0));
        EDGES.badOutside("BAD before judge(): KIND", Samples::fresh, 0, 0, (y, n) -> y.paper(0, false, n, 0));
        EDGES.badOutside("BAD before judge(): STATE", Samples::fresh, 0, 2, (y, n) -> y.paper(0, true, 0, n));
        EDGES.changesNothing("of none", StateWear::new, y -> y.paper(0, false, 0, 0), BAD);
        EDGES.changesNothing("before judge()", Samples::fresh, y -> y.paper(0, false, 0, 0), NONE);
        EDGES.changesNothing("not called in this STATE", Samples::busy, y -> y.paper(1, false, 0, 1), NONE);
        EDGES.changesNothing("not called with this KIND", Samples::busy, y -> y.paper(1, false, 1, 3), NONE);
        EDGES.changesNothing("called", Samples::busy, y -> y.paper(1, false, 0, 0), 3);
    }

    /** "STATES as bits in which what was lent MAY BE as it ends well", "8 places higher as it FAILS" */
    private static void paperAllStates() {
        StateWear x = new StateWear();
        Samples.ring(x, 6);
        x.routine();
        x.routine();
        Sorts.write(x, 0, Sorts.MAKE, 0, 0, Sorts.LEND, 1, 0);
        Sorts.write(x, 1, Sorts.WHILE, Sorts.USE, 0, 0, Sorts.END, Sorts.IF, Sorts.FAIL, Sorts.END);
        due("judge", x.judge(), 1);
        due("all", x.paper(1, false, 0, 0), 63 | 63 << 8);
        due("behind the call", x.may(0, 2, 0), 63);
        x.cut(1);
        x.cut(1);
        x.cut(1);
        due("judge", x.judge(), 1);
        due("well alone", x.paper(1, false, 0, 0), 63);
        Sorts.write(x, 1, Sorts.FAIL);
        due("judge", x.judge(), 1);
        due("FAILED alone", x.paper(1, false, 0, 0), 63 << 8);
        due("behind the call nothing", x.may(0, 2, 0), 0);
        for (int i = 0; i < 4; i++) x.cut(1);
        for (int i = 0; i < 5; i++) {
            Sorts.write(x, 1, Sorts.USE, 0, 0);
            due("judge", x.judge(), 1);
            due("one STATE", x.paper(1, false, 0, 0), 1 << i + 1);
        }
        Sorts.write(x, 1, Sorts.FAIL);
        due("judge", x.judge(), 1);
        due("the highest bit", x.paper(1, false, 0, 0), 1 << 13);
        x.cut(0);
        for (int i = 0; i < 5; i++) Sorts.write(x, 0, Sorts.USE, 0, 0);
        Sorts.write(x, 0, Sorts.LEND, 1, 0);
        due("judge", x.judge(), 1);
        due("called in the last STATE", x.paper(1, false, 0, 5), 1 << 12);
        due("not in the first any more", x.paper(1, false, 0, 0), NONE);
    }

    /** "given: bit 0 if it MAY" */
    private static void paperGiven() {
        StateWear x = new StateWear();
        Samples.ring(x, 6);
        x.routine();
        x.routine();
        Sorts.write(x, 0, Sorts.MAKE, 0, 0, Sorts.USE, 0, 0, Sorts.GIVE, 1, 0);
        Sorts.write(x, 1, Sorts.WHILE, Sorts.USE, 0, 0, Sorts.END, Sorts.IF, Sorts.FAIL, Sorts.END);
        due("judge", x.judge(), 1);
        due("both", x.paper(1, true, 0, 1), 1 | 1 << 8);
        due("it was not lent", x.paper(1, false, 0, 1), NONE);
        x.ends(0, 0);
        dueWrongs("LEFT on each way", x, new int[] {1, 6, 5});
        due("neither", x.paper(1, true, 0, 1), 0);
        x.ends(0, 8);
        dueWrongs("LEFT but in one STATE", x, new int[] {1, 6, 5});
        due("both by that", x.paper(1, true, 0, 1), 1 | 1 << 8);
        x.ends(0, 63);
        for (int i = 0; i < 3; i++) x.cut(1);
        due("judge", x.judge(), 1);
        due("well alone", x.paper(1, true, 0, 1), 1);
        Sorts.write(x, 1, Sorts.FAIL);
        due("judge", x.judge(), 1);
        due("FAILED alone", x.paper(1, true, 0, 1), 1 << 8);
    }

    /** "GIVEN: with nothing": whatever was lent to the one that gives */
    private static void paperGivenByOneThatWasLent() {
        StateWear x = new StateWear();
        Samples.ring(x, 6);
        for (int r = 0; r < 3; r++) x.routine();
        Sorts.write(x, 0, Sorts.MAKE, 0, 0, Sorts.WHILE, Sorts.USE, 0, 0, Sorts.END, Sorts.LEND, 1, 0);
        Sorts.write(x, 1, Sorts.MAKE, 1, 0, Sorts.GIVE, 2, 1);
        due("judge", x.judge(), 1);
        due("bit 0 alone", x.paper(2, true, 0, 0), 1);
        due("the beginning, six and one", x.count(3), 8);
        due("one place in ROUTINE 2", x.count(4), 1 + 4 * 6 + 6 + 6 * 3 + 1);
        Sorts.write(x, 0, Sorts.GIVE, 2, 0);
        Sorts.write(x, 2, Sorts.USE, 0, 0, Sorts.FAIL);
        due("judge", x.judge(), 1);
        for (int s = 0; s < 6; s++) due("bit 8 alone", x.paper(2, true, 0, s), s == 0 ? 1 << 8 : NONE);
        while (x.cut(0) > 1) due("cut", x.told(0, 0, 0), Sorts.MAKE);
        Sorts.write(x, 0, Sorts.USE, 0, 0, Sorts.LEND, 1, 0);
        due("judge", x.judge(), 1);
        due("lent in STATE 1 alone, but bit 8 as ever", x.paper(2, true, 0, 0), 1 << 8);
        due("and what was lent is in STATE 1", x.paper(1, false, 0, 1), 2 << 8);
    }

    private static void paperOfWhatNeverEnds() {
        for (int sort : new int[] {Sorts.LEND, Sorts.GIVE}) {
            StateWear x = Sorts.withKind(2);
            Sorts.write(x, 0, Sorts.MAKE, 0, 0, sort, 1, 0, Sorts.USE, 4, 0);
            Sorts.write(x, 1, sort, 1, 0);
            due("it calls itself for ever", x.judge(), 1);
            due("called, but it ends in no way", x.paper(1, sort == Sorts.GIVE, 0, 0), 0);
            due("behind the call nothing MAY BE", x.may(0, 2, 0), 0);
            due("nor behind its own", x.may(1, 1, 0), 0);
            due("CASES", x.count(3), 2);
            due("all that MAY BE", x.count(4), 3);
        }
        StateWear x = Sorts.withKind(2);
        Sorts.write(x, 0, Sorts.MAKE, 0, 0, Sorts.LEND, 1, 0);
        Sorts.write(x, 1, Sorts.USE, 4, 0);
        dueWrongs("it is WRONG", x, new int[] {1, 0, 1});
        due("it ends in no way", x.paper(1, false, 0, 0), 0);
    }

    /** 39 called CASES, each of which ends in all six STATES, well and FAILED. */
    private static void paperOfAllCasesInAllWays() {
        StateWear x = new StateWear();
        Samples.ring(x, 6);
        Samples.ring(x, 6);
        for (int r = 0; r < 6; r++) x.routine();
        Sorts.write(x, 0, Sorts.MAKE, 0, 0, Sorts.WHILE, Sorts.USE, 0, 0, Sorts.END);
        for (int r = 1; r < 6; r++) {
            Sorts.write(x, 0, Sorts.IF, Sorts.LEND, r, 0, Sorts.END);
            Sorts.write(x, r, Sorts.WHILE, Sorts.USE, 0, 0, Sorts.END, Sorts.IF, Sorts.FAIL, Sorts.END);
        }
        Sorts.write(x, 1, Sorts.MAKE, 0, 1, Sorts.WHILE, Sorts.USE, 0, 0, Sorts.END, Sorts.LEND, 2, 0);
        for (int r = 3; r < 6; r++) Sorts.write(x, 2, Sorts.MAKE, 1, 1, Sorts.LEND, r, 1);
        due("judge", x.judge(), 1);
        due("the beginning, and 30, 6, 3 called by ROUTINES 0, 1, 2", x.count(3), 40);
        for (int r = 1; r < 6; r++) {
            for (int s = 0; s < 6; s++) due("paper of " + r + " in " + s, x.paper(r, false, 0, s), 63 | 63 << 8);
        }
        for (int s = 0; s < 6; s++) due("KIND 1 in " + s, x.paper(2, false, 1, s), 63 | 63 << 8);
        for (int r = 3; r < 6; r++) due("KIND 1 in " + r, x.paper(r, false, 1, 0), 63 | 63 << 8);
        due("behind the last", x.may(0, 19, 0), 63);
    }

    /** A call of a CASE that is known to end already comes back in all its ways too. */
    private static void paperForLaterCallers() {
        StateWear x = new StateWear();
        Samples.ring(x, 6);
        x.routine();
        x.routine();
        Sorts.write(x, 0, Sorts.MAKE, 0, 0, Sorts.MAKE, 1, 0, Sorts.TRY, Sorts.TRY, Sorts.LEND, 1, 0, Sorts.LAST);
        for (int i = 0; i < 8; i++) Sorts.write(x, 0, Sorts.DROP, 4);
        Sorts.write(x, 0, Sorts.LEND, 1, 1, Sorts.END, Sorts.LAST, Sorts.END);
        Sorts.write(x, 1, Sorts.WHILE, Sorts.USE, 0, 0, Sorts.END, Sorts.IF, Sorts.FAIL, Sorts.END);
        due("judge", x.judge(), 1);
        due("CASES", x.count(3), 2);
        due("the first call's THING at the outer LAST", x.may(0, 16, 0), 63);
        due("the later call's THING at the outer LAST", x.may(0, 16, 1), 63);
        due("at the inner END", x.may(0, 15, 1), 63);
        Sorts.write(x, 1, Sorts.FAIL);
        due("judge", x.judge(), 1);
        due("FAILED alone", x.paper(1, false, 0, 0), 63 << 8);
        due("the later call comes to the outer LAST", x.may(0, 16, 1), 63);
        due("not to the inner END", x.may(0, 15, 1), 0);
    }

    /** "or ROUTINE 0 as the program begins": a CASE of its own */
    private static void paperOfTheBeginning() {
        StateWear x = Sorts.withKind(1);
        Sorts.write(x, 0, Sorts.IF, Sorts.MAKE, 1, 0, Sorts.LEND, 0, 1, Sorts.END);
        due("judge", x.judge(), 1);
        due("the beginning, and ROUTINE 0 by LEND", x.count(3), 2);
        due("called by itself", x.paper(0, false, 0, 0), 1);
        due("not given", x.paper(0, true, 0, 0), NONE);
        due("VARIABLE 0 in any CASE", x.may(0, 0, 0), NOTHING_NAMED | 1);
        due("VARIABLE 1 names nothing as it is called", x.may(0, 0, 1), NOTHING_NAMED);
        x.cut(0);
        x.cut(0);
        x.cut(0);
        x.cut(0);
        due("judge", x.judge(), 1);
        due("the beginning was not called", x.paper(0, false, 0, 0), NONE);
        due("nor given anything", x.paper(0, true, 0, 0), NONE);
    }

    private static void countWhich() {
        EDGES.badOutside("count(n)", Samples::busy, 0, 4, StateWear::count);
        EDGES.badOutside("count(n) of a new one", StateWear::new, 0, 4, StateWear::count);
        EDGES.badOutside("count(n) before judge()", Samples::fresh, 0, 4, StateWear::count);
    }

    /** "2 to 4: 0 before judge(), and SPENT" */
    private static void countBeforeAndAfter() {
        StateWear x = Samples.fresh();
        int[] before = {1, 1, 0, 0, 0};
        for (int what = 0; what < 5; what++) due("before: count " + what, x.count(what), before[what]);
        x.judge();
        int[] after = {1, 1, 0, 1, 2};
        for (int what = 0; what < 5; what++) due("after: count " + what, x.count(what), after[what]);
        x.kind(1, 1);
        x.routine();
        int[] later = {2, 2, 0, 1, 2};
        for (int what = 0; what < 5; what++) due("later: count " + what, x.count(what), later[what]);
        StateWear full = Samples.full();
        due("KINDS at most", full.count(0), 6);
        due("ROUTINES at most", full.count(1), 6);
        StateWear y = spent();
        int[] spent = {3, 2, 0, 0, 0};
        y.judge();
        for (int what = 0; what < 5; what++) due("SPENT: count " + what, y.count(what), spent[what]);
    }

    /** What MAY BE counts once, also where it is come to again behind hundreds of others. */
    private static void countEachOnce() {
        StateWear x = new StateWear();
        x.kind(6, 63);
        for (int s = 0; s < 6; s++) x.use(0, s, 0, (s + 1) % 6, s);
        x.routine();
        Sorts.write(x, 0, Sorts.WHILE);
        for (int v = 0; v < 3; v++) Sorts.write(x, 0, Sorts.MAKE, v, 0);
        for (int v = 0; v < 3; v++) {
            for (int i = 0; i < 4; i++) Sorts.write(x, 0, Sorts.USE, v, 0);
        }
        for (int v = 0; v < 3; v++) Sorts.write(x, 0, Sorts.DROP, v);
        Sorts.write(x, 0, Sorts.END);
        int used = (1 + 2 + 3 + 4) * (1 + 5 + 25);
        for (int round = 0; round < 2; round++) {
            due("judge", x.judge(), 1);
            due("WHILE, MAKE, USE, DROP, END and behind it", x.count(4), 1 + 3 + used + 125 + 25 + 5 + 1 + 1);
            due("ahead of WHILE nothing is named", x.may(0, 0, 0), NOTHING_NAMED);
        }
    }
}
