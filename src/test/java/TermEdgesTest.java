/** The sentences of "2 ROUTINES" and "3 A CASE" that name an edge, each seen by the judge and by a run. */
public final class TermEdgesTest {
    private static final int NONE = StateWear.NONE;
    private static final int NOTHING_NAMED = 128, GONE = 64;
    private static final Due DUE = new Due("TermEdgesTest");

    public static void main(String[] args) {
        madeInStateZero();
        usedByEachName();
        nothing();
        gone();
        goneAheadOfState();
        stateWithoutUse();
        stateAheadOfAnswers();
        lent();
        lentByEachName();
        leftByMake();
        leftByName();
        leftByDrop();
        leftAsItIsOver();
        leftAsItFailed();
        leftOfWhatWasGiven();
        leftNever();
        nameOfNothing();
        variablesOfACalledOne();
        lentComesBack();
        givenIsGoneByEachName();
        failedCallsChangeToo();
        elseAndEnd();
        whileAndLoop();
        lastOnEachWayOut();
        innermostTry();
        secondBlockGoesOnFromThere();
        leaveWithNoLastAnyMore();
        failsThroughCallers();
        leaveEndsOneRoutine();
        goesOnByWay();
        onlyInTheSecondBlock();
        lentStateWithoutName();
        kindsAreToldApart();
        casesByKindStateAndHow();
        kindOfWhatWasHandedOn();
        fiveThings();
        triesInSixBlocks();
        sixSecondBlocks();
        waysAreNotKeptFromBefore();
        cutsLeaveNothingBehind();
        DUE.end();
    }

    private static void due(String call, long got, long want) {
        DUE.due(call, got, want);
    }

    /** The judge finds this WRONG alone, and the run comes to it. */
    private static void dueWrong(String what, StateWear x, int routine, int place, int which) {
        due(what + ": judge", x.judge(), 0);
        due(what + ": WRONGS", x.count(2), 1);
        due(what + ": ROUTINE", x.wrong(0, 0), routine);
        due(what + ": STATEMENT", x.wrong(0, 1), place);
        due(what + ": which", x.wrong(0, 2), which);
        due(what + ": run", x.run(0, 0), which);
        due(what + ": run's ROUTINE", x.ended(1), routine);
        due(what + ": run's STATEMENT", x.ended(2), place);
        due(what + ": breaks", x.breaks(0), 1);
    }

    /** Nothing WRONG MAY be, and the run is over or FAILED. */
    private static void dueRight(String what, StateWear x, int run) {
        due(what + ": judge", x.judge(), 1);
        due(what + ": WRONGS", x.count(2), 0);
        due(what + ": run", x.run(0, 0), run);
        due(what + ": breaks", x.breaks(4), 0);
    }

    /** A KIND 0 of two STATES: 0 -0-> 1 -1-> 0, and so many ROUTINES. */
    private static StateWear door(int ends, int routines) {
        StateWear x = new StateWear();
        x.kind(2, ends);
        x.use(0, 0, 0, 1, NONE);
        x.use(0, 1, 1, 0, NONE);
        for (int r = 0; r < routines; r++) x.routine();
        return x;
    }

    private static StateWear program(int ends, int... words) {
        StateWear x = door(ends, 3);
        Sorts.write(x, 0, words);
        return x;
    }

    /** "VARIABLE a names a new THING of KIND b, in STATE 0" */
    private static void madeInStateZero() {
        for (int v = 0; v < 5; v++) {
            StateWear x = program(3, Sorts.MAKE, v, 0, Sorts.USE, v, 0, Sorts.MAKE, v, 0);
            dueRight("MAKE " + v, x, 0);
            due("made", x.may(0, 1, v), 1);
            due("used", x.may(0, 2, v), 2);
            due("made anew", x.may(0, 3, v), 1);
            due("another one", x.may(0, 3, (v + 1) % 5), NOTHING_NAMED);
        }
    }

    private static void usedByEachName() {
        for (int name = 0; name < 8; name++) {
            for (int sort : new int[] {Sorts.USE, Sorts.ASK, Sorts.LOOP}) {
                StateWear x = new StateWear();
                x.kind(2, 3);
                x.use(0, 0, name, 1, NONE);
                x.routine();
                Sorts.write(x, 0, Sorts.MAKE, 4, 0, sort, 4, name);
                if (sort != Sorts.USE) Sorts.write(x, 0, Sorts.DROP, 4, Sorts.MAKE, 4, 0, Sorts.END);
                dueRight("USED by " + name, x, 0);
                due("in STATE 1", x.may(0, 2, 4), 2);
                x.drop(0, 0, name);
                x.use(0, 0, (name + 1) % 8, 1, NONE);
                dueWrong("by another NAME", x, 0, 1, 3);
            }
        }
    }

    /** "1 NOTHING: USE, ASK, LOOP, LEND, GIVE of a VARIABLE that names nothing" */
    private static void nothing() {
        for (int sort : new int[] {Sorts.USE, Sorts.ASK, Sorts.LOOP, Sorts.LEND, Sorts.GIVE}) {
            for (int v = 0; v < 5; v++) {
                StateWear x = door(3, 2);
                boolean call = sort == Sorts.LEND || sort == Sorts.GIVE;
                for (int w = 0; w < 5; w++) Sorts.write(x, 0, Sorts.MAKE, w, 0);
                Sorts.write(x, 0, Sorts.DROP, v, sort, call ? 1 : v, call ? v : 0);
                if (sort == Sorts.ASK || sort == Sorts.LOOP) Sorts.write(x, 0, Sorts.END);
                dueWrong("nothing in " + v + " by " + sort, x, 0, 6, 1);
                due("it ends there", x.may(0, 7, 0), 0);
                due("no ANSWER is asked", x.ended(3), 0);
                due("it is done", x.ended(4), 7);
                due("nothing was called", x.count(3), 1);
            }
        }
        dueRight("NAME and DROP may have nothing", program(0, Sorts.NAME, 0, 1, Sorts.DROP, 0, Sorts.NAME, 0, 0), 0);
    }

    /** "2 GONE: of a THING that is GONE" */
    private static void gone() {
        for (int sort : new int[] {Sorts.USE, Sorts.ASK, Sorts.LOOP, Sorts.LEND, Sorts.GIVE}) {
            boolean call = sort == Sorts.LEND || sort == Sorts.GIVE;
            StateWear x = program(3, Sorts.MAKE, 2, 0, Sorts.GIVE, 1, 2, sort, call ? 1 : 2, call ? 2 : 0);
            if (sort == Sorts.ASK || sort == Sorts.LOOP) Sorts.write(x, 0, Sorts.END);
            dueWrong("gone by " + sort, x, 0, 2, 2);
            due("gone", x.may(0, 2, 2), GONE);
            due("it ends there", x.may(0, 3, 2), 0);
        }
        dueRight("NAME, DROP, MAKE may have what is GONE", program(1, Sorts.MAKE, 0, 0, Sorts.GIVE, 1, 0, Sorts.NAME, 1, 0,
                Sorts.DROP, 0, Sorts.MAKE, 1, 0), 0);
    }

    private static void goneAheadOfState() {
        StateWear x = program(3, Sorts.MAKE, 0, 0, Sorts.GIVE, 1, 0, Sorts.USE, 0, 7);
        dueWrong("no such USE, but it is GONE", x, 0, 2, 2);
    }

    /** "3 STATE: its STATE has no such USE" */
    private static void stateWithoutUse() {
        for (int sort : new int[] {Sorts.USE, Sorts.ASK, Sorts.LOOP}) {
            StateWear x = program(3, Sorts.MAKE, 3, 0, sort, 3, 1);
            if (sort != Sorts.USE) Sorts.write(x, 0, Sorts.END);
            dueWrong("state by " + sort, x, 0, 1, 3);
            due("it ends there", x.may(0, 2, 3), 0);
            due("no ANSWER is asked", x.ended(3), 0);
        }
        dueRight("in the other STATE it has", program(3, Sorts.MAKE, 3, 0, Sorts.USE, 3, 0, Sorts.USE, 3, 1), 0);
        StateWear x = new StateWear();
        x.kind(1, 1);
        x.routine();
        x.routine();
        Sorts.write(x, 0, Sorts.MAKE, 0, 0, Sorts.LEND, 1, 0, Sorts.GIVE, 1, 0);
        dueRight("calls use nothing", x, 0);
    }

    private static void stateAheadOfAnswers() {
        StateWear x = new StateWear();
        x.kind(3, 7);
        x.use(0, 0, 0, 1, 2);
        x.use(0, 2, 1, 0, NONE);
        x.routine();
        Sorts.write(x, 0, Sorts.MAKE, 0, 0, Sorts.USE, 0, 0, Sorts.USE, 0, 1);
        due("by yes alone", x.judge(), 0);
        due("the run by no", x.run(0, 1), 0);
        due("the run by yes", x.run(1, 1), 3);
        due("breaks by yes", x.breaks(1), 3);
        due("WRONG in STATE 1, on in STATE 2", x.may(0, 2, 0) * 10 + x.may(0, 3, 0), 61);
    }

    /** "4 LENT: GIVE of a THING that was lent to this ROUTINE" */
    private static void lent() {
        StateWear x = program(3, Sorts.MAKE, 0, 0, Sorts.LEND, 1, 0);
        Sorts.write(x, 1, Sorts.GIVE, 2, 0);
        dueWrong("lent", x, 1, 0, 4);
        due("it was not given", x.paper(2, true, 0, 0), NONE);
        x.cut(1);
        Sorts.write(x, 1, Sorts.LEND, 2, 0);
        Sorts.write(x, 2, Sorts.GIVE, 1, 0);
        dueWrong("lent on", x, 2, 0, 4);
        x.cut(2);
        dueRight("lent on may be", x, 0);
        x.cut(0);
        Sorts.write(x, 0, Sorts.GIVE, 1, 0);
        Sorts.write(x, 1, Sorts.GIVE, 2, 0);
        dueRight("what was given, lent and came back may be given", x, 0);
        due("by the last one", x.paper(2, true, 0, 0), 1);
    }

    private static void lentByEachName() {
        for (int v = 1; v < 5; v++) {
            StateWear x = program(3, Sorts.MAKE, 0, 0, Sorts.LEND, 1, 0);
            Sorts.write(x, 1, Sorts.NAME, v, 0, Sorts.DROP, 0, Sorts.USE, v, 0, Sorts.GIVE, 2, v);
            dueWrong("by another name", x, 1, 3, 4);
            for (int i = 0; i < 4; i++) x.cut(1);
            Sorts.write(x, 1, Sorts.MAKE, v, 0, Sorts.GIVE, 2, v);
            dueRight("one made in it may be given", x, 0);
        }
    }

    /** "5 LEFT: .. by MAKE, NAME, DROP (at these)" */
    private static void leftByMake() {
        for (int v = 0; v < 5; v++) {
            dueWrong("MAKE over it", program(2, Sorts.MAKE, v, 0, Sorts.MAKE, v, 0, Sorts.USE, v, 0), 0, 1, 5);
            StateWear x = program(2, Sorts.MAKE, v, 0, Sorts.NAME, (v + 1) % 5, v, Sorts.MAKE, v, 0);
            Sorts.write(x, 0, Sorts.USE, v, 0, Sorts.USE, (v + 1) % 5, 0);
            dueRight("named by another one", x, 0);
        }
        dueRight("in an END", program(3, Sorts.MAKE, 0, 0, Sorts.MAKE, 0, 0), 0);
    }

    private static void leftByName() {
        dueWrong("NAME nothing", program(2, Sorts.MAKE, 0, 0, Sorts.NAME, 0, 1, Sorts.DROP, 4), 0, 1, 5);
        dueWrong("NAME another THING", program(2, Sorts.MAKE, 0, 0, Sorts.MAKE, 1, 0, Sorts.NAME, 0, 1), 0, 2, 5);
        dueRight("NAME itself", program(2, Sorts.MAKE, 0, 0, Sorts.NAME, 0, 0, Sorts.USE, 0, 0), 0);
        dueRight("NAME the same THING", program(2, Sorts.MAKE, 0, 0, Sorts.NAME, 1, 0, Sorts.NAME, 0, 1, Sorts.NAME, 1, 2,
                Sorts.USE, 0, 0), 0);
        dueRight("in an END", program(3, Sorts.MAKE, 0, 0, Sorts.NAME, 0, 1), 0);
    }

    private static void leftByDrop() {
        dueWrong("DROP", program(2, Sorts.MAKE, 4, 0, Sorts.DROP, 4, Sorts.DROP, 0), 0, 1, 5);
        dueWrong("DROP the last of five names", program(2, Sorts.MAKE, 0, 0, Sorts.NAME, 1, 0, Sorts.NAME, 2, 0, Sorts.NAME,
                3, 0, Sorts.NAME, 4, 0, Sorts.DROP, 0, Sorts.DROP, 1, Sorts.DROP, 2, Sorts.DROP, 3, Sorts.DROP, 4), 0, 9, 5);
        dueRight("in an END", program(2, Sorts.MAKE, 4, 0, Sorts.USE, 4, 0, Sorts.DROP, 4), 0);
        dueWrong("in an END no more", program(2, Sorts.MAKE, 4, 0, Sorts.USE, 4, 0, Sorts.USE, 4, 1, Sorts.DROP, 4), 0, 3, 5);
    }

    /** "or as the ROUTINE is over (at the place behind its last STATEMENT)" */
    private static void leftAsItIsOver() {
        for (int v = 0; v < 5; v++) dueWrong("behind the last", program(2, Sorts.MAKE, v, 0), 0, 1, 5);
        dueWrong("by LEAVE", program(2, Sorts.MAKE, 0, 0, Sorts.LEAVE, Sorts.USE, 0, 0), 0, 3, 5);
        StateWear x = program(2, Sorts.LEAVE);
        due("judge", x.judge(), 1);
        x.cut(0);
        Sorts.write(x, 0, Sorts.MAKE, 0, 0, Sorts.USE, 0, 0, Sorts.LEND, 1, 0);
        Sorts.write(x, 1, Sorts.MAKE, 1, 0);
        dueWrong("in a called one", x, 1, 1, 5);
        due("it ends in no way", x.paper(1, false, 0, 1), 0);
        due("behind its last it MAY BE", x.may(1, 1, 1), 1);
        due("and not behind the call", x.may(0, 3, 0), 0);
    }

    /** "or FAILED (at the place behind its last STATEMENT, for each such way)" */
    private static void leftAsItFailed() {
        StateWear x = program(2, Sorts.MAKE, 0, 0, Sorts.FAIL, Sorts.USE, 0, 0, Sorts.DROP, 0);
        dueWrong("by FAIL", x, 0, 4, 5);
        due("what FAILS comes to no place", x.may(0, 4, 0), 0);
        StateWear y = program(2, Sorts.MAKE, 0, 0, Sorts.LEND, 1, 0, Sorts.USE, 0, 0);
        Sorts.write(y, 1, Sorts.FAIL);
        dueWrong("by a call that FAILED", y, 0, 3, 5);
        StateWear z = program(2, Sorts.MAKE, 0, 0, Sorts.TRY, Sorts.FAIL, Sorts.LAST, Sorts.USE, 0, 0, Sorts.END);
        dueRight("the second block brings it to an END", z, 6);
        StateWear both = program(2, Sorts.MAKE, 0, 0, Sorts.IF, Sorts.FAIL, Sorts.END);
        dueWrong("as it FAILED and as it is over: once", both, 0, 4, 5);
    }

    private static void leftOfWhatWasGiven() {
        StateWear x = program(2, Sorts.MAKE, 0, 0, Sorts.GIVE, 1, 0);
        dueWrong("as the given one is over", x, 1, 0, 5);
        Sorts.write(x, 1, Sorts.DROP, 0);
        dueWrong("by DROP in the given one", x, 1, 0, 5);
        x.cut(1);
        Sorts.write(x, 1, Sorts.USE, 0, 0);
        dueRight("brought to an END there", x, 0);
        due("GONE is not LEFT", x.may(0, 2, 0), GONE);
    }

    private static void leftNever() {
        StateWear x = program(2, Sorts.MAKE, 0, 0, Sorts.LEND, 1, 0, Sorts.USE, 0, 0);
        Sorts.write(x, 1, Sorts.DROP, 0);
        dueRight("what was lent is not its own", x, 0);
        Sorts.write(x, 1, Sorts.FAIL);
        x.cut(0);
        x.cut(0);
        Sorts.write(x, 0, Sorts.TRY, Sorts.LEND, 1, 0, Sorts.LAST, Sorts.USE, 0, 0, Sorts.END);
        dueRight("nor as it FAILED", x, 6);
    }

    /** "NAME a b: a names what b names (also nothing)" */
    private static void nameOfNothing() {
        StateWear x = program(3, Sorts.MAKE, 0, 0, Sorts.NAME, 0, 4, Sorts.NAME, 3, 3);
        dueRight("NAME nothing", x, 0);
        due("it names nothing", x.may(0, 2, 0), NOTHING_NAMED);
        StateWear y = program(3, Sorts.MAKE, 0, 0, Sorts.NAME, 4, 0, Sorts.USE, 4, 0, Sorts.DROP, 0);
        dueRight("NAME", y, 0);
        due("one THING", y.one(0, 2, 0, 4), 2);
        due("USED by the one, seen by the other", y.may(0, 3, 0), 2);
        due("it stays for the other", y.may(0, 4, 4), 2);
    }

    /** "of one that is called VARIABLES 1 .. 4 name nothing", "ROUTINE 0, whose VARIABLES name nothing" */
    private static void variablesOfACalledOne() {
        for (int sort : new int[] {Sorts.LEND, Sorts.GIVE}) {
            StateWear x = door(3, 2);
            for (int v = 0; v < 5; v++) {
                Sorts.write(x, 0, Sorts.MAKE, v, 0);
                if (v == 4) Sorts.write(x, 0, Sorts.USE, v, 0);
            }
            Sorts.write(x, 0, sort, 1, 4);
            Sorts.write(x, 1, Sorts.MAKE, 1, 0, Sorts.USE, 0, 1);
            dueRight("called by " + sort, x, 0);
            for (int v = 0; v < 5; v++) due("at the beginning", x.may(0, 0, v), NOTHING_NAMED);
            due("VARIABLE 0 of the called one", x.may(1, 0, 0), 2);
            for (int v = 1; v < 5; v++) due("as it is called", x.may(1, 0, v), NOTHING_NAMED);
            for (int v = 0; v < 4; v++) due("the caller's are as before", x.may(0, 7, v), 1);
            due("but for the one", x.may(0, 7, 4), sort == Sorts.LEND ? 1 : GONE);
        }
    }

    private static void lentComesBack() {
        StateWear x = program(3, Sorts.MAKE, 0, 0, Sorts.NAME, 1, 0, Sorts.LEND, 1, 1, Sorts.USE, 0, 1);
        Sorts.write(x, 1, Sorts.LEND, 2, 0);
        Sorts.write(x, 2, Sorts.USE, 0, 0);
        dueRight("USED two calls deep", x, 0);
        due("seen by each name", x.may(0, 3, 0) * 10 + x.may(0, 3, 1), 22);
        due("the paper", x.paper(1, false, 0, 0), 2);
        x.cut(2);
        dueWrong("not USED", x, 0, 3, 3);
    }

    /** "the THING is that ROUTINE's then, and GONE for the caller" */
    private static void givenIsGoneByEachName() {
        StateWear x = program(3, Sorts.MAKE, 0, 0, Sorts.NAME, 4, 0, Sorts.MAKE, 1, 0, Sorts.GIVE, 1, 4);
        dueRight("GIVE", x, 0);
        due("by the name given", x.may(0, 4, 4), GONE);
        due("by the other name", x.may(0, 4, 0), GONE);
        due("not another THING", x.may(0, 4, 1), 1);
        due("still one", x.one(0, 4, 0, 4), 2);
        Sorts.write(x, 0, Sorts.USE, 0, 0);
        dueWrong("by the other name", x, 0, 4, 2);
    }

    /** "and a call whose ROUTINE FAILED": what was lent is as it was then, what was given is GONE */
    private static void failedCallsChangeToo() {
        StateWear x = program(3, Sorts.MAKE, 0, 0, Sorts.TRY, Sorts.LEND, 1, 0, Sorts.DROP, 0, Sorts.LAST, Sorts.USE, 0, 1,
                Sorts.END, Sorts.DROP, 4);
        Sorts.write(x, 1, Sorts.USE, 0, 0, Sorts.FAIL);
        dueRight("lent", x, 6);
        due("behind the call nothing", x.may(0, 3, 0), 0);
        due("at LAST", x.may(0, 4, 0), 2);
        due("at END", x.may(0, 6, 0), 1);
        due("behind END nothing", x.may(0, 7, 0), 0);
        StateWear y = program(3, Sorts.MAKE, 0, 0, Sorts.TRY, Sorts.GIVE, 1, 0, Sorts.LAST, Sorts.USE, 0, 0, Sorts.END);
        Sorts.write(y, 1, Sorts.FAIL);
        dueWrong("given", y, 0, 4, 2);
    }

    /** "behind a no that behind the ELSE, or, without one, that behind the END. An ELSE .. goes on behind the END" */
    private static void elseAndEnd() {
        StateWear x = program(3, Sorts.IF, Sorts.MAKE, 0, 0, Sorts.ELSE, Sorts.MAKE, 1, 0, Sorts.END, Sorts.IF, Sorts.MAKE, 2,
                0, Sorts.END);
        dueRight("IF", x, 0);
        due("at ELSE: by yes", x.may(0, 2, 0), 1);
        due("behind ELSE: by no", x.may(0, 3, 0), NOTHING_NAMED);
        due("at END: by no", x.may(0, 4, 0), NOTHING_NAMED);
        due("behind END", x.may(0, 5, 0), NOTHING_NAMED | 1);
        due("the END without ELSE: by yes", x.may(0, 7, 2), 1);
        due("behind it", x.may(0, 8, 2), NOTHING_NAMED | 1);
        due("all that MAY BE", x.count(4), 1 + 1 + 1 + 1 + 1 + 2 + 2 + 2 + 4);
    }

    /** "the END of WHILE, LOOP at these" */
    private static void whileAndLoop() {
        StateWear x = program(3, Sorts.WHILE, Sorts.MAKE, 0, 0, Sorts.END, Sorts.DROP, 0);
        dueRight("WHILE", x, 0);
        due("ahead of WHILE again", x.may(0, 0, 0), NOTHING_NAMED | 1);
        due("at END", x.may(0, 2, 0), 1);
        due("behind END", x.may(0, 3, 0), NOTHING_NAMED | 1);
        StateWear y = new StateWear();
        y.kind(3, 7);
        y.use(0, 0, 0, 1, 2);
        y.use(0, 1, 0, 0, 0);
        y.routine();
        Sorts.write(y, 0, Sorts.MAKE, 0, 0, Sorts.LOOP, 0, 0, Sorts.END);
        dueRight("LOOP", y, 0);
        due("ahead of LOOP", y.may(0, 1, 0), 3);
        due("by yes", y.may(0, 2, 0), 3);
        due("by no", y.may(0, 3, 0), 5);
        due("run by yes", y.run(7, 3), 0);
        due("ANSWERS", y.ended(3), 4);
        due("STATEMENTS", y.ended(4), 1 + 3 * 2 + 1);
    }

    /** "the second one is done on each way out of the first" */
    private static void lastOnEachWayOut() {
        int[] ways = {Sorts.TRY, Sorts.LEAVE, Sorts.FAIL};
        for (int way : ways) {
            StateWear x = door(2, 1);
            Sorts.write(x, 0, Sorts.MAKE, 0, 0, Sorts.TRY);
            if (way == Sorts.TRY) Sorts.write(x, 0, Sorts.DROP, 4);
            else Sorts.write(x, 0, way);
            Sorts.write(x, 0, Sorts.LAST, Sorts.USE, 0, 0, Sorts.END, Sorts.DROP, 4);
            dueRight("way " + way, x, way == Sorts.FAIL ? 6 : 0);
            due("at LAST", x.may(0, 3, 0), 1);
            due("at END", x.may(0, 5, 0), 2);
            due("behind END", x.may(0, 6, 0), way == Sorts.TRY ? 2 : 0);
            due("behind the last", x.may(0, 7, 0), way == Sorts.FAIL ? 0 : 2);
            due("STATEMENTS", x.ended(4), way == Sorts.TRY ? 7 : 6);
        }
    }

    /** "go to the LAST of the innermost TRY in whose first block they stand, and FAIL on at its END" */
    private static void innermostTry() {
        for (int way : new int[] {Sorts.LEAVE, Sorts.FAIL}) {
            StateWear x = program(3, Sorts.MAKE, 0, 0, Sorts.TRY, Sorts.IF, Sorts.ELSE, Sorts.TRY, way, Sorts.LAST, Sorts.USE,
                    0, 0, Sorts.END, Sorts.END, Sorts.LAST, Sorts.USE, 0, 1, Sorts.END);
            due("judge", x.judge(), 0);
            due("run", x.run(0, 1), way == Sorts.FAIL ? 6 : 0);
            due("MAKE TRY IF TRY way LAST USE END LAST USE END", x.ended(4), 11);
            due("the inner LAST", x.may(0, 6, 0), 1);
            due("the outer LAST by both ways", x.may(0, 10, 0), 3);
            due("the inner IF's END is not come to", x.may(0, 9, 0), 0);
            due("by yes the outer USE is WRONG", x.wrong(0, 1), 11);
        }
        StateWear z = program(3, Sorts.TRY, Sorts.LAST, Sorts.END, Sorts.FAIL);
        dueRight("behind the END of a TRY", z, 6);
        due("LAST is not come to again", z.ended(4), 4);
    }

    /** "FAIL, LEAVE in a second block go on from there, and what was to be done behind it is forgotten" */
    private static void secondBlockGoesOnFromThere() {
        for (int first : new int[] {Sorts.DROP, Sorts.LEAVE, Sorts.FAIL}) {
            for (int second : new int[] {Sorts.DROP, Sorts.LEAVE, Sorts.FAIL}) {
                StateWear x = door(3, 1);
                Sorts.write(x, 0, Sorts.TRY, Sorts.TRY);
                x.statement(0, first, 0, 0);
                Sorts.write(x, 0, Sorts.LAST);
                x.statement(0, second, 0, 0);
                Sorts.write(x, 0, Sorts.END, Sorts.DROP, 1, Sorts.LAST, Sorts.DROP, 2, Sorts.END, Sorts.DROP, 3);
                int way = second != Sorts.DROP ? second : first;
                dueRight("first " + first + ", second " + second, x, way == Sorts.FAIL ? 6 : 0);
                int done = 8 + (second == Sorts.DROP ? 1 : 0) + (way == Sorts.DROP ? 2 : 0);
                due("STATEMENTS", x.ended(4), done);
                due("at the inner END", x.may(0, 5, 0), second == Sorts.DROP ? NOTHING_NAMED : 0);
                due("behind the inner END", x.may(0, 6, 0), way == Sorts.DROP ? NOTHING_NAMED : 0);
                due("at the outer LAST", x.may(0, 7, 0), NOTHING_NAMED);
                due("behind the outer END", x.may(0, 10, 0), way == Sorts.DROP ? NOTHING_NAMED : 0);
                due("behind the last", x.may(0, 11, 0), way == Sorts.FAIL ? 0 : NOTHING_NAMED);
            }
        }
    }

    /** "LEAVE, if there is no such LAST (any more), to the place behind the last STATEMENT" */
    private static void leaveWithNoLastAnyMore() {
        StateWear x = program(3, Sorts.LEAVE, Sorts.DROP, 0);
        dueRight("none at all", x, 0);
        due("behind it", x.may(0, 1, 0), 0);
        due("behind the last", x.may(0, 2, 0), NOTHING_NAMED);
        StateWear y = program(3, Sorts.TRY, Sorts.LAST, Sorts.LEAVE, Sorts.END, Sorts.DROP, 0);
        dueRight("in the second block", y, 0);
        due("TRY LAST LEAVE", y.ended(4), 3);
        due("at END", y.may(0, 3, 0), 0);
        due("behind the last", y.may(0, 5, 0), NOTHING_NAMED);
        StateWear z = program(3, Sorts.WHILE, Sorts.LEAVE, Sorts.END, Sorts.DROP, 0);
        due("judge", z.judge(), 1);
        due("out of a WHILE", z.run(1, 1), 0);
        due("WHILE LEAVE", z.ended(4), 2);
    }

    /** "if there is none the ROUTINE FAILED", and so its callers */
    private static void failsThroughCallers() {
        StateWear x = program(3, Sorts.MAKE, 0, 0, Sorts.TRY, Sorts.LEND, 1, 0, Sorts.LAST, Sorts.USE, 0, 0, Sorts.END,
                Sorts.DROP, 4);
        Sorts.write(x, 1, Sorts.LEND, 2, 0, Sorts.DROP, 4);
        Sorts.write(x, 2, Sorts.FAIL, Sorts.DROP, 4);
        dueRight("two calls deep", x, 6);
        due("paper of the inner one", x.paper(2, false, 0, 0), 1 << 8);
        due("paper of the outer one", x.paper(1, false, 0, 0), 1 << 8);
        due("behind the call", x.may(1, 1, 0), 0);
        due("MAKE TRY LEND LEND FAIL LAST USE END", x.ended(4), 8);
        Sorts.write(x, 0, Sorts.DROP, 4);
        x.cut(1);
        x.cut(1);
        Sorts.write(x, 1, Sorts.TRY, Sorts.LEND, 2, 0, Sorts.LAST, Sorts.LEAVE, Sorts.END);
        dueRight("forgotten on the way", x, 0);
        due("paper of the outer one", x.paper(1, false, 0, 0), 1);
    }

    private static void leaveEndsOneRoutine() {
        StateWear x = program(3, Sorts.MAKE, 0, 0, Sorts.TRY, Sorts.LEND, 1, 0, Sorts.LAST, Sorts.END, Sorts.USE, 0, 0);
        Sorts.write(x, 1, Sorts.LEAVE, Sorts.DROP, 0);
        dueRight("the caller goes on", x, 0);
        due("behind the END", x.may(0, 5, 0), 1);
        due("ended well", x.paper(1, false, 0, 0), 1);
        due("MAKE TRY LEND LEAVE LAST END USE", x.ended(4), 7);
    }

    /** "for each TRY in whose second block the place stands (its LAST, its END, too), how that goes on" */
    private static void goesOnByWay() {
        StateWear x = program(3, Sorts.TRY, Sorts.IF, Sorts.LEAVE, Sorts.END, Sorts.IF, Sorts.FAIL, Sorts.END, Sorts.LAST,
                Sorts.DROP, 0, Sorts.END);
        dueRight("three ways", x, 0);
        due("seven places but two, three at each of three, one behind", x.count(4), 5 + 3 * 3 + 1);
        StateWear y = program(3, Sorts.TRY, Sorts.IF, Sorts.FAIL, Sorts.END, Sorts.LAST, Sorts.TRY, Sorts.IF, Sorts.LEAVE,
                Sorts.END, Sorts.LAST, Sorts.END, Sorts.END);
        dueRight("two by two ways", y, 0);
        due("ways of both", y.count(4), 3 + 2 + 2 + 2 + 2 + 4 + 4 + 2 + 1);
    }

    private static void onlyInTheSecondBlock() {
        StateWear x = program(3, Sorts.WHILE, Sorts.TRY, Sorts.LAST, Sorts.END, Sorts.END, Sorts.TRY, Sorts.IF, Sorts.LEAVE,
                Sorts.END, Sorts.LAST, Sorts.IF, Sorts.TRY, Sorts.LAST, Sorts.END, Sorts.END, Sorts.END);
        dueRight("a TRY again and again, one in a second block", x, 0);
        due("one at each place, two from the second LAST on", x.count(4), 8 + 0 + 2 * 7 + 1);
    }

    /** "of what was lent its STATE, also where no VARIABLE names it" */
    private static void lentStateWithoutName() {
        StateWear x = program(3, Sorts.MAKE, 0, 0, Sorts.LEND, 1, 0);
        Sorts.write(x, 1, Sorts.IF, Sorts.USE, 0, 0, Sorts.END, Sorts.DROP, 0, Sorts.DROP, 1);
        dueRight("lent and DROPPED", x, 0);
        due("two STATES at four places", x.count(4), 2 + 2 + 3 + 2 + 2 + 2);
        due("it names nothing", x.may(1, 5, 0), NOTHING_NAMED);
        due("but the paper knows", x.paper(1, false, 0, 0), 3);
        StateWear y = program(3, Sorts.MAKE, 0, 0, Sorts.GIVE, 1, 0);
        Sorts.write(y, 1, Sorts.IF, Sorts.USE, 0, 0, Sorts.END, Sorts.DROP, 0, Sorts.DROP, 1);
        dueRight("given and DROPPED", y, 0);
        due("one behind the DROP", y.count(4), 3 + 3 + 2 + 1 + 1);
        StateWear z = program(3, Sorts.MAKE, 0, 0, Sorts.LEND, 1, 0);
        Sorts.write(z, 1, Sorts.IF, Sorts.MAKE, 0, 0, Sorts.END);
        dueRight("one's own is another than what was lent, though alike", z, 0);
        due("two behind the END", z.count(4), 3 + 3 + 2);
        due("in STATE 0", z.may(1, 3, 0), 1);
    }

    /** "of each its KIND, its STATE or that it is GONE" */
    private static void kindsAreToldApart() {
        StateWear x = door(3, 2);
        x.heir(0, 0);
        Sorts.write(x, 0, Sorts.IF, Sorts.MAKE, 0, 0, Sorts.ELSE, Sorts.MAKE, 0, 1, Sorts.END, Sorts.GIVE, 1, 0);
        dueRight("two KINDS", x, 0);
        due("given in two CASES", x.count(3), 3);
        due("two behind the END, and two where they are GONE", x.count(4), 5 + 2 + 2 + 2);
        due("a bit for both", x.may(0, 5, 0), 1);
        due("GONE", x.may(0, 6, 0), GONE);
        due("each its paper", x.paper(1, true, 0, 0) * 10 + x.paper(1, true, 1, 0), 11);
    }

    /** "called by LEND or by GIVE, with a THING of a KIND in a STATE" */
    private static void casesByKindStateAndHow() {
        StateWear x = program(3, Sorts.MAKE, 0, 0, Sorts.LEND, 1, 0, Sorts.LEND, 1, 0, Sorts.LEND, 2, 0, Sorts.USE, 0, 0,
                Sorts.LEND, 1, 0, Sorts.GIVE, 1, 0);
        dueRight("calls", x, 0);
        due("the beginning, (1, 0), (2, 0), (1, 1), (1, 1) given", x.count(3), 5);
        due("(1, 0)", x.paper(1, false, 0, 0), 1);
        due("(2, 0)", x.paper(2, false, 0, 0), 1);
        due("(1, 1)", x.paper(1, false, 0, 1), 2);
        due("(1, 1) given", x.paper(1, true, 0, 1), 1);
        due("(2, 1)", x.paper(2, false, 0, 1), NONE);
        due("(1, 0) given", x.paper(1, true, 0, 0), NONE);
    }

    /** A THING that is lent or given keeps its KIND: KIND 5 has another USE, and another END, than KIND 0. */
    private static void kindOfWhatWasHandedOn() {
        for (int sort : new int[] {Sorts.LEND, Sorts.GIVE}) {
            StateWear x = door(1, 3);
            for (int k = 1; k < 6; k++) x.kind(2, 2);
            x.use(5, 0, 7, 1, NONE);
            Sorts.write(x, 0, Sorts.MAKE, 3, 5, sort, 1, 3, Sorts.MAKE, 3, 0);
            Sorts.write(x, 1, Sorts.LEND, 2, 0);
            Sorts.write(x, 2, Sorts.NAME, 1, 0, Sorts.USE, 1, 7, Sorts.DROP, 1);
            dueRight("KIND 5 by " + sort, x, 0);
            due("called with KIND 5", x.paper(1, sort == Sorts.GIVE, 5, 0), sort == Sorts.GIVE ? 1 : 2);
            due("lent on with KIND 5", x.paper(2, false, 5, 0), 2);
            due("not with KIND 0", x.paper(2, false, 0, 0), NONE);
            x.cut(2);
            x.cut(2);
            Sorts.write(x, 2, Sorts.USE, 1, 0);
            dueWrong("KIND 0 alone has USE 0", x, 2, 1, 3);
        }
    }

    /** As many THINGS as VARIABLES; a new one in the place of each leaves the others as they are. */
    private static void fiveThings() {
        for (int v = 0; v < 5; v++) {
            StateWear x = new StateWear();
            Samples.ring(x, 6);
            x.routine();
            for (int w = 0; w < 5; w++) Sorts.write(x, 0, Sorts.MAKE, w, 0);
            for (int w = 0; w < 5; w++) Sorts.write(x, 0, Sorts.USE, w, 0);
            Sorts.write(x, 0, Sorts.MAKE, v, 0, Sorts.USE, (v + 1) % 5, 0, Sorts.USE, (v + 4) % 5, 0);
            dueRight("five, and one anew", x, 0);
            for (int w = 0; w < 5; w++) {
                boolean neighbour = w == (v + 1) % 5 || w == (v + 4) % 5;
                due("STATE of " + w, x.may(0, 13, w), w == v ? 1 : neighbour ? 4 : 2);
                due("its own THING", x.one(0, 13, w, (w + 1) % 5), 0);
            }
            due("one at each place", x.count(4), 14);
        }
    }

    /** A TRY within up to five other blocks: its second block goes on as its first one went out. */
    private static void triesInSixBlocks() {
        for (int depth = 0; depth < 6; depth++) {
            for (int way : new int[] {Sorts.LEAVE, Sorts.FAIL}) {
                StateWear x = door(3, 1);
                for (int i = 0; i < depth; i++) Sorts.write(x, 0, Sorts.IF, Sorts.ELSE);
                Sorts.write(x, 0, Sorts.TRY, way, Sorts.LAST, Sorts.DROP, 0, Sorts.END);
                for (int i = 0; i < depth; i++) Sorts.write(x, 0, Sorts.END);
                due("judge", x.judge(), 1);
                due("run", x.run(0, 0), way == Sorts.FAIL ? 6 : 0);
                due("STATEMENTS", x.ended(4), depth + 5);
                due("at its END", x.may(0, 2 * depth + 4, 0), NOTHING_NAMED);
                if (depth > 0) due("behind its END nothing", x.may(0, 2 * depth + 5, 0), 0);
                int behind = way == Sorts.LEAVE || depth > 0 ? 1 : 0;
                due("by yes each ELSE, and each END but the innermost", x.count(4),
                        2 * depth + 5 + Math.max(0, depth - 1) + behind);
            }
        }
    }

    /** Six TRYs, each in the second block of the one before: just 24 STATEMENTS. */
    private static void sixSecondBlocks() {
        for (int ways = 0; ways < 64; ways++) {
            StateWear x = door(3, 1);
            for (int i = 0; i < 6; i++) {
                Sorts.write(x, 0, Sorts.TRY, (ways >> i & 1) != 0 ? Sorts.FAIL : Sorts.LEAVE, Sorts.LAST);
            }
            for (int i = 0; i < 6; i++) Sorts.write(x, 0, Sorts.END);
            boolean failed = ways >> 5 != 0;
            dueRight("the innermost tells how it goes on", x, failed ? 6 : 0);
            due("STATEMENTS", x.ended(4), 19);
            due("the other ENDS are not come to", x.count(4), failed ? 19 : 20);
            due("behind the last", x.may(0, 24, 0), failed ? 0 : NOTHING_NAMED);
        }
        StateWear x = door(3, 1);
        Sorts.write(x, 0, Sorts.TRY, Sorts.FAIL, Sorts.LAST);
        for (int i = 0; i < 5; i++) Sorts.write(x, 0, Sorts.TRY, Sorts.LAST);
        for (int i = 0; i < 6; i++) Sorts.write(x, 0, Sorts.END);
        dueRight("the outermost alone FAILS", x, 6);
        due("STATEMENTS", x.ended(4), 19);
        due("one at each place, none behind the last", x.count(4), 19);
    }

    /** A ROUTINE that FAILED out of a second block leaves nothing to the next one that is called, or run. */
    private static void waysAreNotKeptFromBefore() {
        StateWear x = program(3, Sorts.MAKE, 0, 0, Sorts.TRY, Sorts.LEND, 1, 0, Sorts.LAST, Sorts.LEND, 2, 0, Sorts.LEAVE,
                Sorts.END);
        Sorts.write(x, 1, Sorts.TRY, Sorts.FAIL, Sorts.LAST, Sorts.END);
        Sorts.write(x, 2, Sorts.TRY, Sorts.LAST, Sorts.END);
        dueRight("the next call", x, 0);
        due("the first FAILED", x.paper(1, false, 0, 0), 1 << 8);
        due("the next ended well", x.paper(2, false, 0, 0), 1);
        StateWear y = program(3, Sorts.TRY, Sorts.FAIL, Sorts.LAST, Sorts.USE, 0, 0, Sorts.END);
        dueWrong("WRONG in a second block", y, 0, 3, 1);
        for (int i = 0; i < 4; i++) y.cut(0);
        Sorts.write(y, 0, Sorts.LAST, Sorts.END);
        dueRight("the next run", y, 0);
    }

    /** What stands where other STATEMENTS were cut goes its own way. */
    private static void cutsLeaveNothingBehind() {
        StateWear x = program(3, Sorts.DROP, 0, Sorts.DROP, 0, Sorts.TRY, Sorts.LAST, Sorts.END);
        for (int i = 0; i < 5; i++) x.cut(0);
        Sorts.write(x, 0, Sorts.TRY, Sorts.FAIL, Sorts.LAST, Sorts.IF, Sorts.END, Sorts.DROP, 0, Sorts.END);
        due("judge", x.judge(), 1);
        due("run", x.run(1, 1), 6);
        due("TRY FAIL LAST IF END DROP END", x.ended(4), 7);
        StateWear y = program(3, Sorts.TRY, Sorts.LAST, Sorts.DROP, 0, Sorts.DROP, 0, Sorts.DROP, 0, Sorts.DROP, 0, Sorts.DROP,
                0, Sorts.END);
        for (int i = 0; i < 8; i++) y.cut(0);
        Sorts.write(y, 0, Sorts.TRY, Sorts.IF, Sorts.LEAVE, Sorts.END, Sorts.LAST, Sorts.END);
        dueRight("on and LEAVE", y, 0);
        due("both come to one place behind the last", y.count(4), 3 + 0 + 2 + 2 + 1);
        StateWear z = program(3, Sorts.WHILE, Sorts.END, Sorts.IF, Sorts.ELSE, Sorts.END);
        for (int i = 0; i < 5; i++) z.cut(0);
        Sorts.write(z, 0, Sorts.IF, Sorts.END, Sorts.TRY, Sorts.LAST, Sorts.END);
        dueRight("other blocks in the places", z, 0);
        due("IF TRY LAST END", z.ended(4), 4);
        due("run by yes", z.run(1, 1), 0);
        due("IF END TRY LAST END", z.ended(4), 5);
    }
}
