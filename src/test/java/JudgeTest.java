/** Promises 15 to 20: the judge, and what it tells. */
public final class JudgeTest {
    private static final int NONE = StateWear.NONE, BAD = StateWear.BAD, NO = StateWear.NO, SPENT = StateWear.SPENT;
    private static final int FAR = Integer.MAX_VALUE;
    private static final int NOTHING_NAMED = 128, GONE = 64;
    private static final Due DUE = new Due("JudgeTest");

    public static void main(String[] args) {
        refusals();
        numbers();
        eachWrong();
        orderOfWrongs();
        left();
        leftOnEachWayOut();
        namesForOneThing();
        papers();
        recursion();
        waysOut();
        tryInSecondBlock();
        lentWithoutName();
        staysJudged();
        twoThousand();
        fortyCases();
        DUE.end();
    }

    private static void due(String call, long got, long want) {
        DUE.due(call, got, want);
    }

    /** The only WRONG is this one. */
    private static void dueWrong(String call, StateWear x, int routine, int place, int which) {
        due(call + ": judge", x.judge(), 0);
        due(call + ": how many", x.count(2), 1);
        due(call + ": routine", x.wrong(0, 0), routine);
        due(call + ": statement", x.wrong(0, 1), place);
        due(call + ": which", x.wrong(0, 2), which);
    }

    private static void refusals() {
        StateWear x = Sorts.withKind(0);
        due("no routine", x.judge(), NO);
        x.routine();
        due("an empty routine", x.judge(), 1);
        due("cases", x.count(3), 1);
        due("may be", x.count(4), 1);
        x.routine();
        x.statement(1, Sorts.IF, 0, 0);
        due("open somewhere", x.judge(), NO);
        due("what was judged stays", x.count(3), 1);
        x.statement(1, Sorts.END, 0, 0);
        due("judge", x.judge(), 1);
        x.statement(1, Sorts.LEND, 2, 0);
        due("a routine that is not there is called", x.judge(), NO);
        x.routine();
        due("now it is there", x.judge(), 1);
        x.statement(2, Sorts.GIVE, 3, 0);
        due("likewise by GIVE", x.judge(), NO);
    }

    private static void numbers() {
        StateWear x = Sorts.withKind(1);
        Sorts.write(x, 0, Sorts.DROP, 0);
        for (int round = 0; round < 2; round++) {
            due("wrong what -1", x.wrong(0, -1), BAD);
            due("wrong what 3", x.wrong(0, 3), BAD);
            due("wrong(-1)", x.wrong(-1, 0), NONE);
            due("wrong(far)", x.wrong(FAR, 2), NONE);
            due("may routine 1", x.may(1, 0, 0), BAD);
            due("may routine -1", x.may(-1, 0, 0), BAD);
            due("may place 2", x.may(0, 2, 0), BAD);
            due("may place -1", x.may(0, -1, 0), BAD);
            due("may variable 5", x.may(0, 0, 5), BAD);
            due("may variable -1", x.may(0, 0, -1), BAD);
            due("one routine 1", x.one(1, 0, 0, 0), BAD);
            due("one place 2", x.one(0, 2, 0, 0), BAD);
            due("one variable 5", x.one(0, 0, 5, 0), BAD);
            due("one other -1", x.one(0, 0, 0, -1), BAD);
            due("paper routine 1", x.paper(1, true, 0, 0), BAD);
            due("paper kind 1", x.paper(0, true, 1, 0), BAD);
            due("paper state 3", x.paper(0, true, 0, 3), BAD);
            due("paper state -1", x.paper(0, false, 0, -1), BAD);
            due("paper not called", x.paper(0, false, 0, 0), NONE);
            due("count -1", x.count(-1), BAD);
            due("count 5", x.count(5), BAD);
            due("may ahead", x.may(0, 0, 4), round == 0 ? 0 : NOTHING_NAMED);
            due("may behind the last", x.may(0, 1, 4), round == 0 ? 0 : NOTHING_NAMED);
            due("one", x.one(0, 1, 0, 1), round == 0 ? NONE : 0);
            due("one with itself, naming nothing", x.one(0, 1, 0, 0), round == 0 ? NONE : 0);
            due("cases", x.count(3), round);
            due("judge", x.judge(), 1);
        }
    }

    private static void eachWrong() {
        for (int sort : new int[] {Sorts.USE, Sorts.ASK, Sorts.LOOP}) {
            StateWear x = Sorts.withKind(1);
            x.statement(0, sort, 2, 0);
            if (sort != Sorts.USE) x.statement(0, Sorts.END, 0, 0);
            dueWrong("nothing by " + sort, x, 0, 0, 1);
            due("behind it nothing may be", x.may(0, 1, 0), 0);
            due("none is one there", x.one(0, 1, 0, 0), NONE);
            due("ahead of it", x.may(0, 0, 2), NOTHING_NAMED);
        }
        for (int sort : new int[] {Sorts.LEND, Sorts.GIVE}) {
            StateWear x = Sorts.withKind(2);
            Sorts.write(x, 0, sort, 1, 3);
            dueWrong("nothing by " + sort, x, 0, 0, 1);
            due("it was not called", x.count(3), 1);
        }
        for (int sort : new int[] {Sorts.USE, Sorts.LEND, Sorts.GIVE}) {
            StateWear x = Sorts.withKind(2);
            Sorts.write(x, 0, Sorts.MAKE, 0, 0, Sorts.NAME, 4, 0, Sorts.GIVE, 1, 0, sort, 1, 4);
            if (sort == Sorts.USE) {
                x.cut(0);
                Sorts.write(x, 0, Sorts.USE, 4, 0);
            }
            dueWrong("gone by " + sort, x, 0, 3, 2);
            due("gone", x.may(0, 3, 4), GONE);
            due("still one thing", x.one(0, 3, 4, 0), 2);
        }
        StateWear x = Sorts.withKind(1);
        Sorts.write(x, 0, Sorts.MAKE, 0, 0, Sorts.USE, 0, 1);
        dueWrong("state", x, 0, 1, 3);
        x = Sorts.withKind(3);
        Sorts.write(x, 0, Sorts.MAKE, 0, 0, Sorts.LEND, 1, 0);
        Sorts.write(x, 1, Sorts.NAME, 1, 0, Sorts.LEND, 2, 1, Sorts.GIVE, 2, 1);
        dueWrong("lent", x, 1, 2, 4);
        x = Sorts.withKind(3);
        Sorts.write(x, 0, Sorts.MAKE, 0, 0, Sorts.GIVE, 1, 0);
        Sorts.write(x, 1, Sorts.NAME, 1, 0, Sorts.GIVE, 2, 1);
        due("what was given may be given on", x.judge(), 1);
        due("given on it may end well", x.paper(2, true, 0, 0), 1);
    }

    private static void orderOfWrongs() {
        StateWear x = Sorts.withKind(2);
        x.ends(0, 4);
        Sorts.write(x, 0, Sorts.IF, Sorts.MAKE, 0, 0, Sorts.LEND, 1, 0, Sorts.END);
        Sorts.write(x, 0, Sorts.USE, 0, 1);
        Sorts.write(x, 1, Sorts.IF, Sorts.GIVE, 1, 0, Sorts.END, Sorts.USE, 1, 1);
        due("judge", x.judge(), 0);
        int[][] all = {{0, 4, 1}, {1, 1, 4}, {1, 3, 1}};
        due("how many", x.count(2), all.length);
        for (int i = 0; i < all.length; i++) {
            for (int what = 0; what < 3; what++) due("wrong " + i + " " + what, x.wrong(i, what), all[i][what]);
        }
        due("no more", x.wrong(3, 0), NONE);
        x.cut(1);
        due("judge", x.judge(), 0);
        due("the call may end well now: three again", x.count(2), 3);
        due("one statement twice", x.wrong(0, 1) * 10 + x.wrong(1, 1), 44);
        due("the lower one first", x.wrong(0, 2) * 10 + x.wrong(1, 2), 13);
    }

    private static void left() {
        StateWear x = Sorts.withKind(1);
        x.ends(0, 4);
        Sorts.write(x, 0, Sorts.MAKE, 0, 0, Sorts.MAKE, 0, 0);
        dueWrong("by MAKE", x, 0, 1, 5);
        x.cut(0);
        Sorts.write(x, 0, Sorts.DROP, 0);
        dueWrong("by DROP", x, 0, 1, 5);
        x.cut(0);
        Sorts.write(x, 0, Sorts.NAME, 0, 1);
        dueWrong("by NAME", x, 0, 1, 5);
        x.cut(0);
        Sorts.write(x, 0, Sorts.NAME, 0, 0);
        dueWrong("not by NAME of itself, but as it is over", x, 0, 2, 5);
        x.cut(0);
        Sorts.write(x, 0, Sorts.NAME, 1, 0, Sorts.DROP, 0, Sorts.NAME, 1, 1, Sorts.NAME, 0, 1, Sorts.NAME, 1, 2);
        dueWrong("another name is enough", x, 0, 6, 5);
        x.ends(0, 5);
        due("an END may be left", x.judge(), 1);
        x.cut(0);
        Sorts.write(x, 0, Sorts.MAKE, 0, 0, Sorts.MAKE, 1, 0, Sorts.DROP, 0);
        due("by MAKE and DROP too", x.judge(), 1);
    }

    private static void leftOnEachWayOut() {
        for (int sort : new int[] {Sorts.LEAVE, Sorts.FAIL}) {
            StateWear x = Sorts.withKind(2);
            x.ends(0, 4);
            Sorts.write(x, 0, Sorts.MAKE, 0, 0, Sorts.GIVE, 1, 0);
            Sorts.write(x, 1, sort, Sorts.DROP, 4, Sorts.DROP, 4);
            dueWrong("by " + sort, x, 1, 3, 5);
            due("it may not end", x.paper(1, true, 0, 0), 0);
            due("behind the last", x.may(1, 3, 0), sort == Sorts.LEAVE ? 1 : 0);
            due("behind the call nothing may be", x.may(0, 2, 0), 0);
        }
    }

    private static void namesForOneThing() {
        StateWear x = Sorts.withKind(1);
        Sorts.write(x, 0, Sorts.MAKE, 0, 0, Sorts.MAKE, 1, 0, Sorts.IF, Sorts.NAME, 1, 0, Sorts.END);
        Sorts.write(x, 0, Sorts.USE, 1, 0, Sorts.USE, 1, 1);
        due("judge", x.judge(), 1);
        due("never", x.one(0, 2, 0, 1), 0);
        due("in some", x.one(0, 5, 0, 1), 1);
        due("in all", x.one(0, 4, 1, 0), 2);
        due("itself", x.one(0, 4, 1, 1), 2);
        due("itself, naming nothing", x.one(0, 4, 2, 2), 0);
        due("both name nothing", x.one(0, 4, 2, 3), 0);
        due("the use is seen by both names", x.may(0, 6, 0), 3);
        due("by the one that is used", x.may(0, 6, 1), 2);
        due("behind the last", x.may(0, 7, 0), 5);
        due("by yes and by no", x.may(0, 7, 1), 5);
        due("all that may be", x.count(4), 1 + 1 + 1 + 1 + 1 + 2 + 2 + 4);
    }

    private static void papers() {
        StateWear x = Sorts.withKind(2);
        Sorts.write(x, 0, Sorts.MAKE, 0, 0, Sorts.USE, 0, 0, Sorts.TRY, Sorts.LEND, 1, 0, Sorts.LAST, Sorts.END);
        Sorts.write(x, 1, Sorts.ASK, 0, 1, Sorts.FAIL, Sorts.END);
        due("judge", x.judge(), 1);
        due("well in 0, failed in 2", x.paper(1, false, 0, 1), 1 + (4 << 8));
        due("not called in 0", x.paper(1, false, 0, 0), NONE);
        due("not given", x.paper(1, true, 0, 1), NONE);
        due("the beginning has none", x.paper(0, false, 0, 0), NONE);
        due("at the LAST", x.may(0, 4, 0), 5);
        due("behind the END", x.may(0, 6, 0), 1);
        due("cases", x.count(3), 2);
        x.cut(0);
        x.cut(0);
        x.cut(0);
        Sorts.write(x, 0, Sorts.GIVE, 1, 0, Sorts.LAST, Sorts.END);
        due("judge", x.judge(), 1);
        due("given: well and failed", x.paper(1, true, 0, 1), 1 + (1 << 8));
        due("lent no more", x.paper(1, false, 0, 1), NONE);
        due("gone at the LAST", x.may(0, 4, 0), GONE);
        due("two may be there, by how they go on", x.count(4), 4 + 2 + 2 + 1 + 3);
    }

    private static void recursion() {
        StateWear x = Sorts.withKind(2);
        Sorts.write(x, 0, Sorts.MAKE, 0, 0, Sorts.LEND, 1, 0);
        Sorts.write(x, 1, Sorts.LEND, 1, 0);
        due("it never ends", x.judge(), 1);
        due("its paper", x.paper(1, false, 0, 0), 0);
        due("behind the call nothing may be", x.may(0, 2, 0), 0);
        x.cut(1);
        Sorts.write(x, 1, Sorts.IF, Sorts.USE, 0, 0, Sorts.USE, 0, 1, Sorts.LEND, 1, 0, Sorts.END);
        due("in STATE 2 no USE", x.judge(), 0);
        due("which", x.wrong(0, 2), 3);
        due("its paper from 0", x.paper(1, false, 0, 0), 5);
        due("its paper from 2", x.paper(1, false, 0, 2), 4);
        due("cases", x.count(3), 3);
        due("the beginning is another case than a call of routine 0", x.paper(0, false, 0, 0), NONE);
        Sorts.write(x, 1, Sorts.DROP, 0);
        Sorts.write(x, 1, Sorts.LEND, 0, 1);
        due("nothing", x.judge(), 0);
        due("nothing", x.wrong(1, 2), 1);
    }

    private static void waysOut() {
        StateWear x = Sorts.withKind(1);
        Sorts.write(x, 0, Sorts.MAKE, 0, 0, Sorts.TRY, Sorts.TRY, Sorts.IF, Sorts.LEAVE, Sorts.ELSE, Sorts.FAIL);
        Sorts.write(x, 0, Sorts.END, Sorts.USE, 0, 0, Sorts.LAST, Sorts.USE, 0, 2, Sorts.END, Sorts.USE, 0, 0);
        Sorts.write(x, 0, Sorts.LAST, Sorts.USE, 0, 2, Sorts.END, Sorts.USE, 0, 0);
        due("judge", x.judge(), 1);
        due("ELSE is not come to", x.may(0, 5, 0), 0);
        due("behind the ELSE", x.may(0, 6, 0), 1);
        due("END of the IF is not come to", x.may(0, 7, 0), 0);
        due("behind the IF nothing", x.may(0, 8, 0), 0);
        due("the inner LAST", x.may(0, 9, 0), 1);
        due("behind the inner END nothing", x.may(0, 12, 0), 0);
        due("the outer END", x.may(0, 15, 0), 1);
        due("behind the outer END nothing", x.may(0, 16, 0), 0);
        due("LEAVE comes behind the last", x.may(0, 17, 0), 1);
        due("two ways at each LAST .. END, LEAVE alone behind the last", x.count(4), 6 + 2 * 3 + 2 * 3 + 1);
    }

    private static void tryInSecondBlock() {
        StateWear x = Sorts.withKind(2);
        Sorts.write(x, 0, Sorts.MAKE, 0, 0, Sorts.LEND, 1, 0);
        Sorts.write(x, 1, Sorts.TRY, Sorts.FAIL, Sorts.LAST, Sorts.LEAVE, Sorts.END, Sorts.FAIL);
        due("LEAVE in the second block: FAIL is forgotten", x.judge(), 1);
        due("it ends well", x.paper(1, false, 0, 0), 1);
        for (int i = 0; i < 3; i++) x.cut(1);
        Sorts.write(x, 1, Sorts.TRY, Sorts.LEAVE, Sorts.LAST, Sorts.END, Sorts.END);
        due("likewise by a TRY in it", x.judge(), 1);
        due("it ends well", x.paper(1, false, 0, 0), 1);
        for (int i = 0; i < 4; i++) x.cut(1);
        Sorts.write(x, 1, Sorts.LAST, Sorts.END, Sorts.END);
        due("but one that goes on", x.judge(), 1);
        due("FAILS on", x.paper(1, false, 0, 0), 1 << 8);
        due("two modes are told apart at each place", x.count(4), 2 + 7);
        x.cut(1);
        x.cut(1);
        Sorts.write(x, 1, Sorts.FAIL, Sorts.END, Sorts.END);
        due("FAIL in the second block of the inner one", x.judge(), 1);
        due("FAILS", x.paper(1, false, 0, 0), 1 << 8);
    }

    private static void lentWithoutName() {
        StateWear x = Sorts.withKind(2);
        Sorts.write(x, 0, Sorts.MAKE, 0, 0, Sorts.USE, 0, 0, Sorts.LEND, 1, 0);
        Sorts.write(x, 1, Sorts.USE, 0, 1, Sorts.DROP, 0);
        due("judge", x.judge(), 1);
        due("the paper", x.paper(1, false, 0, 1), 5);
        due("it names nothing", x.may(1, 2, 0), NOTHING_NAMED);
        due("but two may be there", x.count(4), 3 + 2 + 1 + 2 + 2);
        x.ends(0, 0);
        due("what was lent is not left", x.judge(), 0);
        due("how many", x.count(2), 1);
        due("but by its owner", x.wrong(0, 0) * 100 + x.wrong(0, 1), 3);
    }

    private static void staysJudged() {
        StateWear x = Sorts.withKind(1);
        Sorts.write(x, 0, Sorts.MAKE, 0, 0, Sorts.USE, 0, 1);
        due("judge", x.judge(), 0);
        x.cut(0);
        x.use(0, 0, 1, 0, NONE);
        x.routine();
        due("the wrong stays", x.wrong(0, 2), 3);
        due("may be stays", x.may(0, 1, 0), 1);
        due("a place that is there no more", x.may(0, 2, 0), BAD);
        due("a routine that was not there", x.may(1, 0, 0), 0);
        due("nothing may be there", x.one(1, 0, 0, 1), NONE);
        x.statement(0, Sorts.IF, 0, 0);
        due("judge", x.judge(), NO);
        due("the wrong stays", x.count(2), 1);
        x.cut(0);
        due("judge", x.judge(), 1);
        due("no wrong", x.count(2), 0);
    }

    /** Three THINGS in 6, 6 and 5 STATES: just 2000 MAY BE; with a STATEMENT more one too many. */
    private static void twoThousand() {
        StateWear x = new StateWear();
        int[] states = {6, 6, 5};
        x.routine();
        for (int k = 0; k < 3; k++) {
            x.kind(states[k], (1 << states[k]) - 1);
            for (int s = 0; s < states[k]; s++) x.use(k, s, 0, (s + 1) % states[k], NONE);
            Sorts.write(x, 0, Sorts.MAKE, k, k);
        }
        for (int v = 0; v < 3; v++) Sorts.write(x, 0, Sorts.WHILE, Sorts.USE, v, 0, Sorts.END);
        for (int i = 0; i < 6; i++) Sorts.write(x, 0, Sorts.DROP, 4);
        Sorts.write(x, 0, Sorts.DROP, 0, Sorts.DROP, 4, Sorts.DROP, 1, Sorts.DROP, 4, Sorts.DROP, 2);
        due("judge", x.judge(), 1);
        due("2000", x.count(4), 2000);
        due("all states", x.may(0, 12, 2), 31);
        Sorts.write(x, 0, Sorts.USE, 0, 0);
        due("a wrong as the last one", x.judge(), 0);
        due("what is wrong comes nowhere", x.count(4), 2000);
        x.cut(0);
        Sorts.write(x, 0, Sorts.DROP, 4);
        due("2001", x.judge(), SPENT);
        due("no cases", x.count(3), 0);
        due("no wrongs", x.count(2), 0);
        due("nothing", x.count(4), 0);
        due("may", x.may(0, 12, 2), 0);
        due("one", x.one(0, 12, 2, 2), NONE);
        due("wrong", x.wrong(0, 0), NONE);
        x.cut(0);
        due("judge again", x.judge(), 1);
        due("2000", x.count(4), 2000);
    }

    /** As many STATES as the second KIND has, so many CASES more. */
    private static void fortyCases() {
        for (int states = 3; states <= 4; states++) {
            StateWear x = new StateWear();
            x.kind(6, 63);
            for (int s = 0; s < 6; s++) x.use(0, s, 0, (s + 1) % 6, NONE);
            x.kind(states, 15 >> 4 - states);
            for (int s = 0; s < states; s++) x.use(1, s, 0, (s + 1) % states, NONE);
            for (int r = 0; r < 6; r++) x.routine();
            Sorts.write(x, 0, Sorts.MAKE, 0, 0, Sorts.WHILE, Sorts.USE, 0, 0, Sorts.END);
            for (int r = 1; r < 6; r++) Sorts.write(x, 0, Sorts.LEND, r, 0);
            Sorts.write(x, 0, Sorts.GIVE, 1, 0);
            Sorts.write(x, 0, Sorts.MAKE, 0, 1, Sorts.WHILE, Sorts.USE, 0, 0, Sorts.END, Sorts.LEND, 1, 0);
            due("judge", x.judge(), states == 3 ? 1 : SPENT);
            due("cases", x.count(3), states == 3 ? 40 : 0);
            due("paper", x.paper(5, false, 0, 5), states == 3 ? 32 : NONE);
            due("may", x.may(0, 0, 0), states == 3 ? NOTHING_NAMED : 0);
        }
    }
}
