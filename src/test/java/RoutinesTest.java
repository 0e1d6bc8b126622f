/** Promises 10 to 14: ROUTINES and their STATEMENTS. */
public final class RoutinesTest {
    private static final int NONE = StateWear.NONE, BAD = StateWear.BAD, NO = StateWear.NO, FULL = StateWear.FULL;
    private static final int FAR = Integer.MAX_VALUE;
    private static final Due DUE = new Due("RoutinesTest");

    public static void main(String[] args) {
        routines();
        numbers();
        elses();
        lasts();
        ends();
        sevenBlocks();
        full();
        cuts();
        told();
        DUE.end();
    }

    private static void due(String call, long got, long want) {
        DUE.due(call, got, want);
    }

    private static void routines() {
        StateWear x = new StateWear();
        for (int r = 0; r < 6; r++) due("routine", x.routine(), r);
        due("the seventh", x.routine(), FULL);
        due("count(1)", x.count(1), 6);
        due("open(6)", x.open(6), BAD);
        due("open(-1)", x.open(-1), BAD);
        due("open(5)", x.open(5), 0);
    }

    private static void numbers() {
        StateWear x = new StateWear();
        due("no routine", x.statement(0, Sorts.LEAVE, 0, 0), BAD);
        x.routine();
        due("sort -1", x.statement(0, -1, 0, 0), BAD);
        due("sort 16", x.statement(0, 16, 0, 0), BAD);
        due("MAKE of no kind", x.statement(0, Sorts.MAKE, 0, 0), BAD);
        x.kind(1, 1);
        due("MAKE 5", x.statement(0, Sorts.MAKE, 5, 0), BAD);
        due("MAKE -1", x.statement(0, Sorts.MAKE, -1, 0), BAD);
        due("MAKE kind 1", x.statement(0, Sorts.MAKE, 0, 1), BAD);
        for (int sort : new int[] {Sorts.USE, Sorts.ASK, Sorts.LOOP}) {
            due("variable 5 of " + sort, x.statement(0, sort, 5, 0), BAD);
            due("name 8 of " + sort, x.statement(0, sort, 0, 8), BAD);
            due("name -1 of " + sort, x.statement(0, sort, 0, -1), BAD);
        }
        due("NAME 5 0", x.statement(0, Sorts.NAME, 5, 0), BAD);
        due("NAME 0 5", x.statement(0, Sorts.NAME, 0, 5), BAD);
        due("DROP 5", x.statement(0, Sorts.DROP, 5, 0), BAD);
        for (int sort : new int[] {Sorts.LEND, Sorts.GIVE}) {
            due("routine 6 of " + sort, x.statement(0, sort, 6, 0), BAD);
            due("routine -1 of " + sort, x.statement(0, sort, -1, 0), BAD);
            due("variable 5 of " + sort, x.statement(0, sort, 0, 5), BAD);
        }
        due("none was taken", x.told(0, 0, 0), NONE);
        due("MAKE 4 0", x.statement(0, Sorts.MAKE, 4, 0), 1);
        due("USE 4 7", x.statement(0, Sorts.USE, 4, 7), 2);
        due("NAME 4 4", x.statement(0, Sorts.NAME, 4, 4), 3);
        due("DROP 4, b is not looked at", x.statement(0, Sorts.DROP, 4, FAR), 4);
        due("LEND to one that is not there", x.statement(0, Sorts.LEND, 5, 4), 5);
        due("GIVE", x.statement(0, Sorts.GIVE, 5, 4), 6);
        due("LEAVE", x.statement(0, Sorts.LEAVE, FAR, -1), 7);
        due("FAIL", x.statement(0, Sorts.FAIL, -1, FAR), 8);
        due("DROP's b is told 0", x.told(0, 3, 2), 0);
        due("LEAVE's a is told 0", x.told(0, 6, 1), 0);
        due("LEAVE's b is told 0", x.told(0, 6, 2), 0);
        due("GIVE's a", x.told(0, 5, 1), 5);
        due("GIVE's b", x.told(0, 5, 2), 4);
    }

    private static void elses() {
        StateWear x = new StateWear();
        x.routine();
        due("ELSE with none open", x.statement(0, Sorts.ELSE, 0, 0), NO);
        for (int sort : new int[] {Sorts.WHILE, Sorts.LOOP, Sorts.TRY}) {
            x.statement(0, sort, 0, 0);
            due("ELSE of " + sort, x.statement(0, Sorts.ELSE, 0, 0), NO);
            x.cut(0);
        }
        for (int sort : new int[] {Sorts.ASK, Sorts.IF}) {
            due("open", x.statement(0, sort, 0, 0), 1);
            due("LAST of " + sort, x.statement(0, Sorts.LAST, 0, 0), NO);
            due("ELSE of " + sort, x.statement(0, Sorts.ELSE, 0, 0), 2);
            due("a second ELSE", x.statement(0, Sorts.ELSE, 0, 0), NO);
            due("END", x.statement(0, Sorts.END, 0, 0), 3);
            due("ELSE behind the END", x.statement(0, Sorts.ELSE, 0, 0), NO);
            for (int i = 0; i < 3; i++) x.cut(0);
        }
    }

    private static void lasts() {
        StateWear x = new StateWear();
        x.routine();
        due("LAST with none open", x.statement(0, Sorts.LAST, 0, 0), NO);
        x.statement(0, Sorts.TRY, 0, 0);
        due("END ahead of LAST", x.statement(0, Sorts.END, 0, 0), NO);
        x.statement(0, Sorts.IF, 0, 0);
        due("LAST in an IF", x.statement(0, Sorts.LAST, 0, 0), NO);
        due("END of the IF", x.statement(0, Sorts.END, 0, 0), 3);
        due("LAST", x.statement(0, Sorts.LAST, 0, 0), 4);
        due("a second LAST", x.statement(0, Sorts.LAST, 0, 0), NO);
        due("still open", x.open(0), 1);
        due("END", x.statement(0, Sorts.END, 0, 0), 5);
        due("none open", x.open(0), 0);
    }

    private static void ends() {
        StateWear x = new StateWear();
        x.routine();
        due("END with none open", x.statement(0, Sorts.END, 0, 0), NO);
        for (int sort : new int[] {Sorts.ASK, Sorts.IF, Sorts.WHILE, Sorts.LOOP}) {
            x.statement(0, sort, 0, 0);
            due("open", x.open(0), 1);
            due("END of " + sort, x.statement(0, Sorts.END, 0, 0) > 0 ? 1 : 0, 1);
            due("open", x.open(0), 0);
        }
    }

    private static void sevenBlocks() {
        StateWear x = new StateWear();
        x.routine();
        int[] sorts = {Sorts.ASK, Sorts.IF, Sorts.WHILE, Sorts.LOOP, Sorts.TRY, Sorts.IF};
        for (int sort : sorts) x.statement(0, sort, 0, 0);
        due("six are open", x.open(0), 6);
        for (int sort : sorts) due("a seventh", x.statement(0, sort, 0, 0), NO);
        due("an ELSE opens none", x.statement(0, Sorts.ELSE, 0, 0), 7);
        due("END", x.statement(0, Sorts.END, 0, 0), 8);
        due("five are open", x.open(0), 5);
        due("a sixth again", x.statement(0, Sorts.WHILE, 0, 0), 9);
    }

    private static void full() {
        StateWear x = new StateWear();
        x.routine();
        for (int i = 0; i < 24; i++) due("DROP", x.statement(0, Sorts.DROP, 0, 0), i + 1);
        due("the 25th", x.statement(0, Sorts.DROP, 0, 0), FULL);
        due("BAD ahead of FULL", x.statement(0, Sorts.DROP, 5, 0), BAD);
        due("NO ahead of FULL", x.statement(0, Sorts.END, 0, 0), NO);
        x.cut(0);
        due("an IF as the 24th", x.statement(0, Sorts.IF, 0, 0), 24);
        due("no room for its END", x.statement(0, Sorts.END, 0, 0), FULL);
        due("judge", x.judge(), NO);
    }

    private static void cuts() {
        StateWear x = new StateWear();
        due("cut of none", x.cut(0), BAD);
        x.routine();
        due("cut of an empty one", x.cut(0), NO);
        Sorts.write(x, 0, Sorts.TRY, Sorts.IF, Sorts.ELSE, Sorts.END, Sorts.LAST, Sorts.END);
        due("cut END", x.cut(0), 5);
        due("TRY is open", x.open(0), 1);
        due("it has its LAST", x.statement(0, Sorts.LAST, 0, 0), NO);
        due("cut LAST", x.cut(0), 4);
        due("no END now", x.statement(0, Sorts.END, 0, 0), NO);
        due("cut END of IF", x.cut(0), 3);
        due("both open", x.open(0), 2);
        due("it has its ELSE", x.statement(0, Sorts.ELSE, 0, 0), NO);
        due("cut ELSE", x.cut(0), 2);
        due("ELSE can come again", x.statement(0, Sorts.ELSE, 0, 0), 3);
        due("cut", x.cut(0), 2);
        due("cut", x.cut(0), 1);
        due("cut", x.cut(0), 0);
        due("none open", x.open(0), 0);
        due("nothing left", x.cut(0), NO);
    }

    private static void told() {
        StateWear x = new StateWear();
        x.kind(1, 1);
        x.routine();
        Sorts.write(x, 0, Sorts.NAME, 3, 2);
        due("sort", x.told(0, 0, 0), Sorts.NAME);
        due("a", x.told(0, 0, 1), 3);
        due("b", x.told(0, 0, 2), 2);
        due("what 3", x.told(0, 0, 3), BAD);
        due("what -1", x.told(0, 0, -1), BAD);
        due("routine 1", x.told(1, 0, 0), BAD);
        due("statement 1", x.told(0, 1, 0), NONE);
        due("statement -1", x.told(0, -1, 0), NONE);
        due("statement far", x.told(0, FAR, 0), NONE);
        due("BAD ahead of NONE", x.told(0, 1, 3), BAD);
        x.cut(0);
        due("after a cut", x.told(0, 0, 0), NONE);
    }
}
