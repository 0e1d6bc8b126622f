/** Promises 21 to 24: runs by told ANSWERS, and the digest. */
public final class RunsTest {
    private static final int NONE = StateWear.NONE, BAD = StateWear.BAD, NO = StateWear.NO;
    private static final Due DUE = new Due("RunsTest");

    public static void main(String[] args) {
        refusals();
        answers();
        eachWrong();
        failed();
        wayThroughBlocks();
        waysOut();
        giveAndFail();
        fiveHundred();
        tenRoutines();
        wrongAheadOfTooDeep();
        breaks();
        breaksOfEight();
        digest();
        DUE.end();
    }

    private static void due(String call, long got, long want) {
        DUE.due(call, got, want);
    }

    private static void dueEnd(String call, StateWear x, int... want) {
        for (int what = 0; what < want.length; what++) due(call + ": ended(" + what + ")", x.ended(what), want[what]);
    }

    private static void refusals() {
        StateWear x = Sorts.withKind(1);
        due("run -1", x.run(0, -1), BAD);
        due("run 61", x.run(0, 61), BAD);
        due("breaks -1", x.breaks(-1), BAD);
        due("breaks 9", x.breaks(9), BAD);
        due("ended -1", x.ended(-1), BAD);
        due("ended 6", x.ended(6), BAD);
        for (int what = 0; what < 6; what++) due("before any run", x.ended(what), NONE);
        due("an empty run", x.run(-1L, 60), 0);
        dueEnd("an empty run", x, 0, 0, 0, 0, 0, 1);
        x.statement(0, Sorts.IF, 0, 0);
        due("open", x.run(0, 0), NO);
        due("open", x.breaks(0), NO);
        due("BAD ahead of NO", x.run(0, 61), BAD);
        due("BAD ahead of NO", x.breaks(9), BAD);
        dueEnd("it stays", x, 0, 0, 0, 0, 0, 1);
        x.cut(0);
        x.statement(0, Sorts.GIVE, 4, 0);
        due("a routine that is not there", x.run(0, 0), NO);
        due("a routine that is not there", x.breaks(0), NO);
    }

    private static void answers() {
        StateWear x = Sorts.withKind(1);
        Sorts.write(x, 0, Sorts.MAKE, 0, 0, Sorts.USE, 0, 0, Sorts.USE, 0, 1, Sorts.WHILE, Sorts.END);
        due("run", x.run(0b1111, 3), 0);
        dueEnd("bits above n are no", x, 0, 0, 5, 4, 3 + 2 * 2 + 1, 1);
        due("run", x.run(-1L, 60), 0);
        dueEnd("sixty", x, 0, 0, 5, 61, 3 + 2 * 59 + 1, 1);
        x.cut(0);
        x.cut(0);
        Sorts.write(x, 0, Sorts.MAKE, 0, 0, Sorts.LOOP, 0, 2, Sorts.END);
        due("a USE that is not ASKING asks nothing, LOOP does", x.run(0b110, 3), 0);
        dueEnd("by a yes of LOOP the same STATE", x, 0, 0, 6, 4, 4 + 5, 1);
    }

    private static void eachWrong() {
        StateWear x = Sorts.withKind(2);
        Sorts.write(x, 0, Sorts.ASK, 0, 0, Sorts.END);
        due("nothing", x.run(0, 0), 1);
        dueEnd("no ANSWER is asked of what is WRONG", x, 1, 0, 0, 0, 1, 1);
        x = Sorts.withKind(2);
        Sorts.write(x, 0, Sorts.MAKE, 0, 0, Sorts.GIVE, 1, 0, Sorts.USE, 0, 0);
        due("gone", x.run(0, 0), 2);
        dueEnd("gone", x, 2, 0, 2, 0, 3, 2);
        x = Sorts.withKind(2);
        Sorts.write(x, 0, Sorts.MAKE, 0, 0, Sorts.LEND, 1, 0, Sorts.USE, 0, 0);
        Sorts.write(x, 1, Sorts.USE, 0, 0);
        due("the state is that behind the call", x.run(0, 0), 3);
        dueEnd("state", x, 3, 0, 2, 0, 4, 2);
        x.cut(1);
        Sorts.write(x, 1, Sorts.GIVE, 1, 0);
        due("lent", x.run(0, 0), 4);
        dueEnd("lent", x, 4, 1, 0, 0, 3, 2);
        x.cut(1);
        Sorts.write(x, 1, Sorts.MAKE, 1, 0, Sorts.USE, 1, 0);
        due("left as it is over", x.run(0, 0), 5);
        dueEnd("left", x, 5, 1, 2, 0, 4, 2);
        Sorts.write(x, 1, Sorts.DROP, 1, Sorts.DROP, 1);
        due("left by DROP", x.run(0, 0), 5);
        dueEnd("left", x, 5, 1, 2, 0, 5, 2);
        x.cut(1);
        x.cut(1);
        Sorts.write(x, 1, Sorts.FAIL, Sorts.DROP, 2);
        due("left as it FAILED", x.run(0, 0), 5);
        dueEnd("left", x, 5, 1, 4, 0, 5, 2);
    }

    private static void failed() {
        StateWear x = Sorts.withKind(3);
        Sorts.write(x, 0, Sorts.MAKE, 0, 0, Sorts.LEND, 1, 0, Sorts.DROP, 0);
        Sorts.write(x, 1, Sorts.LEND, 2, 0, Sorts.DROP, 0);
        Sorts.write(x, 2, Sorts.FAIL);
        due("through all", x.run(0, 0), 6);
        dueEnd("behind the last of routine 0", x, 6, 0, 3, 0, 4, 3);
        x.ends(0, 4);
        due("but the owner leaves it", x.run(0, 0), 5);
        dueEnd("behind the last of routine 0", x, 5, 0, 3, 0, 4, 3);
    }

    private static void wayThroughBlocks() {
        StateWear x = Sorts.withKind(1);
        Sorts.write(x, 0, Sorts.IF, Sorts.DROP, 0, Sorts.ELSE, Sorts.DROP, 0, Sorts.DROP, 0, Sorts.END);
        x.run(1, 1);
        dueEnd("yes: IF, DROP, ELSE", x, 0, 0, 6, 1, 3);
        x.run(0, 1);
        dueEnd("no: IF, DROP, DROP, END", x, 0, 0, 6, 1, 4);
        for (int i = 0; i < 4; i++) x.cut(0);
        Sorts.write(x, 0, Sorts.END);
        x.run(1, 1);
        dueEnd("yes: IF, DROP, END", x, 0, 0, 3, 1, 3);
        x.run(0, 1);
        dueEnd("no: IF", x, 0, 0, 3, 1, 1);
    }

    private static void waysOut() {
        StateWear x = Sorts.withKind(1);
        Sorts.write(x, 0, Sorts.TRY, Sorts.IF, Sorts.FAIL, Sorts.END, Sorts.IF, Sorts.LEAVE, Sorts.END);
        Sorts.write(x, 0, Sorts.LAST, Sorts.IF, Sorts.LEAVE, Sorts.END, Sorts.END, Sorts.DROP, 0);
        due("on", x.run(0, 3), 0);
        dueEnd("TRY IF IF LAST IF END DROP", x, 0, 0, 13, 3, 7);
        due("FAIL", x.run(1, 2), 6);
        dueEnd("TRY IF FAIL LAST IF END", x, 6, 0, 13, 2, 6);
        due("FAIL is forgotten", x.run(3, 2), 0);
        dueEnd("TRY IF FAIL LAST IF LEAVE", x, 0, 0, 13, 2, 6);
        due("LEAVE", x.run(2, 3), 0);
        dueEnd("TRY IF IF LEAVE LAST IF END", x, 0, 0, 13, 3, 7);
    }

    private static void giveAndFail() {
        StateWear x = Sorts.withKind(2);
        Sorts.write(x, 0, Sorts.MAKE, 0, 0, Sorts.NAME, 1, 0, Sorts.TRY, Sorts.GIVE, 1, 0);
        Sorts.write(x, 0, Sorts.LAST, Sorts.LEND, 1, 1, Sorts.END);
        Sorts.write(x, 1, Sorts.FAIL);
        due("gone by each name, also as the call FAILED", x.run(0, 0), 2);
        dueEnd("gone", x, 2, 0, 5, 0, 7, 2);
    }

    private static void fiveHundred() {
        StateWear x = Sorts.withKind(1);
        Sorts.write(x, 0, Sorts.WHILE);
        for (int i = 0; i < 14; i++) Sorts.write(x, 0, Sorts.DROP, 0);
        Sorts.write(x, 0, Sorts.END, Sorts.DROP, 0, Sorts.DROP, 0, Sorts.DROP, 0);
        due("just 500", x.run(-1L, 31), 0);
        dueEnd("just 500", x, 0, 0, 19, 32, 500, 1);
        Sorts.write(x, 0, Sorts.USE, 0, 0);
        due("one more was due", x.run(-1L, 31), 7);
        dueEnd("one more was due", x, 7, 0, 19, 32, 500, 1);
        due("it would be WRONG", x.run(-1L, 30), 1);
        dueEnd("it would be WRONG", x, 1, 0, 19, 31, 485, 1);
        due("500 are no WRONG", x.breaks(0), 1);
    }

    private static void tenRoutines() {
        StateWear x = Sorts.withKind(2);
        Sorts.write(x, 0, Sorts.MAKE, 0, 0, Sorts.LEND, 1, 0);
        Sorts.write(x, 1, Sorts.IF, Sorts.LEND, 1, 0, Sorts.END);
        due("ten are open", x.run(-1L, 8), 0);
        dueEnd("ten are open", x, 0, 0, 2, 9, 2 + 8 * 3 + 1, 10);
        due("an eleventh", x.run(-1L, 9), 8);
        dueEnd("an eleventh", x, 8, 1, 1, 9, 2 + 9 * 2, 10);
        due("one alone", x.run(0, 0), 0);
        dueEnd("two were open", x, 0, 0, 2, 1, 3, 2);
        due("it is no WRONG", x.breaks(8), 0);
    }

    private static void wrongAheadOfTooDeep() {
        StateWear x = Sorts.withKind(2);
        Sorts.write(x, 0, Sorts.MAKE, 0, 0, Sorts.LEND, 1, 0);
        Sorts.write(x, 1, Sorts.IF, Sorts.LEND, 1, 0, Sorts.ELSE, Sorts.LEND, 1, 4, Sorts.END);
        due("NOTHING with ten open", x.run(-1L, 8), 1);
        dueEnd("NOTHING with ten open", x, 1, 1, 3, 9, 20, 10);
    }

    private static void breaks() {
        StateWear x = Sorts.withKind(1);
        Sorts.write(x, 0, Sorts.IF, Sorts.IF, Sorts.ELSE, Sorts.IF, Sorts.USE, 0, 0, Sorts.END, Sorts.END, Sorts.END);
        x.run(3, 2);
        due("with two none", x.breaks(2), 0);
        due("with three: yes, no, yes", x.breaks(3), 0b1101);
        due("the shorter one first", x.breaks(8), 0b1101);
        dueEnd("ended() stays", x, 0, 0, 8, 2, 4, 1);
        Sorts.write(x, 0, Sorts.IF, Sorts.USE, 0, 0, Sorts.END);
        due("no, yes", x.breaks(8), 0b110);
        Sorts.write(x, 0, Sorts.USE, 0, 0);
        due("none told", x.breaks(8), 1);
        due("none told", x.breaks(0), 1);
    }

    private static void breaksOfEight() {
        StateWear x = Sorts.withKind(1);
        for (int i = 0; i < 5; i++) Sorts.write(x, 0, Sorts.IF);
        Sorts.write(x, 0, Sorts.USE, 0, 0);
        for (int i = 0; i < 5; i++) Sorts.write(x, 0, Sorts.END);
        due("with four none", x.breaks(4), 0);
        due("five yes", x.breaks(8), 0b111111);
        due("at once", x.breaks(5), 0b111111);
        x = Sorts.withKind(1);
        Sorts.write(x, 0, Sorts.FAIL);
        due("FAILED is no WRONG", x.breaks(8), 0);
    }

    private static void digest() {
        StateWear x = new StateWear();
        due("none", x.digest(), 29);
        x.routine();
        due("an empty routine", x.digest(), 29 * 31);
        x.statement(0, Sorts.DROP, 3, 77);
        due("DROP 3", x.digest(), (((29L * 31 + 1) * 31 + 9) * 31 + 3) * 31);
        x.kind(1, 1);
        x.use(0, 0, 1, 0, NONE);
        long h = (29L * 31 + 1) * 31 + 1;
        for (int name = 0; name < 8; name++) {
            for (int twice = 0; twice < 2; twice++) h = 31 * h + (name == 1 ? 0 : -1);
        }
        h = (((h * 31 + 1) * 31 + 9) * 31 + 3) * 31;
        due("a kind ahead of it", x.digest(), h);
        x.kind(9, 9);
        x.judge();
        x.run(0, 0);
        x.fits(0, 0);
        due("what does not change it", x.digest(), h);
        StateWear y = new StateWear();
        y.kind(2, 0);
        y.use(0, 1, 0, 1, 0);
        h = (29L * 31 + 2) * 31;
        for (int i = 0; i < 32; i++) h = 31 * h + (i == 16 ? 1 : i == 17 ? 0 : -1);
        due("by yes, by no, for states, for names", y.digest(), h);
    }
}
