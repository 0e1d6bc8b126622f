/** Promises 1 to 9: a new object, and the books of KINDS. */
public final class BooksTest {
    private static final int NONE = StateWear.NONE, BAD = StateWear.BAD, NO = StateWear.NO, FULL = StateWear.FULL;
    private static final int FAR = Integer.MAX_VALUE, LOW = Integer.MIN_VALUE;
    private static final Due DUE = new Due("BooksTest");

    public static void main(String[] args) {
        newObject();
        kinds();
        heirs();
        uses();
        drops();
        ends();
        leads();
        fits();
        fitsByAsking();
        parts();
        partsIsKept();
        DUE.end();
    }

    private static void due(String call, long got, long want) {
        DUE.due(call, got, want);
    }

    private static void newObject() {
        StateWear x = new StateWear();
        for (int what = 0; what < 5; what++) due("new: count(" + what + ")", x.count(what), 0);
        due("new: parts", x.parts(), NONE);
        due("new: ended", x.ended(0), NONE);
        due("new: digest", x.digest(), 29);
        due("new: leads", x.leads(0, NONE, NONE, true), BAD);
        due("new: open", x.open(0), BAD);
        due("new: judge", x.judge(), NO);
        due("new: run", x.run(0, 0), NO);
        due("new: breaks", x.breaks(0), NO);
        due("new: wrong", x.wrong(0, 0), NONE);
    }

    private static void kinds() {
        StateWear x = new StateWear();
        due("kind(0, 0)", x.kind(0, 0), BAD);
        due("kind(7, 0)", x.kind(7, 0), BAD);
        due("kind(1, 2)", x.kind(1, 2), BAD);
        due("kind(6, 64)", x.kind(6, 64), BAD);
        due("kind(3, -1)", x.kind(3, -1), BAD);
        due("kind(far, 0)", x.kind(FAR, 0), BAD);
        due("kind(low, 0)", x.kind(LOW, 0), BAD);
        due("kind(3, low)", x.kind(3, LOW), BAD);
        due("count after refusals", x.count(0), 0);
        due("kind(1, 0)", x.kind(1, 0), 0);
        due("kind(1, 1)", x.kind(1, 1), 1);
        due("kind(6, 63)", x.kind(6, 63), 2);
        for (int k = 3; k < 6; k++) due("kind", x.kind(2, 3), k);
        due("the seventh kind", x.kind(2, 3), FULL);
        due("BAD ahead of FULL", x.kind(2, 4), BAD);
        due("count(0)", x.count(0), 6);
        due("states of 2", x.leads(2, NONE, NONE, false), 6);
    }

    private static void heirs() {
        StateWear x = new StateWear();
        due("heir of none", x.heir(0, 0), BAD);
        x.kind(2, 2);
        x.use(0, 0, 3, 1, 0);
        due("heir(0, -1)", x.heir(0, -1), BAD);
        due("heir(0, 5)", x.heir(0, 5), BAD);
        due("heir(0, far)", x.heir(0, FAR), BAD);
        due("heir(1, 0)", x.heir(1, 0), BAD);
        due("heir(0, 4)", x.heir(0, 4), 1);
        due("its states", x.leads(1, NONE, NONE, true), 6);
        due("its use by yes", x.leads(1, 0, 3, true), 1);
        due("its use by no", x.leads(1, 0, 3, false), 0);
        due("its ends", x.ends(1, 63), 2);
        due("a new state has no use", x.leads(1, 5, 3, true), NONE);
        due("the heir's use goes", x.drop(1, 0, 3), 1);
        due("the other stays", x.leads(0, 0, 3, true), 1);
        due("the other's ends stay", x.ends(0, 2), 2);
        due("heir of an heir", x.heir(1, 0), 2);
        due("without the use", x.leads(2, 0, 3, true), NONE);
        x.kind(1, 0);
        x.kind(1, 0);
        x.kind(1, 0);
        due("a seventh", x.heir(0, 1), FULL);
        due("BAD ahead of FULL", x.heir(0, 5), BAD);
    }

    private static void uses() {
        StateWear x = new StateWear();
        x.kind(3, 0);
        due("use of no kind", x.use(1, 0, 0, 0, NONE), BAD);
        due("state 3", x.use(0, 3, 0, 0, NONE), BAD);
        due("state -1", x.use(0, -1, 0, 0, NONE), BAD);
        due("name 8", x.use(0, 0, 8, 0, NONE), BAD);
        due("name -1", x.use(0, 0, -1, 0, NONE), BAD);
        due("yes 3", x.use(0, 0, 0, 3, NONE), BAD);
        due("yes NONE", x.use(0, 0, 0, NONE, 0), BAD);
        due("no 3", x.use(0, 0, 0, 0, 3), BAD);
        due("no -2", x.use(0, 0, 0, 0, -2), BAD);
        due("use", x.use(0, 0, 7, 2, NONE), 1);
        due("again", x.use(0, 0, 7, 1, 1), NO);
        due("BAD ahead of NO", x.use(0, 0, 7, 3, NONE), BAD);
        due("it stays", x.leads(0, 0, 7, true), 2);
        due("not asking leads to the same", x.leads(0, 0, 7, false), 2);
        due("asking", x.use(0, 2, 0, 0, 1), 1);
        due("by yes", x.leads(0, 2, 0, true), 0);
        due("by no", x.leads(0, 2, 0, false), 1);
        due("another name", x.leads(0, 2, 1, true), NONE);
    }

    private static void drops() {
        StateWear x = new StateWear();
        x.kind(2, 0);
        x.use(0, 1, 1, 0, 1);
        due("drop of no kind", x.drop(1, 0, 0), BAD);
        due("drop state 2", x.drop(0, 2, 0), BAD);
        due("drop name 8", x.drop(0, 0, 8), BAD);
        due("drop of none", x.drop(0, 0, 1), NO);
        due("drop", x.drop(0, 1, 1), 1);
        due("drop again", x.drop(0, 1, 1), NO);
        due("gone", x.leads(0, 1, 1, false), NONE);
        due("a new one, not asking", x.use(0, 1, 1, 1, NONE), 1);
        due("its no", x.leads(0, 1, 1, false), 1);
    }

    private static void ends() {
        StateWear x = new StateWear();
        due("ends of no kind", x.ends(0, 0), BAD);
        x.kind(2, 1);
        due("ends(0, 4)", x.ends(0, 4), BAD);
        due("ends(0, -1)", x.ends(0, -1), BAD);
        due("ends(0, 2)", x.ends(0, 2), 1);
        due("ends(0, 3)", x.ends(0, 3), 2);
        due("ends(0, 0)", x.ends(0, 0), 3);
    }

    private static void leads() {
        StateWear x = new StateWear();
        x.kind(4, 0);
        due("states", x.leads(0, NONE, NONE, true), 4);
        due("state NONE alone", x.leads(0, NONE, 0, true), BAD);
        due("name NONE alone", x.leads(0, 0, NONE, true), BAD);
        due("state 4", x.leads(0, 4, 0, true), BAD);
        due("name 8", x.leads(0, 0, 8, true), BAD);
        due("kind 1", x.leads(1, NONE, NONE, true), BAD);
        due("kind -1", x.leads(-1, NONE, NONE, true), BAD);
        due("none", x.leads(0, 3, 7, true), NONE);
    }

    private static void fits() {
        StateWear x = new StateWear();
        x.kind(2, 2);
        x.use(0, 0, 0, 1, NONE);
        x.heir(0, 1);
        due("fits under itself", x.fits(0, 0), 1);
        due("an heir fits", x.fits(1, 0), 1);
        x.use(1, 1, 5, 2, NONE);
        due("with a use more it fits", x.fits(1, 0), 1);
        due("the other way it does not", x.fits(0, 1), 0);
        due("parts", x.parts(), 1);
        due("an end more", x.ends(1, 7), 2);
        due("it fits", x.fits(1, 0), 1);
        due("the end is lacking", x.fits(0, 1), 0);
        due("at once", x.parts(), 0);
        due("BAD kind", x.fits(2, 0), BAD);
        due("BAD under", x.fits(0, -1), BAD);
        due("what can't be come to does not part", x.kind(2, 0), 2);
        due("an end that is not come to", x.kind(2, 2), 3);
        due("it fits", x.fits(2, 3), 1);
    }

    private static void fitsByAsking() {
        StateWear x = new StateWear();
        x.kind(3, 0);
        x.use(0, 0, 0, 1, 2);
        x.kind(3, 0);
        x.use(1, 0, 0, 1, NONE);
        due("asking under what is not", x.fits(0, 1), 0);
        due("at once", x.parts(), 0);
        due("not asking under what is", x.fits(1, 0), 1);
        x.use(0, 2, 1, 0, NONE);
        due("by no it comes to (1, 2)", x.fits(1, 0), 0);
        due("by one use", x.parts(), 1);
        x.use(1, 1, 1, 0, NONE);
        due("now it has it too", x.fits(1, 0), 1);
        x.kind(2, 0);
        x.use(2, 0, 0, 0, 0);
        x.kind(2, 0);
        x.use(3, 0, 0, 0, NONE);
        due("asking with one state is asking", x.fits(2, 3), 0);
    }

    private static void parts() {
        StateWear x = new StateWear();
        x.kind(6, 32);
        for (int s = 0; s < 5; s++) x.use(0, s, s, s + 1, NONE);
        x.heir(0, 0);
        x.ends(1, 0);
        due("a row of five", x.fits(1, 0), 0);
        due("five uses", x.parts(), 5);
        x.use(0, 0, 7, 0, 4);
        x.use(1, 0, 7, 0, 4);
        due("with a short way", x.fits(1, 0), 0);
        due("two uses, the first by no", x.parts(), 2);
    }

    private static void partsIsKept() {
        StateWear x = new StateWear();
        x.kind(2, 1);
        x.kind(2, 0);
        due("told 1", x.fits(0, 1), 1);
        due("still NONE", x.parts(), NONE);
        due("told 0", x.fits(1, 0), 0);
        due("0", x.parts(), 0);
        x.ends(1, 1);
        due("told 1", x.fits(1, 0), 1);
        due("BAD", x.fits(1, 9), BAD);
        due("the latest 0 stays", x.parts(), 0);
    }
}
