/**
 * A StateWear and a Model that are asked the same; what they answer is compared. An object may be used for 512 calls,
 * so that beyond these the Model answers alone.
 */
final class Both {
    private static final int CALLS = 512;

    private final StateWear x = new StateWear();
    private final Model m = new Model();
    private final Due due;
    private final String at;
    private int calls = 0;

    Both(Due due, String at) {
        this.due = due;
        this.at = at;
    }

    int left() {
        return CALLS - calls;
    }

    private interface Call {
        long ofObject();
    }

    private long compared(long want, Call call, Object... words) {
        if (calls >= CALLS) return want;
        calls++;
        long got = call.ofObject();
        if (got == want) due.due("", got, want);
        else due.due(at + "call " + calls + ", " + java.util.Arrays.toString(words), got, want);
        return want;
    }

    int kind(int states, int ends) {
        return (int) compared(m.kind(states, ends), () -> x.kind(states, ends), "kind", states, ends);
    }

    int heir(int kind, int more) {
        return (int) compared(m.heir(kind, more), () -> x.heir(kind, more), "heir", kind, more);
    }

    int use(int kind, int state, int name, int yes, int no) {
        return (int) compared(m.use(kind, state, name, yes, no), () -> x.use(kind, state, name, yes, no),
                "use", kind, state, name, yes, no);
    }

    int drop(int kind, int state, int name) {
        return (int) compared(m.drop(kind, state, name), () -> x.drop(kind, state, name), "drop", kind, state, name);
    }

    int ends(int kind, int ends) {
        return (int) compared(m.ends(kind, ends), () -> x.ends(kind, ends), "ends", kind, ends);
    }

    int leads(int kind, int state, int name, boolean yes) {
        return (int) compared(m.leads(kind, state, name, yes), () -> x.leads(kind, state, name, yes),
                "leads", kind, state, name, yes);
    }

    int fits(int kind, int under) {
        return (int) compared(m.fits(kind, under), () -> x.fits(kind, under), "fits", kind, under);
    }

    int parts() {
        return (int) compared(m.parts(), x::parts, "parts");
    }

    int routine() {
        return (int) compared(m.routine(), x::routine, "routine");
    }

    int statement(int routine, int sort, int a, int b) {
        return (int) compared(m.statement(routine, sort, a, b), () -> x.statement(routine, sort, a, b),
                "statement", routine, sort, a, b);
    }

    int cut(int routine) {
        return (int) compared(m.cut(routine), () -> x.cut(routine), "cut", routine);
    }

    int told(int routine, int i, int what) {
        return (int) compared(m.told(routine, i, what), () -> x.told(routine, i, what), "told", routine, i, what);
    }

    int open(int routine) {
        return (int) compared(m.open(routine), () -> x.open(routine), "open", routine);
    }

    int judge() {
        return (int) compared(m.judge(), x::judge, "judge");
    }

    int wrong(int i, int what) {
        return (int) compared(m.wrong(i, what), () -> x.wrong(i, what), "wrong", i, what);
    }

    int may(int routine, int i, int variable) {
        return (int) compared(m.may(routine, i, variable), () -> x.may(routine, i, variable), "may", routine, i, variable);
    }

    int one(int routine, int i, int v, int other) {
        return (int) compared(m.one(routine, i, v, other), () -> x.one(routine, i, v, other), "one", routine, i, v, other);
    }

    int paper(int routine, boolean given, int kind, int state) {
        return (int) compared(m.paper(routine, given, kind, state), () -> x.paper(routine, given, kind, state),
                "paper", routine, given, kind, state);
    }

    int count(int what) {
        return (int) compared(m.count(what), () -> x.count(what), "count", what);
    }

    int run(long answers, int n) {
        return (int) compared(m.run(answers, n), () -> x.run(answers, n), "run", answers, n);
    }

    int ended(int what) {
        return (int) compared(m.ended(what), () -> x.ended(what), "ended", what);
    }

    int breaks(int n) {
        return (int) compared(m.breaks(n), () -> x.breaks(n), "breaks", n);
    }

    long digest() {
        return compared(m.digest(), x::digest, "digest");
    }
}
