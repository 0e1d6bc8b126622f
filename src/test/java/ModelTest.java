import java.util.Random;

/** Compares StateWear with the Model over random programs; the arguments: the first seed and how many. */
public final class ModelTest {
    private static final Due DUE = new Due("ModelTest");

    private final Random random;
    private final String at;
    private final StateWear x = new StateWear();
    private final Model m = new Model();
    private int kinds = 0;
    private int routines = 0;
    private boolean rich = false;
    static final int[] JUDGED = new int[4];
    static final int[] ENDED = new int[9];

    private ModelTest(long seed) {
        random = new Random(seed * 7919 + 13);
        at = "seed " + seed + ": ";
    }

    public static void main(String[] args) {
        long first = args.length > 0 ? Long.parseLong(args[0]) : 1;
        long howMany = args.length > 1 ? Long.parseLong(args[1]) : 1500;
        for (long seed = first; seed < first + howMany && DUE.wrongs() < 20; seed++) new ModelTest(seed).compare();
        System.out.println("judge told SPENT, 0, 1: " + JUDGED[0] + ", " + JUDGED[1] + ", " + JUDGED[2]
                + "; runs told 0 .. 8: " + java.util.Arrays.toString(ENDED));
        for (int told = 0; told < 3; told++) DUE.holds("judge told each answer", JUDGED[told] > 0);
        for (int told = 0; told < 9; told++) DUE.holds("a run told " + told, ENDED[told] > 0);
        DUE.end();
    }

    private void due(String call, long got, long want) {
        DUE.due(at + call, got, want);
    }

    private int upTo(int n) {
        return random.nextInt(n + 1);
    }

    private boolean oneIn(int n) {
        return random.nextInt(n) == 0;
    }

    private void compare() {
        rich = oneIn(3);
        boolean lenient = rich || !oneIn(3);
        writeKinds(lenient);
        writeRoutines(lenient);
        askAll();
        for (int round = 0; round < 3; round++) {
            change();
            askSome();
            if (oneIn(2)) askAll();
        }
        readAll();
    }

    private void writeKinds(boolean lenient) {
        kinds = 1 + upTo(3);
        for (int k = 0; k < kinds; k++) {
            if (k > 0 && oneIn(3)) {
                int from = upTo(k - 1);
                int more = upTo(1);
                int got = x.heir(from, more);
                due("heir", got, m.heir(from, more));
                if (got < 0) k--;
                else change(k, lenient);
                continue;
            }
            int states = rich ? 6 : 1 + upTo(lenient ? 3 : 5);
            int ends = rich || lenient && !oneIn(3) ? (1 << states) - 1 : random.nextInt(1 << states);
            due("kind", x.kind(states, ends), m.kind(states, ends));
            change(k, lenient);
        }
    }

    private void change(int kind, boolean lenient) {
        int states = x.leads(kind, -1, -1, true);
        for (int s = 0; s < states; s++) {
            for (int name = 0; name < 8; name++) {
                if (!lenient && oneIn(2) || lenient && !rich && oneIn(12)) continue;
                int yes = upTo(states - 1);
                int no = oneIn(2) ? upTo(states - 1) : -1;
                due("use", x.use(kind, s, name, yes, no), m.use(kind, s, name, yes, no));
            }
        }
    }

    private void writeRoutines(boolean lenient) {
        routines = 1 + upTo(oneIn(3) ? 5 : 2);
        for (int r = 0; r < routines; r++) due("routine", x.routine(), m.routine());
        for (int r = 0; r < routines; r++) write(r, 1 + upTo(23), lenient);
    }

    private void write(int r, int howMany, boolean lenient) {
        if (rich) {
            for (int v = r == 0 ? 0 : 1; v < 5; v++) put(r, 0, v, upTo(kinds - 1));
            if (oneIn(2)) put(r, 4, 0, 0);
            for (int i = 0; i < 24; i++) putRich(r);
        } else if (lenient && r == 0) {
            for (int v = 0; v < 1 + upTo(4); v++) put(r, 0, v, upTo(kinds - 1));
        }
        for (int i = 0; i < howMany; i++) putSome(r);
        for (int tries = 0; tries < 100 && x.open(r) > 0; tries++) {
            if (put(r, 7, 0, 0) > 0) continue;
            if (put(r, 15, 0, 0) > 0) continue;
            for (int c = 1 + upTo(4); c > 0; c--) due("cut", x.cut(r), m.cut(r));
        }
    }

    private int put(int r, int sort, int a, int b) {
        int got = x.statement(r, sort, a, b);
        due("statement(" + r + ", " + sort + ", " + a + ", " + b + ")", got, m.statement(r, sort, a, b));
        return got;
    }

    private void putSome(int r) {
        int[] sorts = {0, 0, 1, 1, 1, 2, 2, 3, 3, 4, 5, 6, 6, 7, 7, 7, 8, 8, 9, 10, 10, 11, 12, 13, 14, 14, 15, 15};
        int sort = sorts[random.nextInt(sorts.length)];
        int v = oneIn(2) ? 0 : upTo(4);
        int other = oneIn(2) ? 0 : upTo(4);
        if (sort == 0) put(r, 0, v, upTo(kinds - 1));
        else if (sort == 10 || sort == 11) put(r, sort, upTo(routines - 1), other);
        else if (sort == 8) put(r, 8, v, other);
        else put(r, sort, v, upTo(7));
    }

    /** Rarely anything that is WRONG, so that much MAY BE and runs go far. */
    private void putRich(int r) {
        int[] sorts = {0, 1, 1, 1, 1, 1, 2, 3, 5, 6, 7, 8, 10, 10, 14, 15, 15};
        int sort = sorts[random.nextInt(sorts.length)];
        if (oneIn(40)) sort = 11 + upTo(2);
        if (sort == 0) put(r, 0, upTo(4), upTo(kinds - 1));
        else if (sort == 10 || sort == 11) put(r, sort, r < routines - 1 ? r + 1 : upTo(routines - 1), upTo(4));
        else if (sort == 8) put(r, 8, upTo(4), upTo(4));
        else put(r, sort, upTo(4), upTo(7));
    }

    private void askAll() {
        int told = x.judge();
        due("judge", told, m.judge());
        if (told == StateWear.SPENT) JUDGED[0]++;
        if (told >= 0) JUDGED[1 + told]++;
        readAll();
        for (int i = 0; i < 6; i++) {
            long bits = oneIn(3) ? -1L : random.nextLong();
            int n = oneIn(3) ? 60 : upTo(12);
            int end = x.run(bits, n);
            due("run(" + bits + ", " + n + ")", end, m.run(bits, n));
            if (end >= 0) ENDED[end]++;
            for (int what = 0; what < 6; what++) due("ended(" + what + ")", x.ended(what), m.ended(what));
            soundness(told, end);
        }
        int n = upTo(6);
        due("breaks(" + n + ")", x.breaks(n), m.breaks(n));
        for (int what = 0; what < 6; what++) due("ended(" + what + ")", x.ended(what), m.ended(what));
    }

    /** What a run finds WRONG the judge must have told. */
    private void soundness(int told, int end) {
        if (told < 0 || end < 1 || end > 5) return;
        boolean found = false;
        for (int i = 0; i < x.count(2); i++) {
            found |= x.wrong(i, 0) == x.ended(1) && x.wrong(i, 1) == x.ended(2) && x.wrong(i, 2) == end;
        }
        DUE.holds(at + "the judge told what the run found", found);
    }

    private void readAll() {
        for (int what = -1; what < 6; what++) due("count(" + what + ")", x.count(what), m.count(what));
        for (int i = -1; i < x.count(2) + 1; i++) {
            for (int what = 0; what < 3; what++) due("wrong(" + i + ", " + what + ")", x.wrong(i, what), m.wrong(i, what));
        }
        for (int r = 0; r < routines; r++) {
            for (int i = 0; i <= 25; i++) readPlace(r, i);
            for (int k = 0; k < kinds; k++) {
                for (int s = 0; s < 6; s++) {
                    due("paper lend " + r + k + s, x.paper(r, false, k, s), m.paper(r, false, k, s));
                    due("paper give " + r + k + s, x.paper(r, true, k, s), m.paper(r, true, k, s));
                }
            }
        }
        due("digest", x.digest(), m.digest());
    }

    private void readPlace(int r, int i) {
        for (int what = 0; what < 3; what++) due("told", x.told(r, i, what), m.told(r, i, what));
        for (int v = 0; v < 5; v++) due("may(" + r + ", " + i + ", " + v + ")", x.may(r, i, v), m.may(r, i, v));
        int v = upTo(4);
        int other = upTo(4);
        due("one(" + r + ", " + i + ", " + v + ", " + other + ")", x.one(r, i, v, other), m.one(r, i, v, other));
    }

    private void change() {
        int r = upTo(routines - 1);
        int k = upTo(kinds - 1);
        int s = upTo(5);
        int name = upTo(7);
        due("drop", x.drop(k, s, name), m.drop(k, s, name));
        due("use", x.use(k, s, name, 0, -1), m.use(k, s, name, 0, -1));
        int ends = random.nextInt(16);
        due("ends", x.ends(k, ends), m.ends(k, ends));
        for (int c = upTo(3); c > 0; c--) due("cut", x.cut(r), m.cut(r));
        write(r, upTo(4), false);
    }

    /** Numbers that often are just outside of what they may be. */
    private void askSome() {
        for (int i = 0; i < 20; i++) {
            int k = upTo(7) - 1;
            int o = upTo(7) - 1;
            int s = upTo(8) - 2;
            int n = upTo(10) - 1;
            due("fits(" + k + ", " + o + ")", x.fits(k, o), m.fits(k, o));
            due("parts()", x.parts(), m.parts());
            due("leads", x.leads(k, s, n, true), m.leads(k, s, n, true));
            due("leads", x.leads(k, s, n, false), m.leads(k, s, n, false));
            due("use", x.use(k, s, n, o, s), m.use(k, s, n, o, s));
            due("drop", x.drop(k, n, s), m.drop(k, n, s));
            due("told", x.told(k, n, s), m.told(k, n, s));
            due("open", x.open(k), m.open(k));
            due("paper", x.paper(k, true, o, s), m.paper(k, true, o, s));
        }
    }
}
