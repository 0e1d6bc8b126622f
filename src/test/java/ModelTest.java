import java.util.Arrays;
import java.util.Random;

/** Compares StateWear with the Model over random programs; the arguments: the first seed and how many. */
public final class ModelTest {
    private static final Due DUE = new Due("ModelTest");
    private static final int[] JUDGED = new int[3];
    private static final int[] ENDED = new int[9];

    private final Random random;
    private final Both both;
    private int kinds = 0;
    private int routines = 0;
    private boolean rich = false;
    private boolean lenient = false;
    private boolean quiet = false;

    private ModelTest(long seed) {
        random = new Random(seed * 7919 + 13);
        both = new Both(DUE, "seed " + seed + ": ");
    }

    public static void main(String[] args) {
        long first = args.length > 0 ? Long.parseLong(args[0]) : 1;
        long howMany = args.length > 1 ? Long.parseLong(args[1]) : 2500;
        for (long seed = first; seed < first + howMany && DUE.wrongs() < 20; seed++) new ModelTest(seed).compare();
        System.out.println("judge told SPENT, 0, 1: " + Arrays.toString(JUDGED) + "; runs told 0 .. 8: "
                + Arrays.toString(ENDED));
        for (int told = 0; told < 3; told++) DUE.holds("judge told each answer", JUDGED[told] > 0);
        for (int told = 0; told < 9; told++) DUE.holds("a run told " + told, ENDED[told] > 0);
        DUE.end();
    }

    private int upTo(int n) {
        return random.nextInt(n + 1);
    }

    private boolean oneIn(int n) {
        return random.nextInt(n) == 0;
    }

    private void compare() {
        rich = oneIn(3);
        quiet = rich && oneIn(2);
        lenient = rich || !oneIn(3);
        writeKinds();
        writeRoutines();
        judge();
        while (both.left() > 0) {
            int what = upTo(9);
            if (what < 5) read();
            else if (what < 7) run();
            else if (what < 8) breaks();
            else if (what < 9) askOutside();
            else change();
        }
    }

    private void writeKinds() {
        kinds = 1 + upTo(rich ? 2 : 3);
        for (int k = 0; k < kinds; k++) {
            if (k == 0 || !oneIn(3) || both.heir(upTo(k - 1), upTo(1)) < 0) writeKind();
            writeUses(k);
        }
    }

    private void writeKind() {
        int states = rich ? 6 : 1 + upTo(lenient ? 3 : 5);
        int ends = rich || lenient && !oneIn(3) ? (1 << states) - 1 : random.nextInt(1 << states);
        both.kind(states, ends);
    }

    private void writeUses(int kind) {
        int states = both.leads(kind, -1, -1, true);
        for (int s = 0; s < states; s++) {
            for (int name = 0; name < 8; name++) {
                if (!lenient && oneIn(2) || lenient && !rich && oneIn(12)) continue;
                both.use(kind, s, name, upTo(states - 1), !quiet && oneIn(2) ? upTo(states - 1) : -1);
            }
        }
    }

    private void writeRoutines() {
        routines = 1 + upTo(oneIn(3) && !rich ? 5 : 2);
        for (int r = 0; r < routines; r++) both.routine();
        for (int r = 0; r < routines; r++) {
            if (rich) writeRich(r);
            else if (lenient && r == 0) {
                for (int v = upTo(4); v >= 0; v--) both.statement(0, Sorts.MAKE, v, upTo(kinds - 1));
            }
            write(r, rich ? upTo(4) : 1 + upTo(23));
        }
    }

    /** So many STATEMENTS at most, and what closes all blocks. */
    private void write(int r, int howMany) {
        for (int i = 0; i < howMany; i++) {
            if (putSome(r) == Model.FULL) break;
        }
        for (int tries = 0; tries < 50 && both.open(r) > 0; tries++) {
            if (both.statement(r, Sorts.END, 0, 0) > 0 || both.statement(r, Sorts.LAST, 0, 0) > 0) continue;
            for (int c = 1 + upTo(4); c > 0; c--) both.cut(r);
        }
    }

    private int putSome(int r) {
        int[] sorts = {0, 0, 1, 1, 1, 2, 2, 3, 3, 4, 5, 6, 6, 7, 7, 7, 8, 8, 9, 10, 10, 11, 12, 13, 14, 14, 15, 15};
        int sort = sorts[random.nextInt(sorts.length)];
        int v = oneIn(2) ? 0 : upTo(4);
        int other = oneIn(2) ? 0 : upTo(4);
        if (sort == Sorts.MAKE) return both.statement(r, sort, v, upTo(kinds - 1));
        if (sort == Sorts.LEND || sort == Sorts.GIVE) return both.statement(r, sort, upTo(routines - 1), other);
        return both.statement(r, sort, v, sort == Sorts.NAME ? other : upTo(7));
    }

    /** Rarely anything that is WRONG, so that much MAY BE and runs go far. */
    private void writeRich(int r) {
        for (int v = r == 0 ? 0 : 1; v < 5; v++) both.statement(r, Sorts.MAKE, v, upTo(kinds - 1));
        if (quiet || oneIn(2)) both.statement(r, Sorts.WHILE, 0, 0);
        for (int i = 0; i < 20; i++) putRich(r);
    }

    private void putRich(int r) {
        int[] sorts = {0, 1, 1, 1, 1, 1, 2, 3, 5, 6, 7, 8, 10, 10, 14, 15, 15};
        if (quiet) sorts = new int[] {1, 1, 1, 1, 1, 1, 8, 8, 9, 10, 14, 15};
        int sort = oneIn(40) ? Sorts.GIVE + upTo(2) : sorts[random.nextInt(sorts.length)];
        if (sort == Sorts.MAKE) both.statement(r, sort, upTo(4), upTo(kinds - 1));
        else if (sort == Sorts.LEND || sort == Sorts.GIVE) {
            both.statement(r, sort, r < routines - 1 ? r + 1 : upTo(routines - 1), upTo(4));
        } else both.statement(r, sort, upTo(4), sort == Sorts.NAME ? upTo(4) : upTo(7));
    }

    private int judge() {
        int told = both.judge();
        if (both.left() == 0) return told;
        if (told == Model.SPENT) JUDGED[0]++;
        if (told >= 0) JUDGED[1 + told]++;
        return told;
    }

    /** What was judged, here and there. */
    private void read() {
        int r = upTo(routines - 1);
        int i = upTo(oneIn(2) ? 25 : 8);
        both.may(r, i, upTo(4));
        both.one(r, i, upTo(4), upTo(4));
        both.told(r, i, upTo(2));
        both.wrong(upTo(oneIn(2) ? 20 : 3), upTo(2));
        both.paper(r, oneIn(2), upTo(kinds - 1), upTo(oneIn(2) ? 5 : 1));
        both.count(upTo(4));
        if (oneIn(8)) both.digest();
    }

    private void run() {
        int told = oneIn(3) ? judge() : Model.NO;
        int n = oneIn(3) ? 60 : upTo(12);
        int end = both.run(oneIn(3) ? -1L : random.nextLong(), n);
        if (both.left() < 80) return;
        if (end >= 0) ENDED[end]++;
        for (int what = 0; what < 6; what++) both.ended(what);
        if (told >= 0 && end >= 1 && end <= 5) judgeToldOf(end);
    }

    /** What a run finds WRONG the judge must have told. */
    private void judgeToldOf(int end) {
        boolean found = false;
        for (int i = 0; i < both.count(2) && !found && both.left() > 20; i++) {
            found = both.wrong(i, 2) == end && both.wrong(i, 0) == both.ended(1) && both.wrong(i, 1) == both.ended(2);
        }
        if (both.left() > 20) DUE.holds("the judge told what the run found", found);
    }

    private void breaks() {
        both.breaks(upTo(6));
        both.ended(upTo(5));
    }

    private void change() {
        int k = upTo(kinds - 1);
        int s = upTo(5);
        int name = upTo(7);
        both.drop(k, s, name);
        both.use(k, s, name, 0, -1);
        both.ends(k, random.nextInt(16));
        int r = upTo(routines - 1);
        for (int c = upTo(3); c > 0; c--) both.cut(r);
        write(r, upTo(4));
        if (oneIn(2)) judge();
    }

    /** Mostly small, often just outside of what it may be, sometimes far away. */
    private int number() {
        int[] far = {Integer.MIN_VALUE, Integer.MIN_VALUE + 1, -256, -8, 24, 25, 60, 61, 63, 64, 256, 65536,
            Integer.MAX_VALUE - 1, Integer.MAX_VALUE};
        return oneIn(6) ? far[random.nextInt(far.length)] : upTo(10) - 2;
    }

    private void askOutside() {
        switch (upTo(20)) {
            case 0 -> both.kind(number(), number());
            case 1 -> both.heir(number(), number());
            case 2 -> both.use(number(), number(), number(), number(), number());
            case 3 -> both.drop(number(), number(), number());
            case 4 -> both.ends(number(), number());
            case 5 -> both.leads(number(), number(), number(), oneIn(2));
            case 6, 7 -> both.fits(upTo(kinds), upTo(kinds));
            case 8 -> both.statement(number(), upTo(17) - 1, number(), number());
            case 9 -> both.cut(number());
            case 10 -> both.told(number(), number(), number());
            case 11 -> both.open(number());
            case 12 -> both.wrong(number(), number());
            case 13 -> both.may(number(), number(), number());
            case 14 -> both.one(number(), number(), number(), number());
            case 15 -> both.paper(number(), oneIn(2), number(), number());
            case 16 -> both.count(number());
            case 17 -> both.run(random.nextLong(), number());
            case 18 -> both.ended(number());
            case 19 -> both.breaks(number());
            default -> both.routine();
        }
        both.parts();
    }
}
