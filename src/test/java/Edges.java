import java.util.ArrayList;
import java.util.List;

/** Numbers about the bounds of what a number may be, and refusals that must change nothing. */
final class Edges {
    static final int LOWEST = Integer.MIN_VALUE, HIGHEST = Integer.MAX_VALUE;

    interface Maker {
        StateWear make();
    }

    interface Call {
        long of(StateWear x);
    }

    interface NumberCall {
        long of(StateWear x, int number);
    }

    private final Due due;

    Edges(Due due) {
        this.due = due;
    }

    /** One and two below and above, the smallest and the largest ints, and some that look like low in fewer bits. */
    static int[] outside(int low, int high) {
        return new int[] {LOWEST, LOWEST + 1, LOWEST + low, low - 2, low - 1, high + 1, high + 2, low + 64, low + 256,
            low + 65536, HIGHEST - 1, HIGHEST};
    }

    /** The answer is due, and behind it the object answers all as one that was never asked. */
    void changesNothing(String call, Maker maker, Call asked, long want) {
        StateWear x = maker.make();
        due.due(call, asked.of(x), want);
        dueAlike(call + ", what is seen after it", x, maker.make());
    }

    /** It is BAD for each number outside of what it may be. */
    void badOutside(String call, Maker maker, int low, int high, NumberCall asked) {
        for (int number : outside(low, high)) {
            changesNothing(call + " with " + number, maker, x -> asked.of(x, number), StateWear.BAD);
        }
    }

    void dueAlike(String what, StateWear x, StateWear twin) {
        List<String> got = seen(x);
        List<String> want = seen(twin);
        due.due(what + ": how many answers", got.size(), want.size());
        for (int i = 0; i < got.size() && i < want.size(); i++) {
            boolean alike = got.get(i).equals(want.get(i));
            due.holds(alike ? what : what + ": " + got.get(i) + " is as without it, " + want.get(i), alike);
        }
    }

    /** What an object answers; fewer calls than 300, as it may be used for 512 in all. */
    private static List<String> seen(StateWear x) {
        List<String> all = new ArrayList<>();
        all.add("digest " + x.digest());
        all.add("parts " + x.parts());
        seeJudged(x, all);
        seeEnded(x, all);
        for (int r = 0; r < 6; r++) all.add("open " + r + " " + x.open(r));
        all.add("run " + x.run(5, 3));
        seeEnded(x, all);
        all.add("breaks " + x.breaks(3));
        all.add("judge " + x.judge());
        for (int what = 0; what < 5; what++) all.add("count " + what + " " + x.count(what));
        return all;
    }

    private static void seeEnded(StateWear x, List<String> all) {
        for (int what = 0; what < 6; what++) all.add("ended " + what + " " + x.ended(what));
    }

    private static void seeJudged(StateWear x, List<String> all) {
        for (int what = 0; what < 5; what++) all.add("count " + what + " " + x.count(what));
        for (int i = 0; i < 5; i++) {
            for (int what = 0; what < 3; what++) all.add("wrong " + i + " " + what + " " + x.wrong(i, what));
        }
        for (int r = 0; r < 2; r++) {
            for (int i = 0; i < 25; i++) {
                all.add("may " + r + " " + i + " " + x.may(r, i, 0) + " " + x.may(r, i, 1));
                all.add("one " + r + " " + i + " " + x.one(r, i, 0, 1));
            }
            for (int s = 0; s < 6; s++) {
                all.add("paper " + r + " " + s + " " + x.paper(r, false, 0, s) + " " + x.paper(r, true, 0, s));
            }
        }
    }
}
