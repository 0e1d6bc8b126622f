/** The STATEMENTS by name, and short ways to write a program. */
final class Sorts {
    static final int MAKE = 0, USE = 1, ASK = 2, IF = 3, WHILE = 4, LOOP = 5, ELSE = 6, END = 7;
    static final int NAME = 8, DROP = 9, LEND = 10, GIVE = 11, LEAVE = 12, FAIL = 13, TRY = 14, LAST = 15;

    private Sorts() {
    }

    /** Each STATEMENT is a sort with as many of a, b as are looked at. */
    static void write(StateWear x, int routine, int... words) {
        int i = 0;
        while (i < words.length) {
            int sort = words[i++];
            int a = 0;
            int b = 0;
            if (sort <= ASK || sort == LOOP || sort == NAME || sort == LEND || sort == GIVE) {
                a = words[i++];
                b = words[i++];
            } else if (sort == DROP) {
                a = words[i++];
            }
            if (x.statement(routine, sort, a, b) < 0) throw new IllegalStateException("statement at word " + i);
        }
    }

    /** An object with a KIND 0: 3 STATES, END 0 and 2; 0 -0-> 1; 1 -1-> 2 or 0; 2 has no USE; 0 -2-> 0. */
    static StateWear withKind(int routines) {
        StateWear x = new StateWear();
        x.kind(3, 5);
        x.use(0, 0, 0, 1, StateWear.NONE);
        x.use(0, 1, 1, 2, 0);
        x.use(0, 0, 2, 0, StateWear.NONE);
        for (int r = 0; r < routines; r++) x.routine();
        return x;
    }
}
