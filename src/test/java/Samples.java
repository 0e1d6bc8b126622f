/** Objects in which much has happened already, so that whatever a refused call changes would be seen. */
final class Samples {
    private Samples() {
    }

    /** KINDS 0 (3 STATES) and 1 (4), ROUTINES 0 and 1; judged with four WRONGS, run, and parted by one USE. */
    static StateWear busy() {
        StateWear x = Sorts.withKind(2);
        x.heir(0, 1);
        x.drop(1, 1, 1);
        x.fits(1, 0);
        Sorts.write(x, 0, Sorts.MAKE, 0, 0, Sorts.NAME, 1, 0, Sorts.LEND, 1, 0, Sorts.USE, 0, 1);
        Sorts.write(x, 0, Sorts.IF, Sorts.USE, 2, 0, Sorts.END, Sorts.GIVE, 1, 1);
        Sorts.write(x, 1, Sorts.IF, Sorts.USE, 0, 0, Sorts.END);
        x.judge();
        x.run(1, 2);
        return x;
    }

    /** As the busy one, but no KIND, no ROUTINE, no STATEMENT of ROUTINE 0 more can be taken. */
    static StateWear full() {
        StateWear x = busy();
        for (int k = 2; k < 6; k++) x.kind(k, 1);
        for (int r = 2; r < 6; r++) x.routine();
        for (int i = 8; i < 24; i++) Sorts.write(x, 0, Sorts.DROP, 3);
        x.judge();
        x.run(3, 4);
        return x;
    }

    /** As the busy one, but a block of a ROUTINE is open: it can neither be judged nor run. */
    static StateWear open() {
        StateWear x = busy();
        Sorts.write(x, 1, Sorts.IF);
        return x;
    }

    /** As the busy one, but the last ROUTINE is called, and is not there. */
    static StateWear callsNobody() {
        StateWear x = busy();
        Sorts.write(x, 1, Sorts.LEAVE, Sorts.GIVE, 2, 0);
        return x;
    }

    /** KINDS and a STATEMENT, but nothing judged, nothing run, nothing parted yet. */
    static StateWear fresh() {
        StateWear x = Sorts.withKind(1);
        Sorts.write(x, 0, Sorts.MAKE, 0, 0);
        return x;
    }

    /** A KIND whose USE 0 leads from each STATE to the next one, and from the last to the first; all are ENDS. */
    static int ring(StateWear x, int states) {
        int kind = x.kind(states, (1 << states) - 1);
        for (int s = 0; s < states; s++) x.use(kind, s, 0, (s + 1) % states, StateWear.NONE);
        return kind;
    }
}
