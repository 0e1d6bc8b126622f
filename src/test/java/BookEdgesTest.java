/** The bounds of promises 1 to 9, a test for each sentence that names one. */
public final class BookEdgesTest {
    private static final int NONE = StateWear.NONE, BAD = StateWear.BAD, NO = StateWear.NO, FULL = StateWear.FULL;
    private static final int LOWEST = Edges.LOWEST, HIGHEST = Edges.HIGHEST;
    private static final Due DUE = new Due("BookEdgesTest");
    private static final Edges EDGES = new Edges(DUE);

    public static void main(String[] args) {
        newObject();
        statesOfAKind();
        endsOfAKind();
        sixKinds();
        heirsOfWhichKind();
        heirsWithSixStates();
        heirAsItIs();
        usesWhere();
        usesWhither();
        oneUseAtMost();
        allUses();
        dropsWhere();
        dropsWhatIsThere();
        endsWhich();
        endsTellBefore();
        leadsHowMany();
        leadsWhere();
        leadsByEachAnswer();
        fitsWhich();
        fitsByEnds();
        fitsByUses();
        fitsByAsking();
        fitsByLikeAnswers();
        fitsByWhatIsComeTo();
        fitsByEachOnesOwnState();
        partsBeforeAny();
        partsFarAway();
        partsInTheLastOfAllPairs();
        partsByTheNearest();
        partsOfTheLatest();
        DUE.end();
    }

    private static void due(String call, long got, long want) {
        DUE.due(call, got, want);
    }

    private static int states(StateWear x, int kind) {
        return x.leads(kind, NONE, NONE, true);
    }

    /** "No KINDS, no ROUTINES." */
    private static void newObject() {
        StateWear x = new StateWear();
        due("KINDS of a new object", x.count(0), 0);
        due("ROUTINES of a new object", x.count(1), 0);
        due("KIND 0 is not there", states(x, 0), BAD);
        due("ROUTINE 0 is not there", x.open(0), BAD);
        due("its digest", x.digest(), 29);
        due("its first KIND", x.kind(1, 0), 0);
        due("its first ROUTINE", x.routine(), 0);
        due("another object has none of them", new StateWear().count(0), 0);
    }

    /** "as many as told, 1 to 6" */
    private static void statesOfAKind() {
        StateWear x = new StateWear();
        for (int states = 1; states <= 6; states++) {
            due("kind of " + states, x.kind(states, 0), states - 1);
            due("its STATES", states(x, states - 1), states);
            due("its last STATE", x.leads(states - 1, states - 1, 0, true), NONE);
            due("one behind its last", x.leads(states - 1, states, 0, true), BAD);
        }
        EDGES.badOutside("kind(n, 0)", Samples::busy, 1, 6, (y, n) -> y.kind(n, 0));
        EDGES.badOutside("kind(n, 1)", StateWear::new, 1, 6, (y, n) -> y.kind(n, 1));
    }

    /** "BAD: also an END that is no STATE" */
    private static void endsOfAKind() {
        StateWear x = new StateWear();
        for (int states = 1; states <= 6; states++) {
            int all = (1 << states) - 1;
            due("all ENDS of " + states, x.kind(states, all), states - 1);
            due("they are", x.ends(states - 1, 0), all);
            int many = states;
            for (int bit = states; bit < 32; bit++) {
                int ends = 1 << bit;
                due("END " + bit + " of " + states, new StateWear().kind(many, ends), BAD);
                due("beside right ones", new StateWear().kind(many, ends | all), BAD);
            }
            EDGES.badOutside("kind(" + states + ", n)", Samples::busy, 0, all, (y, n) -> y.kind(many, n));
        }
    }

    /** "FULL: 6", and BAD ahead of it */
    private static void sixKinds() {
        StateWear x = new StateWear();
        for (int k = 0; k < 6; k++) due("kind " + k, x.kind(6, k), k);
        due("six", x.count(0), 6);
        for (int k = 0; k < 6; k++) due("ENDS of " + k, x.ends(k, k), k);
        EDGES.changesNothing("a seventh KIND", Samples::full, y -> y.kind(1, 0), FULL);
        EDGES.changesNothing("a seventh KIND with 6 STATES", Samples::full, y -> y.kind(6, 63), FULL);
        EDGES.changesNothing("BAD ahead of FULL, STATES", Samples::full, y -> y.kind(0, 0), BAD);
        EDGES.changesNothing("BAD ahead of FULL, STATES", Samples::full, y -> y.kind(7, 0), BAD);
        EDGES.changesNothing("BAD ahead of FULL, ENDS", Samples::full, y -> y.kind(1, 2), BAD);
        EDGES.changesNothing("a seventh KIND as an HEIR", Samples::full, y -> y.heir(0, 0), FULL);
        EDGES.changesNothing("with STATES more", Samples::full, y -> y.heir(0, 3), FULL);
        EDGES.changesNothing("BAD ahead of FULL, KIND", Samples::full, y -> y.heir(6, 0), BAD);
        EDGES.changesNothing("BAD ahead of FULL, KIND", Samples::full, y -> y.heir(-1, 0), BAD);
        EDGES.changesNothing("BAD ahead of FULL, above 6 STATES", Samples::full, y -> y.heir(0, 4), BAD);
        EDGES.changesNothing("BAD ahead of FULL, fewer STATES", Samples::full, y -> y.heir(0, -1), BAD);
        StateWear z = new StateWear();
        z.kind(1, 0);
        for (int k = 1; k < 6; k++) due("heir " + k, z.heir(k - 1, 1), k);
        due("an HEIR of the sixth", z.heir(5, 0), FULL);
    }

    private static void heirsOfWhichKind() {
        EDGES.badOutside("heir(n, 0)", Samples::busy, 0, 1, (y, n) -> y.heir(n, 0));
        EDGES.badOutside("heir(n, 1)", Samples::fresh, 0, 0, (y, n) -> y.heir(n, 1));
        EDGES.changesNothing("an HEIR of none", StateWear::new, y -> y.heir(0, 0), BAD);
        due("the lowest KIND", Samples.busy().heir(0, 0), 2);
        due("the highest KIND", Samples.busy().heir(1, 0), 2);
    }

    /** "BAD: also above 6 STATES" */
    private static void heirsWithSixStates() {
        for (int states = 1; states <= 6; states++) {
            int many = states;
            Edges.Maker maker = () -> {
                StateWear x = new StateWear();
                x.kind(many, 1);
                return x;
            };
            StateWear x = maker.make();
            due("with none more", x.heir(0, 0), 1);
            due("as many STATES", states(x, 1), states);
            due("up to 6", x.heir(0, 6 - states), 2);
            due("6 STATES", states(x, 2), 6);
            EDGES.badOutside("heir(0, n) of " + states, maker, 0, 6 - states, (y, n) -> y.heir(0, n));
        }
    }

    /** "with the same STATES, ENDS, USES, as they are, and so many STATES more" */
    private static void heirAsItIs() {
        StateWear x = new StateWear();
        x.kind(4, 9);
        x.use(0, 3, 7, 0, 3);
        x.use(0, 0, 0, 3, NONE);
        due("heir", x.heir(0, 2), 1);
        due("an ASKING USE by yes", x.leads(1, 3, 7, true), 0);
        due("by no", x.leads(1, 3, 7, false), 3);
        due("one that is not ASKING", x.leads(1, 0, 0, false), 3);
        due("is none in the HEIR either", x.fits(1, 0) + x.fits(0, 1), 2);
        for (int name = 0; name < 8; name++) {
            due("a STATE more has no USE " + name, x.leads(1, 4, name, true), NONE);
            due("nor the last one", x.leads(1, 5, name, false), NONE);
        }
        due("a STATE more is no END", x.ends(1, 63), 9);
        due("the HEIR's ENDS are its own", x.ends(0, 15), 9);
        x.drop(0, 3, 7);
        due("the HEIR's USES are its own", x.leads(1, 3, 7, true), 0);
        x.use(1, 1, 1, 5, NONE);
        due("the other has none of them", x.leads(0, 1, 1, true), NONE);
        due("a later HEIR has what is there now", x.heir(0, 0), 2);
        due("no USE that went", x.leads(2, 3, 7, true), NONE);
        due("ENDS as they are", x.ends(2, 0), 15);
    }

    /** "In a STATE of a KIND a NAME": each number by itself */
    private static void usesWhere() {
        EDGES.badOutside("use of KIND n", Samples::busy, 0, 1, (y, n) -> y.use(n, 2, 7, 0, NONE));
        EDGES.badOutside("use in STATE n of 3", Samples::busy, 0, 2, (y, n) -> y.use(0, n, 7, 0, NONE));
        EDGES.badOutside("use in STATE n of 4", Samples::busy, 0, 3, (y, n) -> y.use(1, n, 7, 0, 0));
        EDGES.badOutside("use by NAME n", Samples::busy, 0, 7, (y, n) -> y.use(0, 2, n, 0, NONE));
        EDGES.changesNothing("use of none", StateWear::new, y -> y.use(0, 0, 0, 0, NONE), BAD);
        StateWear x = Samples.busy();
        due("the first STATE", x.use(1, 0, 7, 0, NONE), 1);
        due("the last STATE", x.use(1, 3, 0, 0, NONE), 1);
        due("the last NAME", x.use(1, 3, 7, 0, NONE), 1);
    }

    /** "leads to a STATE; ASKING: to one by yes, to another one by no (no NONE: it is not ASKING)" */
    private static void usesWhither() {
        EDGES.badOutside("use to STATE n", Samples::busy, 0, 2, (y, n) -> y.use(0, 2, 7, n, NONE));
        EDGES.badOutside("use to STATE n by yes", Samples::busy, 0, 2, (y, n) -> y.use(0, 2, 7, n, 0));
        EDGES.badOutside("use to STATE n by no", Samples::busy, NONE, 2, (y, n) -> y.use(0, 2, 7, 0, n));
        EDGES.changesNothing("NONE by yes and by no", Samples::busy, y -> y.use(0, 2, 7, NONE, NONE), BAD);
        StateWear x = Samples.busy();
        due("to the first", x.use(0, 2, 1, 0, NONE), 1);
        due("to the last", x.use(0, 2, 2, 2, NONE), 1);
        due("to the first by no", x.use(0, 2, 3, 2, 0), 1);
        due("to the last by no", x.use(0, 2, 4, 0, 2), 1);
        due("by no, not ASKING", x.leads(0, 2, 2, false), 2);
        due("by no, ASKING", x.leads(0, 2, 3, false), 0);
        due("by no, ASKING", x.leads(0, 2, 4, false), 2);
        due("by yes", x.leads(0, 2, 4, true), 0);
    }

    /** "In a STATE a NAME has one USE at most", "NO: the STATE has one by this NAME" */
    private static void oneUseAtMost() {
        EDGES.changesNothing("the same again", Samples::busy, y -> y.use(0, 0, 0, 1, NONE), NO);
        EDGES.changesNothing("another one", Samples::busy, y -> y.use(0, 0, 0, 2, 0), NO);
        EDGES.changesNothing("an ASKING one again", Samples::busy, y -> y.use(0, 1, 1, 2, 0), NO);
        EDGES.changesNothing("one that is not ASKING", Samples::busy, y -> y.use(0, 1, 1, 0, NONE), NO);
        EDGES.changesNothing("BAD ahead of NO, yes", Samples::busy, y -> y.use(0, 0, 0, 3, NONE), BAD);
        EDGES.changesNothing("BAD ahead of NO, no", Samples::busy, y -> y.use(0, 0, 0, 0, 3), BAD);
        StateWear x = Samples.busy();
        due("by another NAME", x.use(0, 0, 1, 1, NONE), 1);
        due("in another STATE", x.use(0, 2, 0, 1, NONE), 1);
        due("of another KIND, where it went", x.use(1, 1, 1, 0, NONE), 1);
        due("a USE to STATE 0 is one too", x.use(1, 1, 1, 1, NONE), NO);
    }

    private static void allUses() {
        StateWear x = new StateWear();
        x.kind(6, 0);
        for (int s = 0; s < 6; s++) {
            for (int name = 0; name < 8; name++) {
                due("use", x.use(0, s, name, (s + name) % 6, (s + 2 * name) % 6), 1);
            }
        }
        for (int s = 0; s < 6; s++) {
            for (int name = 0; name < 8; name++) {
                due("by yes " + s + name, x.leads(0, s, name, true), (s + name) % 6);
                due("by no " + s + name, x.leads(0, s, name, false), (s + 2 * name) % 6);
                due("a second one", x.use(0, s, name, 0, NONE), NO);
            }
        }
    }

    private static void dropsWhere() {
        EDGES.badOutside("drop of KIND n", Samples::busy, 0, 1, (y, n) -> y.drop(n, 0, 0));
        EDGES.badOutside("drop in STATE n of 3", Samples::busy, 0, 2, (y, n) -> y.drop(0, n, 0));
        EDGES.badOutside("drop in STATE n of 4", Samples::busy, 0, 3, (y, n) -> y.drop(1, n, 0));
        EDGES.badOutside("drop by NAME n", Samples::busy, 0, 7, (y, n) -> y.drop(0, 0, n));
        EDGES.changesNothing("drop of none", StateWear::new, y -> y.drop(0, 0, 0), BAD);
    }

    /** "A USE goes: 1", "NO: there is none" */
    private static void dropsWhatIsThere() {
        EDGES.changesNothing("of another NAME", Samples::busy, y -> y.drop(0, 0, 1), NO);
        EDGES.changesNothing("of another STATE", Samples::busy, y -> y.drop(0, 2, 0), NO);
        EDGES.changesNothing("of the last NAME", Samples::busy, y -> y.drop(0, 2, 7), NO);
        EDGES.changesNothing("what went already", Samples::busy, y -> y.drop(1, 1, 1), NO);
        StateWear x = new StateWear();
        x.kind(6, 0);
        x.use(0, 5, 7, 0, 5);
        x.use(0, 5, 6, 0, NONE);
        x.use(0, 4, 7, 0, NONE);
        due("drop", x.drop(0, 5, 7), 1);
        due("by yes", x.leads(0, 5, 7, true), NONE);
        due("by no", x.leads(0, 5, 7, false), NONE);
        due("the NAME below stays", x.leads(0, 5, 6, true), 0);
        due("the STATE below stays", x.leads(0, 4, 7, true), 0);
        due("again", x.drop(0, 5, 7), NO);
        due("one to STATE 0 goes too", x.drop(0, 5, 6), 1);
        due("another one in its place", x.use(0, 5, 7, 3, NONE), 1);
        due("it is not ASKING any more", x.leads(0, 5, 7, false), 3);
    }

    private static void endsWhich() {
        EDGES.badOutside("ends of KIND n", Samples::busy, 0, 1, (y, n) -> y.ends(n, 1));
        EDGES.badOutside("ends n of 3 STATES", Samples::busy, 0, 7, (y, n) -> y.ends(0, n));
        EDGES.badOutside("ends n of 4 STATES", Samples::busy, 0, 15, (y, n) -> y.ends(1, n));
        EDGES.changesNothing("ends of none", StateWear::new, y -> y.ends(0, 0), BAD);
        for (int states = 1; states <= 6; states++) {
            StateWear x = new StateWear();
            x.kind(states, 0);
            due("all of " + states, x.ends(0, (1 << states) - 1), 0);
            for (int bit = states; bit < 32; bit++) due("END " + bit, x.ends(0, 1 << bit), BAD);
            due("still all", x.ends(0, 0), (1 << states) - 1);
        }
    }

    /** "The ENDS of a KIND become these: which they were." */
    private static void endsTellBefore() {
        StateWear x = new StateWear();
        x.kind(6, 33);
        due("as it was made", x.ends(0, 0), 33);
        due("none", x.ends(0, 63), 0);
        due("all", x.ends(0, 63), 63);
        due("the same again", x.ends(0, 32), 63);
        due("the last alone", x.ends(0, 1), 32);
        due("digest", x.digest() == digestWithoutUses(6, 1) ? 1 : 0, 1);
    }

    private static long digestWithoutUses(int states, int ends) {
        long h = (29L * 31 + states) * 31 + ends;
        for (int i = 0; i < states * 16; i++) h = 31 * h - 1;
        return h;
    }

    /** "Of a KIND: how many STATES (state = NONE, name NONE)" */
    private static void leadsHowMany() {
        StateWear x = Samples.busy();
        due("of the first, by no", x.leads(0, NONE, NONE, false), 3);
        due("of the last", x.leads(1, NONE, NONE, true), 4);
        EDGES.badOutside("STATES of KIND n", Samples::busy, 0, 1, (y, n) -> y.leads(n, NONE, NONE, true));
        EDGES.changesNothing("STATES of none", StateWear::new, y -> y.leads(0, NONE, NONE, false), BAD);
        for (int name = 0; name < 8; name++) {
            int by = name;
            EDGES.changesNothing("state NONE, NAME " + name, Samples::busy, y -> y.leads(0, NONE, by, true), BAD);
        }
        for (int state = 0; state < 3; state++) {
            int in = state;
            EDGES.changesNothing("name NONE, STATE " + state, Samples::busy, y -> y.leads(0, in, NONE, true), BAD);
        }
        EDGES.changesNothing("state NONE, name -2", Samples::busy, y -> y.leads(0, NONE, -2, true), BAD);
        EDGES.changesNothing("state -2, name NONE", Samples::busy, y -> y.leads(0, -2, NONE, true), BAD);
    }

    /** "else where a USE leads by yes; NONE: there is none. BAD." */
    private static void leadsWhere() {
        EDGES.badOutside("leads of KIND n", Samples::busy, 0, 1, (y, n) -> y.leads(n, 0, 0, true));
        EDGES.badOutside("leads in STATE n of 3", Samples::busy, 0, 2, (y, n) -> y.leads(0, n, 0, true));
        EDGES.badOutside("leads in STATE n of 4", Samples::busy, 0, 3, (y, n) -> y.leads(1, n, 0, false));
        EDGES.badOutside("leads by NAME n", Samples::busy, 0, 7, (y, n) -> y.leads(0, 0, n, true));
        EDGES.changesNothing("none in the last STATE", Samples::busy, y -> y.leads(0, 2, 7, true), NONE);
        EDGES.changesNothing("none by the last NAME", Samples::busy, y -> y.leads(0, 0, 7, false), NONE);
    }

    private static void leadsByEachAnswer() {
        EDGES.changesNothing("not ASKING by yes", Samples::busy, y -> y.leads(0, 0, 0, true), 1);
        EDGES.changesNothing("not ASKING by no", Samples::busy, y -> y.leads(0, 0, 0, false), 1);
        EDGES.changesNothing("ASKING by yes", Samples::busy, y -> y.leads(0, 1, 1, true), 2);
        EDGES.changesNothing("ASKING by no", Samples::busy, y -> y.leads(0, 1, 1, false), 0);
    }

    private static void fitsWhich() {
        EDGES.badOutside("fits(n, 0)", Samples::busy, 0, 1, (y, n) -> y.fits(n, 0));
        EDGES.badOutside("fits(0, n)", Samples::busy, 0, 1, (y, n) -> y.fits(0, n));
        EDGES.badOutside("fits(n, n)", Samples::busy, 0, 1, (y, n) -> y.fits(n, n));
        EDGES.changesNothing("fits of none", StateWear::new, y -> y.fits(0, 0), BAD);
        EDGES.changesNothing("what FITS changes nothing", Samples::busy, y -> y.fits(0, 1), 1);
        StateWear x = Samples.full();
        due("the last under itself", x.fits(5, 5), 1);
    }

    private static StateWear twoKinds(int states, int ends, int endsUnder) {
        StateWear x = new StateWear();
        x.kind(states, ends);
        x.kind(states, endsUnder);
        return x;
    }

    private static void dueFits(String call, StateWear x, int want) {
        due(call, x.fits(0, 1), want == NONE ? 1 : 0);
        if (want != NONE) due(call + ": parts", x.parts(), want);
    }

    /** "if p's is an END, k's is" */
    private static void fitsByEnds() {
        dueFits("both are ENDS", twoKinds(1, 1, 1), NONE);
        dueFits("neither is", twoKinds(1, 0, 0), NONE);
        dueFits("k's alone is", twoKinds(1, 1, 0), NONE);
        dueFits("p's alone is", twoKinds(1, 0, 1), 0);
        dueFits("p's alone is, of 6 STATES", twoKinds(6, 62, 1), 0);
        dueFits("STATES that are not come to", twoKinds(6, 1, 63), NONE);
        StateWear x = twoKinds(6, 31, 63);
        for (int k = 0; k < 2; k++) x.use(k, 0, 7, 5, NONE);
        dueFits("the last STATE", x, 1);
        x.ends(0, 32);
        dueFits("the first one now", x, 0);
    }

    /** "each USE that p's has k's has by that NAME" */
    private static void fitsByUses() {
        for (int name = 0; name < 8; name++) {
            StateWear x = twoKinds(1, 0, 0);
            x.use(1, 0, name, 0, NONE);
            dueFits("k has no USE " + name, x, 0);
            x.use(0, 0, (name + 1) % 8, 0, NONE);
            dueFits("but by another NAME", x, 0);
            x.use(0, 0, name, 0, NONE);
            dueFits("k has it too", x, NONE);
            x.drop(1, 0, name);
            dueFits("k alone has any", x, NONE);
        }
    }

    /** "ASKING only if p's is" */
    private static void fitsByAsking() {
        for (int asking = 0; asking < 4; asking++) {
            StateWear x = twoKinds(1, 0, 0);
            x.use(0, 0, 0, 0, (asking & 1) != 0 ? 0 : NONE);
            x.use(1, 0, 0, 0, (asking & 2) != 0 ? 0 : NONE);
            dueFits("ASKING " + asking, x, asking == 1 ? 0 : NONE);
        }
        StateWear x = twoKinds(2, 0, 0);
        x.use(0, 0, 0, 0, 0);
        dueFits("a USE more may be ASKING", x, NONE);
    }

    /** "to which both USES lead by like ANSWERS (one that is not ASKING leads to the same by each)" */
    private static void fitsByLikeAnswers() {
        StateWear x = twoKinds(3, 2, 2);
        for (int k = 0; k < 2; k++) x.use(k, 0, 0, 1, 2);
        dueFits("yes and no are never put together", x, NONE);
        x.drop(0, 0, 0);
        x.use(0, 0, 0, 2, 1);
        dueFits("by yes to (2, 1)", x, 1);
        x = twoKinds(3, 2, 2);
        x.use(0, 0, 0, 2, NONE);
        x.use(1, 0, 0, 2, 1);
        dueFits("by no: k to the same", x, 1);
        x.ends(1, 4);
        dueFits("by yes: k to the same", x, 1);
        x.ends(1, 1);
        x.ends(0, 1);
        dueFits("neither (2, 2) nor (2, 1)", x, NONE);
    }

    /** "for each pair of STATES that (0, 0) comes to" */
    private static void fitsByWhatIsComeTo() {
        StateWear x = twoKinds(3, 0, 6);
        x.use(0, 0, 0, 1, NONE);
        dueFits("k's USES alone come to no pair", x, NONE);
        x.use(1, 1, 0, 2, NONE);
        x.use(1, 2, 0, 1, NONE);
        dueFits("nor do USES in STATES that are not come to", x, NONE);
        x.use(1, 0, 0, 0, NONE);
        dueFits("(1, 0) has no USE 0 in k", x, 1);
        x.use(0, 1, 0, 2, NONE);
        dueFits("(2, 0) has none", x, 2);
        x.use(0, 2, 0, 0, NONE);
        dueFits("all the ring round", x, NONE);
    }

    /** The pair (2, 1): what k's STATE 1 and p's STATE 2 have is nothing to it. */
    private static void fitsByEachOnesOwnState() {
        for (int round = 0; round < 5; round++) {
            StateWear x = twoKinds(5, 0, 0);
            x.use(0, 0, 0, 2, NONE);
            x.use(1, 0, 0, 1, NONE);
            if (round == 1) x.use(1, 2, 3, 0, NONE);
            if (round > 1) x.use(0, 1, 3, 4, round == 2 ? 4 : NONE);
            if (round > 1) x.use(0, 2, 3, 3, round == 3 ? 3 : NONE);
            if (round > 1) x.use(1, 1, 3, 3, round == 3 ? 3 : NONE);
            if (round == 4) x.ends(0, 8);
            if (round == 4) x.ends(1, 8);
            dueFits("round " + round, x, NONE);
        }
        StateWear x = twoKinds(5, 16, 8);
        x.use(0, 0, 0, 2, NONE);
        x.use(1, 0, 0, 1, NONE);
        x.use(0, 2, 3, 0, 4);
        x.use(1, 1, 3, 4, 3);
        dueFits("(4, 3) by no, (0, 4) by yes", x, NONE);
        x.ends(1, 16);
        dueFits("(0, 4) by yes", x, 2);
    }

    /** "NONE before any" */
    private static void partsBeforeAny() {
        EDGES.changesNothing("parts of a new one", StateWear::new, StateWear::parts, NONE);
        EDGES.changesNothing("parts of a fresh one", Samples::fresh, StateWear::parts, NONE);
        StateWear x = Samples.fresh();
        due("told 1", x.fits(0, 0), 1);
        due("not told 0 yet", x.parts(), NONE);
        due("BAD", x.fits(0, 1), BAD);
        due("not told 0 yet", x.parts(), NONE);
    }

    /** Rings of 6 and 5 STATES go through 30 pairs; the last of these is 29 USES away. */
    private static void partsFarAway() {
        StateWear x = new StateWear();
        Samples.ring(x, 6);
        Samples.ring(x, 5);
        due("all 30 pairs", x.fits(0, 1), 1);
        x.ends(0, 31);
        x.ends(1, 16);
        due("told 0", x.fits(0, 1), 0);
        due("(5, 4)", x.parts(), 29);
        x.ends(0, 62);
        x.ends(1, 1);
        due("(0, 0)", x.fits(0, 1), 0);
        due("at once", x.parts(), 0);
        due("the other way all 30 pairs", x.fits(1, 0), 0);
        due("(1, 1)", x.parts(), 1);
        x.ends(0, 32);
        x.ends(1, 15);
        due("the other way", x.fits(1, 0), 0);
        due("(4, 5)", x.parts(), 29);
    }

    /** By NAME 0 k goes on alone, by NAME 1 p: they come to all 36 pairs, to (5, 5) last. */
    private static void partsInTheLastOfAllPairs() {
        StateWear x = twoKinds(6, 31, 32);
        for (int s = 0; s < 6; s++) {
            x.use(0, s, 0, Math.min(s + 1, 5), NONE);
            x.use(0, s, 1, s, NONE);
            x.use(1, s, 0, s, NONE);
            x.use(1, s, 1, Math.min(s + 1, 5), NONE);
        }
        dueFits("(5, 5)", x, 10);
        x.ends(0, 63);
        dueFits("none", x, NONE);
        x.ends(0, 30);
        dueFits("(0, 5)", x, 5);
        x.ends(0, 31);
        x.ends(1, 1);
        dueFits("(5, 0)", x, 5);
    }

    /** "The least number of USES (each with an ANSWER) that come to a pair which parts them" */
    private static void partsByTheNearest() {
        StateWear x = twoKinds(6, 0, 32);
        for (int k = 0; k < 2; k++) {
            for (int s = 0; s < 5; s++) x.use(k, s, 0, s + 1, NONE);
        }
        dueFits("a row", x, 5);
        for (int k = 0; k < 2; k++) x.use(k, 1, 7, 0, 4);
        dueFits("a short way by no", x, 3);
        for (int k = 0; k < 2; k++) x.use(k, 0, 6, 5, 0);
        dueFits("a shorter one by yes", x, 1);
        x.ends(1, 33);
        dueFits("none at all", x, 0);
    }

    /** "for the latest fits() that told 0" */
    private static void partsOfTheLatest() {
        StateWear x = Samples.busy();
        due("one USE", x.parts(), 1);
        due("told 1", x.fits(0, 1), 1);
        due("it stays", x.parts(), 1);
        due("BAD", x.fits(0, 2), BAD);
        due("it stays", x.parts(), 1);
        x.ends(0, 7);
        x.use(1, 1, 1, 0, NONE);
        due("it stays though the KINDS are others now", x.parts(), 1);
        x.ends(1, 0);
        due("told 0", x.fits(1, 0), 0);
        due("the latest", x.parts(), 0);
        EDGES.changesNothing("another one's parts", Samples::busy, StateWear::parts, 1);
        due("LOWEST", x.fits(LOWEST, 0), BAD);
        due("HIGHEST", x.fits(0, HIGHEST), BAD);
        due("it stays", x.parts(), 0);
    }
}
