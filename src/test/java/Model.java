import java.util.ArrayList;
import java.util.Arrays;
import java.util.HashMap;
import java.util.HashSet;
import java.util.LinkedHashMap;
import java.util.List;
import java.util.Map;
import java.util.Set;
import java.util.TreeSet;

/**
 * The document once more, written as another program: it goes through trees of blocks with sets of what MAY BE,
 * where StateWear goes from place to place. What the two answer is compared.
 */
final class Model {
    static final int NONE = -1, BAD = -2, NO = -3, FULL = -4, SPENT = -5;
    static final int ON = 0, LEAVES = 1, FAILS = 2, GONE = 6;

    static final class Kind {
        int states, ends;
        Map<List<Integer>, int[]> uses = new HashMap<>();
    }

    static final class Node {
        int at, sort, a, b, middleAt = -1, endAt = -1;
        List<Node> first = new ArrayList<>(), second = new ArrayList<>();
    }

    record Thing(int kind, int state, boolean lent) { }

    record World(List<Integer> names, List<Thing> things) { }

    record Spot(int place, List<Integer> modes, World world) { }

    record CaseKey(int routine, String how, int kind, int state) { }

    static final class CaseData {
        Set<Spot> spots = new HashSet<>();
        Set<Integer> well = new TreeSet<>(), failed = new TreeSet<>();
    }

    static final class Stop extends RuntimeException {
        private static final long serialVersionUID = 1L;
        final int code, routine, place;

        Stop(int code, int routine, int place) {
            super(null, null, false, false);
            this.code = code;
            this.routine = routine;
            this.place = place;
        }
    }

    static final class Spent extends RuntimeException {
        private static final long serialVersionUID = 1L;
    }

    final List<Kind> kinds = new ArrayList<>();
    final List<List<int[]>> routines = new ArrayList<>();
    int parts = NONE;
    Map<CaseKey, CaseData> judged = new LinkedHashMap<>();
    TreeSet<Integer> wrongs = new TreeSet<>();
    int[] lastRun = null;

    boolean bits(int ends, int states) {
        return ends >= 0 && (ends >> states) == 0;
    }

    boolean in(int x, int low, int high) {
        return x >= low && x <= high;
    }

    int kind(int states, int ends) {
        if (!in(states, 1, 6) || !bits(ends, states)) return BAD;
        if (kinds.size() == 6) return FULL;
        Kind k = new Kind();
        k.states = states;
        k.ends = ends;
        kinds.add(k);
        return kinds.size() - 1;
    }

    boolean isKind(int k) {
        return in(k, 0, kinds.size() - 1);
    }

    boolean isState(int k, int s) {
        return isKind(k) && in(s, 0, kinds.get(k).states - 1);
    }

    boolean isRoutine(int r) {
        return in(r, 0, routines.size() - 1);
    }

    int heir(int kind, int more) {
        if (!isKind(kind) || !in(more, 0, 6) || kinds.get(kind).states + more > 6) return BAD;
        if (kinds.size() == 6) return FULL;
        Kind from = kinds.get(kind);
        Kind k = new Kind();
        k.states = from.states + more;
        k.ends = from.ends;
        k.uses.putAll(from.uses);
        kinds.add(k);
        return kinds.size() - 1;
    }

    int use(int kind, int state, int name, int yes, int no) {
        if (!isState(kind, state) || !in(name, 0, 7) || !isState(kind, yes)) return BAD;
        if (no != NONE && !isState(kind, no)) return BAD;
        return kinds.get(kind).uses.putIfAbsent(List.of(state, name), new int[] {yes, no}) == null ? 1 : NO;
    }

    int drop(int kind, int state, int name) {
        if (!isState(kind, state) || !in(name, 0, 7)) return BAD;
        return kinds.get(kind).uses.remove(List.of(state, name)) == null ? NO : 1;
    }

    int ends(int kind, int ends) {
        if (!isKind(kind) || !bits(ends, kinds.get(kind).states)) return BAD;
        int was = kinds.get(kind).ends;
        kinds.get(kind).ends = ends;
        return was;
    }

    static int to(int[] use, boolean yes) {
        if (use == null) return NONE;
        return yes || use[1] == NONE ? use[0] : use[1];
    }

    int leads(int kind, int state, int name, boolean yes) {
        if (!isKind(kind)) return BAD;
        if (state == NONE && name == NONE) return kinds.get(kind).states;
        if (!isState(kind, state) || !in(name, 0, 7)) return BAD;
        return to(kinds.get(kind).uses.get(List.of(state, name)), yes);
    }

    int fits(int kind, int under) {
        if (!isKind(kind) || !isKind(under)) return BAD;
        Kind k = kinds.get(kind);
        Kind p = kinds.get(under);
        Set<List<Integer>> seen = new HashSet<>();
        Set<List<Integer>> layer = new HashSet<>();
        layer.add(List.of(0, 0));
        for (int steps = 0; !layer.isEmpty(); steps++) {
            Set<List<Integer>> next = new HashSet<>();
            for (List<Integer> pair : layer) {
                int s = pair.get(0);
                int t = pair.get(1);
                boolean parted = (p.ends >> t & 1) == 1 && (k.ends >> s & 1) == 0;
                for (int name = 0; name < 8; name++) {
                    int[] pu = p.uses.get(List.of(t, name));
                    int[] ku = k.uses.get(List.of(s, name));
                    if (pu == null) continue;
                    if (ku == null || ku[1] != NONE && pu[1] == NONE) {
                        parted = true;
                    } else {
                        next.add(List.of(to(ku, true), to(pu, true)));
                        next.add(List.of(to(ku, false), to(pu, false)));
                    }
                }
                if (parted) {
                    parts = steps;
                    return 0;
                }
            }
            seen.addAll(layer);
            next.removeAll(seen);
            layer = next;
        }
        return 1;
    }

    int parts() {
        return parts;
    }

    int routine() {
        if (routines.size() == 6) return FULL;
        routines.add(new ArrayList<>());
        return routines.size() - 1;
    }

    /** The sorts of the open blocks, and "|" behind one whose ELSE or LAST is there. */
    List<String> openBlocks(int routine) {
        List<String> open = new ArrayList<>();
        for (int[] s : routines.get(routine)) {
            if (List.of(2, 3, 4, 5, 14).contains(s[0])) open.add("" + s[0]);
            if (s[0] == 6 || s[0] == 15) open.set(open.size() - 1, open.get(open.size() - 1) + "|");
            if (s[0] == 7) open.remove(open.size() - 1);
        }
        return open;
    }

    int statement(int routine, int sort, int a, int b) {
        if (!isRoutine(routine) || !in(sort, 0, 15)) return BAD;
        boolean okA = true;
        boolean okB = true;
        int keepA = a;
        int keepB = b;
        switch (sort) {
            case 0 -> { okA = in(a, 0, 4); okB = isKind(b); }
            case 1, 2, 5 -> { okA = in(a, 0, 4); okB = in(b, 0, 7); }
            case 8 -> { okA = in(a, 0, 4); okB = in(b, 0, 4); }
            case 9 -> { okA = in(a, 0, 4); keepB = 0; }
            case 10, 11 -> { okA = in(a, 0, 5); okB = in(b, 0, 4); }
            default -> { keepA = 0; keepB = 0; }
        }
        if (!okA || !okB) return BAD;
        List<String> open = openBlocks(routine);
        String inner = open.isEmpty() ? "" : open.get(open.size() - 1);
        if (sort == 6 && !inner.equals("2") && !inner.equals("3")) return NO;
        if (sort == 15 && !inner.equals("14")) return NO;
        if (sort == 7 && (inner.isEmpty() || inner.equals("14"))) return NO;
        if (List.of(2, 3, 4, 5, 14).contains(sort) && open.size() == 6) return NO;
        if (routines.get(routine).size() == 24) return FULL;
        routines.get(routine).add(new int[] {sort, keepA, keepB});
        return routines.get(routine).size();
    }

    int cut(int routine) {
        if (!isRoutine(routine)) return BAD;
        List<int[]> all = routines.get(routine);
        if (all.isEmpty()) return NO;
        all.remove(all.size() - 1);
        return all.size();
    }

    int told(int routine, int i, int what) {
        if (!isRoutine(routine) || !in(what, 0, 2)) return BAD;
        List<int[]> all = routines.get(routine);
        return in(i, 0, all.size() - 1) ? all.get(i)[what] : NONE;
    }

    int open(int routine) {
        return isRoutine(routine) ? openBlocks(routine).size() : BAD;
    }

    boolean whole() {
        if (routines.isEmpty()) return false;
        for (int r = 0; r < routines.size(); r++) {
            if (!openBlocks(r).isEmpty()) return false;
            for (int[] s : routines.get(r)) {
                if ((s[0] == 10 || s[0] == 11) && s[1] >= routines.size()) return false;
            }
        }
        return true;
    }

    // ---- trees

    private int parsed;

    List<Node> tree(int routine) {
        parsed = 0;
        return blockOf(routines.get(routine));
    }

    private List<Node> blockOf(List<int[]> all) {
        List<Node> block = new ArrayList<>();
        while (parsed < all.size()) {
            int[] s = all.get(parsed);
            if (s[0] == 6 || s[0] == 7 || s[0] == 15) return block;
            Node n = new Node();
            n.at = parsed++;
            n.sort = s[0];
            n.a = s[1];
            n.b = s[2];
            if (List.of(2, 3, 4, 5, 14).contains(n.sort)) {
                n.first = blockOf(all);
                if (all.get(parsed)[0] != 7) {
                    n.middleAt = parsed++;
                    n.second = blockOf(all);
                }
                n.endAt = parsed++;
            }
            block.add(n);
        }
        return block;
    }

    // ---- judging: sets of worlds through trees

    private Map<CaseKey, CaseData> cases;
    private TreeSet<Integer> found;
    private CaseKey now;
    private boolean changed;

    int judge() {
        if (!whole()) return NO;
        cases = new LinkedHashMap<>();
        found = new TreeSet<>();
        judged = new LinkedHashMap<>();
        wrongs = new TreeSet<>();
        cases.put(new CaseKey(0, "begin", 0, 0), new CaseData());
        try {
            do {
                changed = false;
                for (CaseKey key : new ArrayList<>(cases.keySet())) goThrough(key);
            } while (changed);
        } catch (Spent spent) {
            return SPENT;
        }
        judged = cases;
        wrongs = found;
        return wrongs.isEmpty() ? 1 : 0;
    }

    private void goThrough(CaseKey key) {
        now = key;
        List<Integer> names = new ArrayList<>(List.of(-1, -1, -1, -1, -1));
        List<Thing> things = new ArrayList<>();
        if (!key.how.equals("begin")) {
            names.set(0, 0);
            things.add(new Thing(key.kind, key.state, key.how.equals("lend")));
        }
        Set<World> start = new HashSet<>();
        start.add(new World(names, things));
        List<Set<World>> out = exec(tree(key.routine), start, List.of());
        int behind = routines.get(key.routine).size();
        Set<World> over = new HashSet<>(out.get(ON));
        over.addAll(out.get(LEAVES));
        come(behind, List.of(), over);
        close(over, cases.get(key).well);
        now = key;
        close(out.get(FAILS), cases.get(key).failed);
    }

    private void close(Set<World> worlds, Set<Integer> paper) {
        for (World w : worlds) {
            boolean left = false;
            int lentState = 0;
            for (Thing t : w.things) {
                if (t.lent) lentState = t.state;
                if (must(t)) left = true;
            }
            if (left) {
                foundWrong(routines.get(now.routine).size(), 5);
            } else if (paper.add(lentState)) {
                changed = true;
            }
        }
    }

    private boolean must(Thing t) {
        return !t.lent && t.state != GONE && (kinds.get(t.kind).ends >> t.state & 1) == 0;
    }

    private void foundWrong(int place, int which) {
        if (found.add(now.routine * 1000 + place * 10 + which)) changed = true;
    }

    private void come(int place, List<Integer> modes, Set<World> worlds) {
        CaseData data = cases.get(now);
        for (World w : worlds) {
            if (data.spots.add(new Spot(place, modes, w))) changed = true;
        }
        if (data.spots.size() > 2000) throw new Spent();
    }

    private static List<Set<World>> ways() {
        return List.of(new HashSet<>(), new HashSet<>(), new HashSet<>());
    }

    private List<Set<World>> exec(List<Node> block, Set<World> in, List<Integer> modes) {
        List<Set<World>> out = ways();
        Set<World> here = in;
        for (Node n : block) {
            if (here.isEmpty()) break;
            come(n.at, modes, here);
            List<Set<World>> one = execOne(n, here, modes);
            out.get(LEAVES).addAll(one.get(LEAVES));
            out.get(FAILS).addAll(one.get(FAILS));
            here = one.get(ON);
        }
        out.get(ON).addAll(here);
        return out;
    }

    private List<Set<World>> execOne(Node n, Set<World> in, List<Integer> modes) {
        List<Set<World>> out = ways();
        switch (n.sort) {
            case 12 -> out.get(LEAVES).addAll(in);
            case 13 -> out.get(FAILS).addAll(in);
            case 2, 3 -> {
                List<Set<World>> yes = exec(n.first, answered(n, in, true), modes);
                List<Set<World>> no = exec(n.second, answered(n, in, false), modes);
                come(n.middleAt >= 0 ? n.middleAt : n.endAt, modes, yes.get(ON));
                if (n.middleAt >= 0) come(n.endAt, modes, no.get(ON));
                for (int way = 0; way < 3; way++) {
                    out.get(way).addAll(yes.get(way));
                    out.get(way).addAll(no.get(way));
                }
            }
            case 4, 5 -> {
                Set<World> ahead = new HashSet<>(in);
                int before = -1;
                while (ahead.size() != before) {
                    before = ahead.size();
                    come(n.at, modes, ahead);
                    List<Set<World>> body = exec(n.first, answered(n, ahead, true), modes);
                    come(n.endAt, modes, body.get(ON));
                    out.get(LEAVES).addAll(body.get(LEAVES));
                    out.get(FAILS).addAll(body.get(FAILS));
                    ahead.addAll(body.get(ON));
                }
                out.get(ON).addAll(answered(n, ahead, false));
            }
            case 14 -> {
                List<Set<World>> first = exec(n.first, in, modes);
                for (int way = 0; way < 3; way++) {
                    List<Integer> inner = new ArrayList<>(modes);
                    inner.add(way);
                    come(n.middleAt, inner, first.get(way));
                    List<Set<World>> second = exec(n.second, first.get(way), inner);
                    come(n.endAt, inner, second.get(ON));
                    out.get(way).addAll(second.get(ON));
                    out.get(LEAVES).addAll(second.get(LEAVES));
                    out.get(FAILS).addAll(second.get(FAILS));
                }
            }
            default -> {
                for (World w : in) execPlain(n, w, out);
            }
        }
        return out;
    }

    private Set<World> answered(Node n, Set<World> in, boolean yes) {
        if (n.sort == 3 || n.sort == 4) return in;
        Set<World> out = new HashSet<>();
        for (World w : in) {
            int[] use = useOf(n, w);
            if (use != null) out.add(with(w, w.names.get(n.a), to(use, yes)));
        }
        return out;
    }

    private int[] useOf(Node n, World w) {
        int t = w.names.get(n.a);
        if (t < 0) {
            foundWrong(n.at, 1);
            return null;
        }
        Thing thing = w.things.get(t);
        if (thing.state == GONE) {
            foundWrong(n.at, 2);
            return null;
        }
        int[] use = kinds.get(thing.kind).uses.get(List.of(thing.state, n.b));
        if (use == null) foundWrong(n.at, 3);
        return use;
    }

    private static World with(World w, int t, int state) {
        List<Thing> things = new ArrayList<>(w.things);
        things.set(t, new Thing(things.get(t).kind, state, things.get(t).lent));
        return new World(w.names, things);
    }

    private void execPlain(Node n, World w, List<Set<World>> out) {
        List<Integer> names = new ArrayList<>(w.names);
        List<Thing> things = new ArrayList<>(w.things);
        switch (n.sort) {
            case 0 -> {
                things.add(new Thing(n.b, 0, false));
                names.set(n.a, things.size() - 1);
                renamed(n, names, things, out);
            }
            case 8 -> {
                names.set(n.a, names.get(n.b));
                renamed(n, names, things, out);
            }
            case 9 -> {
                names.set(n.a, -1);
                renamed(n, names, things, out);
            }
            case 1 -> {
                int[] use = useOf(n, w);
                if (use == null) return;
                out.get(ON).add(with(w, names.get(n.a), to(use, true)));
                out.get(ON).add(with(w, names.get(n.a), to(use, false)));
            }
            default -> call(n, w, out);
        }
    }

    private void renamed(Node n, List<Integer> names, List<Thing> things, List<Set<World>> out) {
        for (int t = 0; t < things.size(); t++) {
            if (!names.contains(t) && must(things.get(t))) {
                foundWrong(n.at, 5);
                return;
            }
        }
        List<Thing> kept = new ArrayList<>();
        List<Integer> newNames = new ArrayList<>(List.of(-1, -1, -1, -1, -1));
        Map<Integer, Integer> moved = new HashMap<>();
        for (int t = 0; t < things.size(); t++) {
            if (things.get(t).lent) {
                moved.put(t, kept.size());
                kept.add(things.get(t));
            }
        }
        for (int v = 0; v < 5; v++) {
            int t = names.get(v);
            if (t < 0) continue;
            if (!moved.containsKey(t)) {
                moved.put(t, kept.size());
                kept.add(things.get(t));
            }
            newNames.set(v, moved.get(t));
        }
        out.get(ON).add(new World(newNames, kept));
    }

    private void call(Node n, World w, List<Set<World>> out) {
        int t = w.names.get(n.b);
        if (t < 0) {
            foundWrong(n.at, 1);
            return;
        }
        Thing thing = w.things.get(t);
        if (thing.state == GONE) {
            foundWrong(n.at, 2);
            return;
        }
        if (n.sort == 11 && thing.lent) {
            foundWrong(n.at, 4);
            return;
        }
        CaseKey key = new CaseKey(n.a, n.sort == 10 ? "lend" : "give", thing.kind, thing.state);
        if (!cases.containsKey(key)) {
            cases.put(key, new CaseData());
            changed = true;
            if (cases.size() > 40) throw new Spent();
        }
        for (int s : cases.get(key).well) out.get(ON).add(with(w, t, n.sort == 10 ? s : GONE));
        for (int s : cases.get(key).failed) out.get(FAILS).add(with(w, t, n.sort == 10 ? s : GONE));
    }

    int wrong(int i, int what) {
        if (!in(what, 0, 2)) return BAD;
        if (!in(i, 0, wrongs.size() - 1)) return NONE;
        int w = new ArrayList<>(wrongs).get(i);
        return new int[] {w / 1000, w / 10 % 100, w % 10}[what];
    }

    private Set<List<Object>> worldsAt(int routine, int i) {
        Set<List<Object>> worlds = new HashSet<>();
        judged.forEach((key, data) -> {
            if (key.routine != routine) return;
            for (Spot s : data.spots) if (s.place == i) worlds.add(List.of(key, s));
        });
        return worlds;
    }

    int may(int routine, int i, int variable) {
        if (!isRoutine(routine) || !in(i, 0, routines.get(routine).size()) || !in(variable, 0, 4)) return BAD;
        int bits = 0;
        for (List<Object> pair : worldsAt(routine, i)) {
            World w = ((Spot) pair.get(1)).world;
            int t = w.names.get(variable);
            bits |= t < 0 ? 128 : 1 << w.things.get(t).state;
        }
        return bits;
    }

    int one(int routine, int i, int v, int other) {
        if (!isRoutine(routine) || !in(i, 0, routines.get(routine).size())) return BAD;
        if (!in(v, 0, 4) || !in(other, 0, 4)) return BAD;
        Set<Boolean> said = new HashSet<>();
        for (List<Object> pair : worldsAt(routine, i)) {
            List<Integer> names = ((Spot) pair.get(1)).world.names;
            said.add(names.get(v) >= 0 && names.get(v).equals(names.get(other)));
        }
        if (said.isEmpty()) return NONE;
        return said.size() == 2 ? 1 : said.contains(true) ? 2 : 0;
    }

    int paper(int routine, boolean given, int kind, int state) {
        if (!isRoutine(routine) || !isState(kind, state)) return BAD;
        CaseData data = judged.get(new CaseKey(routine, given ? "give" : "lend", kind, state));
        if (data == null) return NONE;
        int bits = 0;
        for (int s : data.well) bits |= 1 << s;
        for (int s : data.failed) bits |= 256 << s;
        return bits;
    }

    int count(int what) {
        return switch (what) {
            case 0 -> kinds.size();
            case 1 -> routines.size();
            case 2 -> wrongs.size();
            case 3 -> judged.size();
            case 4 -> judged.values().stream().mapToInt(d -> d.spots.size()).sum();
            default -> BAD;
        };
    }

    // ---- runs: real things, real calls

    static final class Real {
        int kind, state;
    }

    static final class Frame {
        int routine;
        Real[] names = new Real[5];
        Real lent;
        List<Real> own = new ArrayList<>();
    }

    private long answers;
    private int toldCount, asked, done, openNow, deepest;

    int run(long bits, int n) {
        if (!in(n, 0, 60)) return BAD;
        if (!whole()) return NO;
        lastRun = play(bits, n);
        return lastRun[0];
    }

    private int[] play(long bits, int n) {
        answers = bits;
        toldCount = n;
        asked = 0;
        done = 0;
        openNow = 0;
        deepest = 0;
        int[] end;
        try {
            Frame f = new Frame();
            int way = runRoutine(f);
            end = new int[] {way == FAILS ? 6 : 0, 0, routines.get(0).size()};
        } catch (Stop stop) {
            end = new int[] {stop.code, stop.routine, stop.place};
        }
        return new int[] {end[0], end[1], end[2], asked, done, deepest};
    }

    private int runRoutine(Frame f) {
        openNow++;
        deepest = Math.max(deepest, openNow);
        int way = runBlock(tree(f.routine), f);
        for (Real t : f.own) {
            if ((kinds.get(t.kind).ends >> t.state & 1) == 0) throw new Stop(5, f.routine, routines.get(f.routine).size());
        }
        openNow--;
        return way == FAILS ? FAILS : ON;
    }

    private void step(Frame f, int place) {
        if (done == 500) throw new Stop(7, f.routine, place);
        done++;
    }

    private boolean answer() {
        boolean yes = asked < toldCount && (answers >> asked & 1) == 1;
        asked++;
        return yes;
    }

    private int runBlock(List<Node> block, Frame f) {
        for (Node n : block) {
            int way = runOne(n, f);
            if (way != ON) return way;
        }
        return ON;
    }

    private int runOne(Node n, Frame f) {
        step(f, n.at);
        switch (n.sort) {
            case 12: return LEAVES;
            case 13: return FAILS;
            case 1:
                used(n, f, false);
                return ON;
            case 2:
            case 3: {
                boolean yes = n.sort == 3 ? answer() : used(n, f, true);
                int way = runBlock(yes ? n.first : n.second, f);
                if (way != ON) return way;
                if (yes) step(f, n.middleAt >= 0 ? n.middleAt : n.endAt);
                if (!yes && n.middleAt >= 0) step(f, n.endAt);
                return ON;
            }
            case 4:
            case 5:
                while (n.sort == 4 ? answer() : used(n, f, true)) {
                    int way = runBlock(n.first, f);
                    if (way != ON) return way;
                    step(f, n.endAt);
                    step(f, n.at);
                }
                return ON;
            case 14: {
                int way = runBlock(n.first, f);
                step(f, n.middleAt);
                int second = runBlock(n.second, f);
                if (second != ON) return second;
                step(f, n.endAt);
                return way;
            }
            case 10:
            case 11: return called(n, f);
            default:
                rename(n, f);
                return ON;
        }
    }

    private Real real(Node n, Frame f, int v) {
        Real t = f.names[v];
        if (t == null) throw new Stop(1, f.routine, n.at);
        if (t != f.lent && !f.own.contains(t)) throw new Stop(2, f.routine, n.at);
        return t;
    }

    private boolean used(Node n, Frame f, boolean always) {
        Real t = real(n, f, n.a);
        int[] use = kinds.get(t.kind).uses.get(List.of(t.state, n.b));
        if (use == null) throw new Stop(3, f.routine, n.at);
        boolean yes = (always || use[1] != NONE) && answer();
        t.state = to(use, yes);
        return yes;
    }

    private int called(Node n, Frame f) {
        Real t = real(n, f, n.b);
        if (n.sort == 11 && t == f.lent) throw new Stop(4, f.routine, n.at);
        if (openNow == 10) throw new Stop(8, f.routine, n.at);
        Frame g = new Frame();
        g.routine = n.a;
        g.names[0] = t;
        if (n.sort == 10) {
            g.lent = t;
        } else {
            g.own.add(t);
            f.own.remove(t);
        }
        return runRoutine(g);
    }

    private void rename(Node n, Frame f) {
        if (n.sort == 0) {
            Real t = new Real();
            t.kind = n.b;
            f.own.add(t);
            f.names[n.a] = t;
        } else {
            f.names[n.a] = n.sort == 8 ? f.names[n.b] : null;
        }
        for (Real t : new ArrayList<>(f.own)) {
            if (Arrays.asList(f.names).contains(t)) continue;
            if ((kinds.get(t.kind).ends >> t.state & 1) == 0) throw new Stop(5, f.routine, n.at);
            f.own.remove(t);
        }
    }

    int ended(int what) {
        if (!in(what, 0, 5)) return BAD;
        return lastRun == null ? NONE : lastRun[what];
    }

    int breaks(int n) {
        if (!in(n, 0, 8)) return BAD;
        if (!whole()) return NO;
        for (int length = 0; length <= n; length++) {
            for (int bits = 0; bits < 1 << length; bits++) {
                if (in(play(bits, length)[0], 1, 5)) return bits | 1 << length;
            }
        }
        return 0;
    }

    long digest() {
        List<Integer> all = new ArrayList<>();
        for (int k = 0; k < kinds.size(); k++) {
            all.add(kinds.get(k).states);
            all.add(kinds.get(k).ends);
            for (int s = 0; s < kinds.get(k).states; s++) {
                for (int name = 0; name < 8; name++) {
                    all.add(leads(k, s, name, true));
                    all.add(leads(k, s, name, false));
                }
            }
        }
        for (List<int[]> r : routines) {
            all.add(r.size());
            for (int[] s : r) for (int x : s) all.add(x);
        }
        long h = 29;
        for (int v : all) h = 31 * h + v;
        return h;
    }
}
