import java.util.ArrayList;
import java.util.Arrays;
import java.util.HashMap;
import java.util.List;
import java.util.Map;
import java.util.Random;

/**
 * Asks the class and a second, slow reading of the document the same questions on plans
 * that are made by chance (of fixed seeds), and tells every answer in which they differ.
 */
public final class OracleTest {
    private static int wrong = 0;
    private static int asked = 0;

    private static void due(String call, long got, long want) {
        asked++;
        if (got != want && wrong++ < 40) {
            System.out.println(call + " answered " + got + ", due is " + want);
        }
    }

    record Way(int kind, int a, int b) { }

    record Standing(int h, int i, int r, int turn, int s0, int s1) { }

    record Knowledge(int h, int i, int set, int rounds) { }

    static final class Model {
        int p, hunters = 1, sight = 1;
        final List<Way> ways = new ArrayList<>();
        boolean[] well, hill;
        Map<Standing, Integer> lengths;
        final Map<Knowledge, Boolean> sure = new HashMap<>();

        Model copy() {
            Model m = new Model();
            m.p = p;
            m.hunters = hunters;
            m.sight = sight;
            m.ways.addAll(ways);
            m.well = well.clone();
            m.hill = hill.clone();
            return m;
        }

        List<Integer> shutters() {
            List<Integer> found = new ArrayList<>();
            for (int w = 0; w < ways.size(); w++) {
                int k = ways.get(w).kind();
                if (k == 2 || k == 3 || k == 5) {
                    found.add(w);
                }
            }
            return found;
        }

        boolean joined(int a, int b) {
            for (Way w : ways) {
                if (w.a() == a && w.b() == b || w.a() == b && w.b() == a) {
                    return true;
                }
            }
            return false;
        }

        int shutOfWay(Standing s, int w) {
            int k = shutters().indexOf(w);
            return k < 0 ? 0 : k == 0 ? s.s0() : s.s1();
        }

        /** Where one who stands at a place comes over a way, or -1. */
        int over(Standing s, int w, int from, boolean runner) {
            Way way = ways.get(w);
            if (shutOfWay(s, w) != 0 || way.a() != from && way.b() != from) {
                return -1;
            }
            int to = way.a() == from ? way.b() : way.a();
            switch (way.kind()) {
                case 1: return runner ? to : -1;
                case 3: return runner ? -1 : to;
                case 4: return runner && !joined(s.h(), from) && !joined(s.i(), from) ? to : -1;
                case 5: return from == way.a() ? to : -1;
                default: return to;
            }
        }

        Standing next(Standing s, int h, int i, int r, int passed) {
            int[] shut = {Math.max(0, s.s0() - 1), Math.max(0, s.s1() - 1)};
            int k = passed < 0 ? -1 : shutters().indexOf(passed);
            if (k >= 0) {
                shut[k] = ways.get(passed).kind() == 3 ? 2 : 1;
            }
            return new Standing(Math.min(h, i), Math.max(h, i), r, 1 - s.turn(), shut[0], shut[1]);
        }

        /** Standings by move, null where it may not be. */
        Standing[] nexts(Standing s) {
            Standing[] found = new Standing[33];
            if (s.turn() == 0 || well[s.r()]) {
                found[0] = next(s, s.h(), s.i(), s.r(), -1);
            }
            for (int w = 0; w < ways.size(); w++) {
                if (s.turn() == 1) {
                    int to = over(s, w, s.r(), true);
                    if (to >= 0) {
                        found[1 + w] = next(s, s.h(), s.i(), to, w);
                    }
                    continue;
                }
                int to = over(s, w, s.h(), false);
                if (to >= 0) {
                    found[1 + w] = next(s, to, hunters == 1 ? to : s.i(), s.r(), w);
                }
                int too = s.h() == s.i() ? -1 : over(s, w, s.i(), false);
                if (too >= 0) {
                    found[17 + w] = next(s, s.h(), too, s.r(), w);
                }
            }
            return found;
        }

        boolean caught(Standing s) {
            if (s.h() == s.r() || s.i() == s.r()) {
                return true;
            }
            return s.turn() == 1 && Arrays.stream(nexts(s)).allMatch(x -> x == null);
        }

        List<Standing> all() {
            List<Standing> found = new ArrayList<>();
            int n = shutters().size();
            for (int h = 0; h < p; h++) {
                for (int i = h; i < (hunters == 1 ? h + 1 : p); i++) {
                    for (int r = 0; r < p; r++) {
                        for (int turn = 0; turn < 2; turn++) {
                            for (int s0 = 0; s0 < (n > 0 ? 3 : 1); s0++) {
                                for (int s1 = 0; s1 < (n > 1 ? 3 : 1); s1++) {
                                    found.add(new Standing(h, i, r, turn, s0, s1));
                                }
                            }
                        }
                    }
                }
            }
            return found;
        }

        /** Layer by layer: what n turns more or less can do, till a layer finds nothing. */
        void solve() {
            lengths = new HashMap<>();
            List<Standing> rest = new ArrayList<>();
            Map<Standing, Standing[]> led = new HashMap<>();
            for (Standing s : all()) {
                if (caught(s)) {
                    lengths.put(s, 0);
                } else {
                    rest.add(s);
                    led.put(s, nexts(s));
                }
            }
            boolean more = true;
            for (int n = 1; more; n++) {
                Map<Standing, Integer> layer = new HashMap<>();
                for (Standing s : rest) {
                    boolean any = false, every = true;
                    for (Standing t : led.get(s)) {
                        if (t != null) {
                            any |= lengths.containsKey(t);
                            every &= lengths.containsKey(t);
                        }
                    }
                    if (s.turn() == 0 ? any : every) {
                        layer.put(s, n);
                    }
                }
                lengths.putAll(layer);
                rest.removeIf(layer::containsKey);
                more = !layer.isEmpty();
            }
        }

        int length(Standing s) {
            return lengths.getOrDefault(s, -1);
        }

        int best(Standing s) {
            if (caught(s)) {
                return -1;
            }
            int found = -1;
            long value = 0;
            Standing[] led = nexts(s);
            for (int m = 0; m < led.length; m++) {
                if (led[m] != null) {
                    long v = length(led[m]) < 0 ? 1L << 40 : length(led[m]);
                    if (s.turn() == 1) {
                        v = -v;
                    }
                    if (found < 0 || v < value) {
                        found = m;
                        value = v;
                    }
                }
            }
            return found;
        }

        int moves(Standing s) {
            return caught(s) ? 0 : (int) Arrays.stream(nexts(s)).filter(x -> x != null).count();
        }

        List<Standing> counted() {
            List<Standing> found = new ArrayList<>();
            for (Standing s : all()) {
                if (s.turn() == 0 && s.s0() == 0 && s.s1() == 0 && s.h() != s.r() && s.i() != s.r()) {
                    found.add(s);
                }
            }
            return found;
        }

        int won() {
            return (int) counted().stream().filter(s -> length(s) > 0).count();
        }

        int longest() {
            return counted().stream().mapToInt(s -> Math.max(0, length(s))).max().orElse(0);
        }

        List<Integer> puzzles(int n) {
            List<Integer> found = new ArrayList<>();
            for (Standing s : counted()) {
                if (length(s) == n) {
                    long led = Arrays.stream(nexts(s)).filter(t -> t != null && length(t) == n - 1).count();
                    if (led == 1) {
                        found.add(100 * s.h() + 10 * s.i() + s.r());
                    }
                }
            }
            found.sort(null);
            return found;
        }

        List<int[]> turnings() {
            List<int[]> found = new ArrayList<>();
            permute(new int[p], 0, found);
            return found;
        }

        private void permute(int[] g, int at, List<int[]> found) {
            if (at == p) {
                if (turns(g)) {
                    found.add(g.clone());
                }
                return;
            }
            for (int y = 0; y < p; y++) {
                boolean free = true;
                for (int k = 0; k < at; k++) {
                    free &= g[k] != y;
                }
                if (free) {
                    g[at] = y;
                    permute(g, at + 1, found);
                }
            }
        }

        private boolean turns(int[] g) {
            for (int x = 0; x < p; x++) {
                if (well[x] != well[g[x]] || hill[x] != hill[g[x]]) {
                    return false;
                }
            }
            return ways(null).equals(ways(g));
        }

        /** The ways as texts in order, named anew. */
        private List<String> ways(int[] g) {
            List<String> found = new ArrayList<>();
            for (Way w : ways) {
                int a = g == null ? w.a() : g[w.a()];
                int b = g == null ? w.b() : g[w.b()];
                boolean round = w.kind() != 5 && a > b;
                found.add(w.kind() + " " + (round ? b : a) + " " + (round ? a : b));
            }
            found.sort(null);
            return found;
        }

        int alike(int h, int i, int r, List<int[]> turnings) {
            int found = 999;
            for (int[] g : turnings) {
                int x = g[h], y = g[hunters == 1 ? h : i];
                found = Math.min(found, 100 * Math.min(x, y) + 10 * Math.max(x, y) + g[r]);
            }
            return found;
        }

        int fairer() {
            int found = -1;
            int off = Integer.MAX_VALUE;
            for (int w = 0; w < ways.size(); w++) {
                Model m = copy();
                m.ways.remove(w);
                m.solve();
                int o = Math.abs(2 * m.won() - m.counted().size());
                if (o < off) {
                    off = o;
                    found = 100 + w;
                }
            }
            for (int a = 0; a < p && ways.size() < 16; a++) {
                for (int b = a + 1; b < p; b++) {
                    if (!joined(a, b)) {
                        Model m = copy();
                        m.ways.add(new Way(0, a, b));
                        m.solve();
                        int o = Math.abs(2 * m.won() - m.counted().size());
                        if (o < off) {
                            off = o;
                            found = 200 + 10 * a + b;
                        }
                    }
                }
            }
            return found;
        }

        int far(int from, int to) {
            int[] d = new int[p];
            Arrays.fill(d, 99);
            d[from] = 0;
            for (int k = 0; k < p; k++) {
                for (Way w : ways) {
                    d[w.a()] = Math.min(d[w.a()], d[w.b()] + 1);
                    d[w.b()] = Math.min(d[w.b()], d[w.a()] + 1);
                }
            }
            return d[to];
        }

        int sees(int h, int i) {
            int found = 0;
            for (int x = 0; x < p; x++) {
                if (far(h, x) <= sight + (hill[h] ? 1 : 0) || hunters == 2 && far(i, x) <= sight + (hill[i] ? 1 : 0)) {
                    found |= 1 << x;
                }
            }
            return found;
        }

        /** Places to which a runner that may be in a set comes, hunters' places aside. */
        int reach(int h, int i, int set, int s0, int s1) {
            int found = 0;
            for (int x = 0; x < p; x++) {
                if ((set >> x & 1) != 0) {
                    Standing s = new Standing(h, i, x, 1, s0, s1);
                    for (Standing t : nexts(s)) {
                        if (t != null && t.r() != h && t.r() != i) {
                            found |= 1 << t.r();
                        }
                    }
                }
            }
            return found;
        }

        List<Integer> looks(int h, int i, int set) {
            List<Integer> found = new ArrayList<>();
            int seen = sees(h, i);
            for (int x = 0; x < p; x++) {
                if ((set & seen & 1 << x) != 0) {
                    found.add(1 << x);
                }
            }
            found.add(set & ~seen);
            return found;
        }

        boolean sureIn(int h, int i, int set, int rounds) {
            if (set == 0) {
                return true;
            }
            if (rounds == 0) {
                return false;
            }
            Knowledge key = new Knowledge(h, i, set, rounds);
            Boolean known = sure.get(key);
            if (known == null) {
                known = false;
                for (int m = 0; m < 33 && !known; m++) {
                    known = sureWith(h, i, set, rounds, m);
                }
                sure.put(key, known);
            }
            return known;
        }

        boolean sureWith(int h, int i, int set, int rounds, int m) {
            Standing t = nexts(new Standing(h, i, 0, 0, 0, 0))[m];
            if (t == null) {
                return false;
            }
            int left = set & ~(1 << t.h()) & ~(1 << t.i());
            for (int look : looks(t.h(), t.i(), left)) {
                for (int then : looks(t.h(), t.i(), reach(t.h(), t.i(), look, 0, 0))) {
                    if (!sureIn(t.h(), t.i(), then, rounds - 1)) {
                        return false;
                    }
                }
            }
            return true;
        }

        int least(int h, int i, int set) {
            for (int k = 0; k <= 12; k++) {
                if (sureIn(h, i, set, k)) {
                    return k;
                }
            }
            return -1;
        }

        int first(int h, int i, int set) {
            int k = least(h, i, set);
            for (int m = 0; m < 33 && k > 0; m++) {
                if (sureWith(h, i, set, k, m)) {
                    return m;
                }
            }
            return -1;
        }
    }

    private static Model made(Random chance, WolfVillage x, int places, boolean shutters, int mostWays) {
        Model m = new Model();
        m.p = places;
        m.well = new boolean[places];
        m.hill = new boolean[places];
        m.hunters = 1 + chance.nextInt(2);
        m.sight = chance.nextInt(4);
        x.tell(0, m.hunters);
        x.tell(1, m.sight);
        int wells = chance.nextInt(4);
        for (int k = 0; k < places; k++) {
            m.well[k] = wells > 0 && chance.nextInt(5) < wells;
            m.hill[k] = chance.nextInt(4) == 0;
            x.ground(k, (m.well[k] ? 1 : 0) + (m.hill[k] ? 2 : 0));
        }
        int n = chance.nextInt(4) == 0 ? mostWays : chance.nextInt(mostWays + 1);
        boolean plain = chance.nextInt(3) == 0;
        for (int k = 0; k < n; k++) {
            int kind = plain && chance.nextInt(4) > 0 ? 0 : chance.nextInt(6);
            int a = chance.nextInt(places);
            int b = (a + 1 + chance.nextInt(places - 1)) % places;
            boolean shutter = kind == 2 || kind == 3 || kind == 5;
            if (shutter && (!shutters || m.shutters().size() == 2)) {
                kind = 0;
            }
            due("way", x.way(kind, a, b), m.ways.size());
            m.ways.add(new Way(kind, a, b));
        }
        int less = chance.nextInt(4) == 0 ? chance.nextInt(m.ways.size() + 1) : 0;
        for (int k = 0; k < less; k++) {
            m.ways.remove(m.ways.size() - 1);
            due("unway", x.unway(), m.ways.size());
        }
        return m;
    }

    /** Another plan behind answers for the first: what was kept of those must not be answered. */
    private static void change(Random chance, Model m, WolfVillage x, boolean shutters) {
        int what = chance.nextInt(4);
        if (what == 0) {
            m.hunters = 3 - m.hunters;
            x.tell(0, m.hunters);
        } else if (what == 1) {
            int k = chance.nextInt(m.p);
            m.well[k] = !m.well[k];
            x.ground(k, (m.well[k] ? 1 : 0) + (m.hill[k] ? 2 : 0));
        } else {
            if (!m.ways.isEmpty()) {
                m.ways.remove(m.ways.size() - 1);
                due("unway", x.unway(), m.ways.size());
            }
            int[] kinds = shutters && m.shutters().size() < 2 ? new int[] {2, 3, 5} : new int[] {0, 1, 4};
            Way way = new Way(kinds[chance.nextInt(3)], chance.nextInt(m.p - 1), m.p - 1);
            due("way", x.way(way.kind(), way.a(), way.b()), m.ways.size());
            m.ways.add(way);
        }
        m.sure.clear();
    }

    private static void askStandings(Model m, WolfVillage x, String name) {
        m.solve();
        for (Standing s : m.all()) {
            int shut = 3 * s.s1() + s.s0();
            String told = name + " " + s;
            due(told + " length", x.length(s.h(), s.i(), s.r(), s.turn(), shut), m.length(s));
            due(told + " best", x.best(s.i(), s.h(), s.r(), s.turn(), shut), m.best(s));
            due(told + " moves", x.moves(s.h(), s.i(), s.r(), s.turn(), shut), m.moves(s));
        }
        due(name + " won", x.solved(0), m.won());
        due(name + " all", x.solved(1), m.counted().size());
        due(name + " longest", x.solved(2), m.longest());
        int puzzles = 0;
        for (int n = 1; n <= m.longest() + 1; n++) {
            List<Integer> found = m.puzzles(n);
            puzzles += found.size();
            due(name + " puzzles " + n, x.puzzle(n, -1), found.size());
            for (int k = 0; k < found.size(); k++) {
                due(name + " puzzle " + n + " " + k, x.puzzle(n, k), found.get(k));
            }
            due(name + " puzzle behind the last", x.puzzle(n, found.size()), -1);
        }
        due(name + " grade", x.says(0), m.longest() * 10 + puzzles);
        due(name + " fair", x.says(1), m.won() * 2 == m.counted().size() ? 1 : 0);
    }

    private static void askTurnings(Model m, WolfVillage x, String name) {
        List<int[]> turnings = m.turnings();
        due(name + " turnings", x.turnings(), turnings.size());
        for (int h = 0; h < m.p; h++) {
            for (int i = 0; i < m.p; i++) {
                for (int r = 0; r < m.p; r++) {
                    due(name + " alike " + h + i + r, x.alike(h, i, r), m.alike(h, i, r, turnings));
                }
            }
        }
    }

    private static void askHidden(Model m, WolfVillage x, String name) {
        for (int h = 0; h < m.p; h++) {
            for (int i = h; i < (m.hunters == 1 ? h + 1 : m.p); i++) {
                due(name + " sees", x.sees(i, h), m.sees(h, i));
                for (int set = 0; set < 1 << m.p; set++) {
                    String told = name + " " + h + " " + i + " " + set;
                    due(told + " sure", x.sure(i, h, set), m.least(h, i, set));
                    due(told + " first", x.first(h, i, set), m.first(h, i, set));
                }
            }
        }
    }

    /** A game with moves by chance, best ones and taking back. */
    private static void askGame(Model m, WolfVillage x, Random chance, String name) {
        int h = chance.nextInt(m.p);
        int i = m.hunters == 1 ? h : chance.nextInt(m.p);
        int r = chance.nextInt(m.p);
        if (r == h || r == i) {
            due(name + " start", x.start(h, i, r), -3);
            return;
        }
        Standing s = new Standing(Math.min(h, i), Math.max(h, i), r, 0, 0, 0);
        int known = look(m, s, ((1 << m.p) - 1) & ~(1 << h) & ~(1 << i));
        due(name + " start", x.start(h, i, r), known);
        List<Standing> past = new ArrayList<>();
        List<Integer> pastKnown = new ArrayList<>();
        int kept = 0;
        for (int k = 0; k < 200; k++) {
            String told = name + " turn " + k + " " + s;
            int what = chance.nextInt(12);
            if (what == 0) {
                if (kept == 0) {
                    due(told + " back", x.back(), -3);
                } else {
                    kept--;
                    s = past.remove(past.size() - 1);
                    known = pastKnown.remove(pastKnown.size() - 1);
                    due(told + " back", x.back(), past.size());
                }
            } else {
                boolean best = what < 3;
                int move = best ? m.best(s) : chance.nextInt(33);
                if (!best && chance.nextInt(3) > 0) {
                    move = chance.nextInt(m.ways.size() + 1);
                }
                Standing t = m.caught(s) || move < 0 ? null : m.nexts(s)[move];
                if (t != null) {
                    past.add(s);
                    pastKnown.add(known);
                    kept = Math.min(64, kept + 1);
                    known = s.turn() == 0 ? known & ~(1 << t.h()) & ~(1 << t.i())
                            : m.reach(s.h(), s.i(), known, s.s0(), s.s1());
                    s = t;
                    known = look(m, s, known);
                }
                if (best) {
                    due(told + " play", x.play(1), t == null ? 0 : 1);
                } else {
                    due(told + " move " + move, x.move(move), t == null ? -3 : known);
                }
            }
            due(told + " told 0", x.told(0), s.h());
            due(told + " told 1", x.told(1), s.i());
            due(told + " told 2", x.told(2), s.r());
            due(told + " told 3", x.told(3), s.turn());
            due(told + " told 4", x.told(4), 3 * s.s1() + s.s0());
            due(told + " told 5", x.told(5), known);
            due(told + " told 6", x.told(6), past.size());
            due(told + " told 7", x.told(7), m.caught(s) ? 1 : 0);
            due(told + " told 8", x.told(8), m.length(s));
        }
    }

    private static int look(Model m, Standing s, int known) {
        int seen = m.sees(s.h(), s.i());
        return (seen >> s.r() & 1) != 0 ? 1 << s.r() : known & ~seen;
    }

    /** A plan on which some sets take all 12 rounds, and some more. */
    private static void askDeepHidden() {
        int[][] ways = {{0, 2, 4}, {0, 0, 1}, {4, 1, 3}, {0, 1, 4}, {1, 0, 4}, {0, 1, 2}, {0, 1, 0}, {4, 3, 1}, {0, 3, 0}, {0, 0, 5}};
        WolfVillage x = new WolfVillage(3);
        Model m = new Model();
        m.p = 6;
        m.well = new boolean[] {false, false, true, false, false, false};
        m.hill = new boolean[6];
        m.sight = 0;
        x.tell(1, 0);
        x.ground(2, 1);
        for (int[] w : ways) {
            x.way(w[0], w[1], w[2]);
            m.ways.add(new Way(w[0], w[1], w[2]));
        }
        due("twelve rounds", x.sure(1, 1, 21), 12);
        askHidden(m, x, "deep");
    }

    /** Seeds in a row give nearly the same first numbers, so they are strewn and some are left out. */
    private static Random chanceOf(int seed) {
        Random chance = new Random(seed * 2654435769L);
        for (int k = 0; k < 10; k++) {
            chance.nextInt();
        }
        return chance;
    }

    public static void main(String[] args) {
        int rounds = args.length > 0 ? Integer.parseInt(args[0]) : 1;
        for (int seed = 1; seed <= 60 * rounds; seed++) {
            Random chance = chanceOf(seed);
            int places = 3 + seed % 6;
            WolfVillage x = new WolfVillage(places - 3 - 6 * chance.nextInt(3));
            Model m = made(chance, x, places, true, 16);
            String name = "plan " + seed;
            askStandings(m, x, name);
            if (places < 8 || seed % 24 == 5) {
                askTurnings(m, x, name);
            }
            for (int k = 0; k < 5; k++) {
                askGame(m, x, chance, name + " game " + k);
            }
            change(chance, m, x, true);
            askStandings(m, x, name + " changed");
            if (places < 8) {
                askTurnings(m, x, name + " changed");
            }
        }
        for (int seed = 1; seed <= 60 * rounds; seed++) {
            Random chance = chanceOf(-seed);
            int places = 3 + seed % 4;
            WolfVillage x = new WolfVillage(places - 3);
            Model m = made(chance, x, places, false, seed % 3 == 0 ? 16 : 10);
            askHidden(m, x, "hidden " + seed);
            change(chance, m, x, false);
            askHidden(m, x, "hidden, changed " + seed);
        }
        askDeepHidden();
        for (int seed = 1; seed <= 25 * rounds; seed++) {
            Random chance = chanceOf(1000000 + seed);
            int places = 3 + seed % (seed % 5 == 0 ? 6 : 4);
            WolfVillage x = new WolfVillage(places - 3);
            Model m = made(chance, x, places, false, seed % 3 == 0 ? 16 : 8);
            m.solve();
            due("fairer " + seed, x.fairer(), m.fairer());
            due("fairer, then won " + seed, x.solved(0), m.won());
            change(chance, m, x, false);
            due("fairer, changed " + seed, x.fairer(), m.fairer());
        }
        System.out.println(asked + " answers, " + wrong + " wrong");
        if (wrong != 0) {
            System.exit(1);
        }
    }
}
