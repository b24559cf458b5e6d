/** Shepherds (HUNTERS) and a wolf (RUNNER) on village plans; ../shared/DOC.md tells every call. */
public final class WolfVillage {
    public static final int NONE = -1, BAD = -2, STATE = -3, FULL = -4;
    public static final long NO = -4611686018427387904L;

    private static final int NOTHING = -11, OUTSIDE = -12, OTHER_SORT = -13, BELOW_ZERO = -14;

    private static final int WAY = 0, HEDGE = 1, LOCK = 3, CREEP = 4, BRIDGE = 5;
    private static final int[] KIND_ABOVE = {NONE, 0, 0, 2, 1, 2};
    private static final int[] KIND_SHUT_FOR = {0, 0, 1, 2, 0, 1};
    private static final int KINDS = 6;

    private static final int LEAST_PLACES = 3, MOST_PLACES = 8;
    private static final int MOST_WAYS = 16, MOST_SHUTTERS = 2, MOST_SIGHT = 3;
    private static final int WELL = 1, HILL = 2, GROUNDS = 4;
    private static final int MOST_MOVE = 2 * MOST_WAYS;

    // A pair is 8 h + i, h the lesser; a position is 512 turn + 8 pair + r; a standing 1024 shut + position.
    private static final int PAIRS = 64, RUNNERS_TURN = 512, POSITIONS = 1024;
    private static final int SHUTS = 9, STANDINGS = SHUTS * POSITIONS;
    // 292 moves of a pair at 8 runner's places, and 40 of the runner at 36 pairs: 16 ways have 32 ends.
    private static final int EDGES = 292 * 8 + 40 * 36;
    private static final int MOST_LENGTH = 999;
    // Above every length and every number of standings.
    private static final int ENDLESS = 1 << 30;

    private static final int HIDDEN_PLACES = 6, HIDDEN_SETS = 64, HIDDEN_ROUNDS = 12;

    private static final int MOST_TURNS = 40, TURNS_KEPT = 64;

    private static final int TAPE = 120, MOST_TEXTS = 6, FED_AT_ONCE = 8, FAULTS = -100;
    private static final String FIRST_RULE = "grade longest * 10 + puzzles ; fair won * 2 = all ;";

    private static final int SHEETS = 4, SORTS = 3, SHEET_CELLS = 40, MOST_SHEET_WAYS = 13;

    private final Plan plan;
    private final Plan variant;
    private final Standings standings = new Standings();
    private final Namings namings = new Namings();
    private final Hidden hidden = new Hidden();
    private final Game game = new Game();
    private final Texts texts = new Texts();
    private final Sheet[] sheets = new Sheet[SHEETS];
    private int fairest = NONE;
    private int fairestVersion = NONE;

    public WolfVillage(int places) {
        int p = LEAST_PLACES + Math.floorMod(places, 6);
        plan = new Plan(p);
        variant = new Plan(p);
        for (int k = 0; k < SHEETS; k++) {
            sheets[k] = new Sheet();
        }
    }

    // ---- the plan

    public int way(int kind, int a, int b) {
        int refusal = plan.refusalOf(kind, a, b);
        if (refusal != 0) {
            return refusal;
        }
        game.on = false;
        return plan.put(kind, a, b);
    }

    public int unway() {
        if (plan.count == 0) {
            return STATE;
        }
        game.on = false;
        plan.dropLatest();
        return plan.count;
    }

    public int wayTold(int way, int what) {
        if (way < 0 || way >= plan.count) {
            return BAD;
        }
        switch (what) {
            case 0: return plan.kinds[way];
            case 1: return plan.starts[way];
            case 2: return plan.ends[way];
            case 3: return plan.shutterOf[way];
            case 4: return KIND_SHUT_FOR[plan.kinds[way]];
            default: return BAD;
        }
    }

    public int ground(int place, int what) {
        if (!plan.has(place) || what < 0 || what >= GROUNDS) {
            return BAD;
        }
        int was = plan.grounds[place];
        plan.grounds[place] = what;
        planChanged();
        return was;
    }

    public int tell(int what, int v) {
        int was;
        if (what == 0 && (v == 1 || v == 2)) {
            was = plan.hunters;
            plan.hunters = v;
        } else if (what == 1 && v >= 0 && v <= MOST_SIGHT) {
            was = plan.sight;
            plan.sight = v;
        } else {
            return BAD;
        }
        planChanged();
        return was;
    }

    private void planChanged() {
        plan.version++;
        game.on = false;
    }

    // ---- all standings

    public int length(int h, int i, int r, int turn, int shut) {
        int standing = standingOf(h, i, r, turn, shut);
        return standing < 0 ? BAD : solvedStandings().lengths[standing];
    }

    public int best(int h, int i, int r, int turn, int shut) {
        int standing = standingOf(h, i, r, turn, shut);
        return standing < 0 ? BAD : solvedStandings().bestMove(standing);
    }

    public int moves(int h, int i, int r, int turn, int shut) {
        int standing = standingOf(h, i, r, turn, shut);
        return standing < 0 ? BAD : solvedStandings().moveCount(standing);
    }

    public int solved(int what) {
        switch (what) {
            case 0: return solvedStandings().won;
            case 1: return solvedStandings().all;
            case 2: return solvedStandings().longest;
            default: return BAD;
        }
    }

    public int puzzle(int length, int i) {
        if (length < 1 || length > MOST_LENGTH) {
            return BAD;
        }
        if (i < -1) {
            return NONE;
        }
        return i == -1 ? solvedStandings().puzzleCount(length) : solvedStandings().puzzleAt(length, i);
    }

    private Standings solvedStandings() {
        if (standings.plan != plan || standings.version != plan.version) {
            standings.solve(plan);
        }
        return standings;
    }

    private int standingOf(int h, int i, int r, int turn, int shut) {
        int pair = plan.pairOf(h, i);
        if (pair < 0 || !plan.has(r) || turn < 0 || turn > 1 || shut < 0 || shut >= plan.shutStates()) {
            return NONE;
        }
        return shut * POSITIONS + turn * RUNNERS_TURN + pair * 8 + r;
    }

    // ---- plans

    public int turnings() {
        return namings.countOf(plan);
    }

    public int alike(int h, int i, int r) {
        int pair = plan.pairOf(h, i);
        if (pair < 0 || !plan.has(r)) {
            return BAD;
        }
        return namings.leastRow(plan, pair, r);
    }

    public int fairer() {
        if (plan.shutters > 0) {
            return STATE;
        }
        if (fairestVersion != plan.version) {
            fairest = fairestChange();
            fairestVersion = plan.version;
        }
        return fairest;
    }

    private int fairestChange() {
        int found = NONE;
        int nearest = ENDLESS;
        for (int w = 0; w < plan.count; w++) {
            variant.becomes(plan, w);
            standings.solve(variant);
            int off = standings.unfairness();
            if (off < nearest) {
                nearest = off;
                found = 100 + w;
            }
        }
        // A plan has 16 ways at most, so a full one can't be made fairer by one more.
        for (int a = 0; a < plan.places && plan.count < MOST_WAYS; a++) {
            for (int b = a + 1; b < plan.places; b++) {
                if ((plan.near[a] >> b & 1) != 0) {
                    continue;
                }
                variant.becomes(plan, NONE);
                variant.put(WAY, a, b);
                standings.solve(variant);
                int off = standings.unfairness();
                if (off < nearest) {
                    nearest = off;
                    found = 200 + 10 * a + b;
                }
            }
        }
        return found;
    }

    // ---- hidden

    public int sees(int h, int i) {
        int pair = plan.pairOf(h, i);
        return pair < 0 ? BAD : plan.seenFrom(pair);
    }

    public int sure(int h, int i, int set) {
        int refusal = hiddenRefusal(h, i, set);
        if (refusal != 0) {
            return refusal;
        }
        return solvedHidden().leastRounds(plan.pairOf(h, i), set);
    }

    public int first(int h, int i, int set) {
        int refusal = hiddenRefusal(h, i, set);
        if (refusal != 0) {
            return refusal;
        }
        return solvedHidden().surestMove(plan.pairOf(h, i), set);
    }

    private int hiddenRefusal(int h, int i, int set) {
        if (plan.pairOf(h, i) < 0 || set < 0 || set > plan.allPlaces()) {
            return BAD;
        }
        return plan.shutters > 0 || plan.places > HIDDEN_PLACES ? STATE : 0;
    }

    private Hidden solvedHidden() {
        if (hidden.version != plan.version) {
            hidden.solve(plan);
        }
        return hidden;
    }

    // ---- a game

    public int start(int h, int i, int r) {
        int pair = plan.pairOf(h, i);
        if (pair < 0 || !plan.has(r)) {
            return BAD;
        }
        if ((Plan.placesOf(pair) >> r & 1) != 0) {
            return STATE;
        }
        game.begin(plan, pair, r);
        return game.known;
    }

    public int move(int m) {
        if (m < 0 || m > MOST_MOVE) {
            return BAD;
        }
        if (!game.on) {
            return STATE;
        }
        Standings solved = solvedStandings();
        if (solved.lengths[game.standing] == 0 || solved.after(game.standing, m) < 0) {
            return STATE;
        }
        game.turn(solved, m);
        return game.known;
    }

    public int play(int n) {
        if (n < 1 || n > MOST_TURNS) {
            return BAD;
        }
        if (!game.on) {
            return STATE;
        }
        Standings solved = solvedStandings();
        int done = 0;
        while (done < n && solved.lengths[game.standing] != 0) {
            game.turn(solved, solved.bestMove(game.standing));
            done++;
        }
        return done;
    }

    public int back() {
        if (!game.on || game.kept == 0) {
            return STATE;
        }
        game.takeBack();
        return game.done;
    }

    public int told(int what) {
        if (what < 0 || what > 8) {
            return BAD;
        }
        if (!game.on) {
            return STATE;
        }
        int standing = game.standing;
        switch (what) {
            case 0: return standing >> 6 & 7;
            case 1: return standing >> 3 & 7;
            case 2: return standing & 7;
            case 3: return standing / RUNNERS_TURN & 1;
            case 4: return standing / POSITIONS;
            case 5: return game.known;
            case 6: return game.done;
            case 7: return solvedStandings().lengths[standing] == 0 ? 1 : 0;
            default: return solvedStandings().lengths[standing];
        }
    }

    // ---- texts

    public int feed(int n, long bytes) {
        if (n < 1 || n > FED_AT_ONCE) {
            return BAD;
        }
        if (texts.tapeSize + n > TAPE) {
            return FULL;
        }
        for (int k = 0; k < n; k++) {
            texts.tape[texts.tapeSize++] = (byte) (bytes >> 8 * k);
        }
        return texts.tapeSize;
    }

    public int text() {
        return texts.takeTape();
    }

    public int force(int text) {
        if (text < 0 || text >= texts.count) {
            return BAD;
        }
        int was = texts.rule;
        texts.rule = text;
        return was;
    }

    public long says(int part) {
        if (part < 0 || part > 1) {
            return NO;
        }
        Reader reader = texts.reader;
        Standings solved = solvedStandings();
        reader.values[0] = solved.won;
        reader.values[1] = solved.all;
        reader.values[2] = solved.longest;
        reader.values[3] = solved.allPuzzles();
        reader.values[4] = plan.count;
        reader.values[5] = namings.countOf(plan);
        reader.read(texts.rows[texts.rule], texts.sizes[texts.rule]);
        return part == 0 ? reader.grade : reader.fair;
    }

    public int count(int what) {
        switch (what) {
            case 0: return plan.places;
            case 1: return plan.count;
            case 2: return plan.shutters;
            case 3: return plan.hunters;
            case 4: return plan.sight;
            case 5: return texts.count;
            case 6: return texts.tapeSize;
            case 7: return texts.rule;
            case 8: return game.on ? 1 : 0;
            default: return BAD;
        }
    }

    // ---- the host

    public int sheet(int sheet, int sort, int n) {
        if (!isSheet(sheet) || sort < NONE || sort >= SORTS) {
            return BAD;
        }
        if (sort == NONE) {
            sheets[sheet].become(NONE, 0);
            return 1;
        }
        if (n > SHEET_CELLS) {
            return BAD;
        }
        if (n < 0) {
            return BELOW_ZERO;
        }
        sheets[sheet].become(sort, n);
        return 1;
    }

    public int cell(int sheet, int i, int v) {
        if (!isSheet(sheet)) {
            return BAD;
        }
        if (sheets[sheet].sort == NONE) {
            return NOTHING;
        }
        if (!sheets[sheet].has(i)) {
            return OUTSIDE;
        }
        sheets[sheet].put(i, v);
        return 1;
    }

    public int ways(int sheet, int sort, int from, int n) {
        if (!isSheet(sheet) || sort < 0 || sort >= SORTS || n < 0 || n > MOST_SHEET_WAYS) {
            return BAD;
        }
        Sheet row = sheets[sheet];
        if (row.sort == NONE) {
            return NOTHING;
        }
        if (row.sort != sort) {
            return OTHER_SORT;
        }
        int came = 0;
        for (int k = 0; k < n; k++) {
            int at = from + 3 * k;
            if (!row.has(at) || !row.has(at + 1) || !row.has(at + 2)) {
                return OUTSIDE;
            }
            if (way(row.cells[at], row.cells[at + 1], row.cells[at + 2]) >= 0) {
                came++;
            }
        }
        return came;
    }

    public int taken(int way, int k) {
        if (k < 0 || k >= KINDS) {
            return BAD;
        }
        if (way < 0 || way >= plan.count) {
            return NOTHING;
        }
        int kind = plan.kinds[way];
        for (int step = 0; step < KINDS && kind >= 0; step++) {
            if (kind == k) {
                return plan.starts[way];
            }
            kind = KIND_ABOVE[kind];
        }
        return OTHER_SORT;
    }

    private static boolean isSheet(int sheet) {
        return sheet >= 0 && sheet < SHEETS;
    }

    /** Places, ways and those who play on them; version tells what was reckoned for an older plan. */
    private static final class Plan {
        final int places;
        final int[] kinds = new int[MOST_WAYS];
        final int[] starts = new int[MOST_WAYS];
        final int[] ends = new int[MOST_WAYS];
        final int[] shutterOf = new int[MOST_WAYS];
        final int[] shutFor = new int[MOST_SHUTTERS];
        final int[] grounds = new int[MOST_PLACES];
        final int[] near = new int[MOST_PLACES];
        int count;
        int shutters;
        int hunters = 1;
        int sight = 1;
        int version;

        Plan(int places) {
            this.places = places;
        }

        boolean has(int place) {
            return place >= 0 && place < places;
        }

        int allPlaces() {
            return (1 << places) - 1;
        }

        int shutStates() {
            return shutters == 0 ? 1 : shutters == 1 ? 3 : SHUTS;
        }

        int refusalOf(int kind, int a, int b) {
            if (!has(a) || !has(b) || a == b || kind < 0 || kind >= KINDS) {
                return BAD;
            }
            boolean shutterTooMuch = KIND_SHUT_FOR[kind] > 0 && shutters >= MOST_SHUTTERS;
            return count >= MOST_WAYS || shutterTooMuch ? FULL : 0;
        }

        int put(int kind, int a, int b) {
            int refusal = refusalOf(kind, a, b);
            if (refusal != 0) {
                return refusal;
            }
            kinds[count] = kind;
            starts[count] = a;
            ends[count] = b;
            shutterOf[count] = NONE;
            if (KIND_SHUT_FOR[kind] > 0) {
                shutFor[shutters] = KIND_SHUT_FOR[kind];
                shutterOf[count] = shutters++;
            }
            near[a] |= 1 << b;
            near[b] |= 1 << a;
            version++;
            return count++;
        }

        void dropLatest() {
            if (count == 0) {
                return;
            }
            count--;
            if (shutterOf[count] >= 0) {
                shutters--;
            }
            // Another way may join the same places, so the neighbours are found anew.
            for (int place = 0; place < places; place++) {
                near[place] = 0;
            }
            for (int w = 0; w < count; w++) {
                near[starts[w]] |= 1 << ends[w];
                near[ends[w]] |= 1 << starts[w];
            }
            version++;
        }

        void becomes(Plan other, int without) {
            count = 0;
            shutters = 0;
            hunters = other.hunters;
            sight = other.sight;
            for (int place = 0; place < places; place++) {
                near[place] = 0;
                grounds[place] = other.grounds[place];
            }
            for (int w = 0; w < other.count; w++) {
                if (w != without) {
                    put(other.kinds[w], other.starts[w], other.ends[w]);
                }
            }
        }

        static int sortedPair(int h, int i) {
            return Math.min(h, i) * 8 + Math.max(h, i);
        }

        static int placesOf(int pair) {
            return 1 << (pair >> 3) | 1 << (pair & 7);
        }

        /** The pair of two hunters, or of one that counts as both; NONE: a place is none such. */
        int pairOf(int h, int i) {
            int second = hunters == 1 ? h : i;
            return has(h) && has(second) ? sortedPair(h, second) : NONE;
        }

        boolean isPair(int pair) {
            int h = pair >> 3;
            int i = pair & 7;
            return has(h) && has(i) && (hunters == 1 ? h == i : h <= i);
        }

        boolean isWell(int place) {
            return (grounds[place] & WELL) != 0;
        }

        private int otherEnd(int w, int from) {
            if (starts[w] == from) {
                return ends[w];
            }
            return ends[w] == from && kinds[w] != BRIDGE ? starts[w] : NONE;
        }

        private int hunterEnd(int w, int from) {
            boolean mayNot = kinds[w] == HEDGE || kinds[w] == CREEP;
            return mayNot ? NONE : otherEnd(w, from);
        }

        private int runnerEnd(int w, int from, int pair) {
            boolean mayNot = kinds[w] == LOCK || kinds[w] == CREEP && (near[from] & placesOf(pair)) != 0;
            return mayNot ? NONE : otherEnd(w, from);
        }

        /** Which shutter a move goes through, NONE: through none. */
        int shutterPassed(int m) {
            return m == 0 ? NONE : shutterOf[m - 1 & 15];
        }

        /** The pair behind a move of hunters, whatever is shut; NONE: it may not be. */
        int pairAfter(int pair, int m) {
            if (m == 0) {
                return pair;
            }
            int w = m - 1 & 15;
            boolean second = m > MOST_WAYS;
            int h = pair >> 3;
            int i = pair & 7;
            if (w >= count || second && h == i) {
                return NONE;
            }
            int to = hunterEnd(w, second ? i : h);
            if (to < 0) {
                return NONE;
            }
            return hunters == 1 ? sortedPair(to, to) : sortedPair(to, second ? h : i);
        }

        /** The runner's place behind its move, whatever is shut; NONE: it may not be. */
        int runnerAfter(int pair, int r, int m) {
            if (m == 0) {
                return isWell(r) ? r : NONE;
            }
            return m > count ? NONE : runnerEnd(m - 1, r, pair);
        }

        boolean isOpen(int w, int shut) {
            int shutter = shutterOf[w];
            return shutter < 0 || (shutter == 0 ? shut % 3 : shut / 3) == 0;
        }

        /** Places to which a runner at a place goes in one turn, none of them a hunter's. */
        int reachOf(int place, int pair, int shut) {
            int reach = isWell(place) ? 1 << place : 0;
            for (int w = 0; w < count; w++) {
                int to = isOpen(w, shut) ? runnerEnd(w, place, pair) : NONE;
                if (to >= 0) {
                    reach |= 1 << to;
                }
            }
            return reach & ~placesOf(pair);
        }

        int seenFrom(int pair) {
            return seenFromPlace(pair >> 3) | seenFromPlace(pair & 7);
        }

        private int seenFromPlace(int place) {
            int far = (grounds[place] & HILL) != 0 ? sight + 1 : sight;
            int seen = 1 << place;
            for (int step = 0; step < far; step++) {
                int further = seen;
                for (int x = 0; x < places; x++) {
                    if ((seen >> x & 1) != 0) {
                        further |= near[x];
                    }
                }
                seen = further;
            }
            return seen;
        }
    }

    /** Every standing's length, found backward from those in which the runner is caught. */
    private static final class Standings {
        Plan plan;
        int version = NONE;
        int won;
        int all;
        int longest;
        final int[] lengths = new int[STANDINGS];
        private final int[] movesLeft = new int[STANDINGS];
        private final int[] queue = new int[STANDINGS];
        private int queued;
        // Edges lead back from a position to those from which a move comes to it, whatever is shut.
        private final int[] firstEdge = new int[POSITIONS];
        private final int[] nextEdge = new int[EDGES];
        private final int[] edgeFrom = new int[EDGES];
        private final int[] edgeShutter = new int[EDGES];
        private int edges;
        private int shuts = 1;
        // Both by 9 (shutter passed + 1) + shut: what is shut then (NONE: it may not be); bits of what was shut.
        private final int[] shutThen = new int[3 * SHUTS];
        private final int[] shutBefore = new int[3 * SHUTS];
        private final boolean[] lone = new boolean[RUNNERS_TURN];
        private boolean loneKnown;

        void solve(Plan toSolve) {
            plan = toSolve;
            version = toSolve.version;
            loneKnown = false;
            clearRows();
            reckonShutting();
            for (int pair = 0; pair < PAIRS; pair++) {
                if (plan.isPair(pair)) {
                    linkHunters(pair);
                    linkRunner(pair);
                }
            }
            for (int pair = 0; pair < PAIRS; pair++) {
                if (plan.isPair(pair)) {
                    queueCaught(pair);
                }
            }
            spreadBackward();
            countWon();
        }

        private void clearRows() {
            shuts = plan.shutStates();
            queued = 0;
            edges = 0;
            for (int s = 0; s < shuts * POSITIONS; s++) {
                lengths[s] = NONE;
                movesLeft[s] = 0;
            }
            for (int position = 0; position < POSITIONS; position++) {
                firstEdge[position] = NONE;
            }
        }

        private void reckonShutting() {
            for (int k = 0; k < 3 * SHUTS; k++) {
                shutBefore[k] = 0;
            }
            for (int passed = NONE; passed < plan.shutters; passed++) {
                int row = (passed + 1) * SHUTS;
                for (int shut = 0; shut < shuts; shut++) {
                    int then0 = oneShutThen(0, passed, shut % 3);
                    int then1 = oneShutThen(1, passed, shut / 3);
                    boolean may = then0 >= 0 && then1 >= 0;
                    shutThen[row + shut] = may ? 3 * then1 + then0 : NONE;
                    if (may) {
                        shutBefore[row + 3 * then1 + then0] |= 1 << shut;
                    }
                }
            }
        }

        private int oneShutThen(int shutter, int passed, int shut) {
            if (shutter == passed) {
                return shut == 0 ? plan.shutFor[shutter] : NONE;
            }
            return Math.max(0, shut - 1);
        }

        private void linkHunters(int pair) {
            int taken = Plan.placesOf(pair);
            for (int m = 0; m <= MOST_MOVE; m++) {
                int to = plan.pairAfter(pair, m);
                if (to < 0) {
                    continue;
                }
                int shutter = plan.shutterPassed(m);
                for (int r = 0; r < plan.places; r++) {
                    if ((taken >> r & 1) == 0) {
                        addEdge(pair * 8 + r, RUNNERS_TURN + to * 8 + r, shutter);
                    }
                }
            }
        }

        private void linkRunner(int pair) {
            int taken = Plan.placesOf(pair);
            for (int r = 0; r < plan.places; r++) {
                if ((taken >> r & 1) != 0) {
                    continue;
                }
                int from = RUNNERS_TURN + pair * 8 + r;
                for (int m = 0; m <= plan.count; m++) {
                    int to = plan.runnerAfter(pair, r, m);
                    if (to >= 0) {
                        int shutter = plan.shutterPassed(m);
                        addEdge(from, pair * 8 + to, shutter);
                        countMove(from, shutter);
                    }
                }
            }
        }

        private void addEdge(int from, int to, int shutter) {
            if (edges >= EDGES) {
                return;
            }
            edgeFrom[edges] = from;
            edgeShutter[edges] = shutter;
            nextEdge[edges] = firstEdge[to];
            firstEdge[to] = edges++;
        }

        private void countMove(int position, int shutter) {
            int row = (shutter + 1) * SHUTS;
            for (int shut = 0; shut < shuts; shut++) {
                if (shutThen[row + shut] >= 0) {
                    movesLeft[shut * POSITIONS + position]++;
                }
            }
        }

        private void queueCaught(int pair) {
            int taken = Plan.placesOf(pair);
            for (int r = 0; r < plan.places; r++) {
                boolean met = (taken >> r & 1) != 0;
                for (int shut = 0; shut < shuts; shut++) {
                    int standing = shut * POSITIONS + pair * 8 + r;
                    if (met) {
                        decide(standing, 0);
                    }
                    if (met || movesLeft[standing + RUNNERS_TURN] == 0) {
                        decide(standing + RUNNERS_TURN, 0);
                    }
                }
            }
        }

        private void decide(int standing, int turns) {
            if (queued < STANDINGS) {
                lengths[standing] = turns;
                queue[queued++] = standing;
            }
        }

        private void spreadBackward() {
            for (int at = 0; at < queued && at < STANDINGS; at++) {
                int standing = queue[at];
                int shut = standing / POSITIONS;
                int edge = firstEdge[standing % POSITIONS];
                for (int step = 0; step < EDGES && edge >= 0; step++) {
                    int before = shutBefore[(edgeShutter[edge] + 1) * SHUTS + shut];
                    for (int b = 0; b < shuts; b++) {
                        if ((before >> b & 1) != 0) {
                            leadsTo(b * POSITIONS + edgeFrom[edge], lengths[standing] + 1);
                        }
                    }
                    edge = nextEdge[edge];
                }
            }
        }

        /** Lengths come rising: hunters take the first that is found, the runner the last of all. */
        private void leadsTo(int standing, int turns) {
            if (lengths[standing] >= 0) {
                return;
            }
            if (isRunnersTurn(standing)) {
                movesLeft[standing]--;
                if (movesLeft[standing] > 0) {
                    return;
                }
            }
            decide(standing, turns);
        }

        static boolean isRunnersTurn(int standing) {
            return (standing & RUNNERS_TURN) != 0;
        }

        private void countWon() {
            won = 0;
            all = 0;
            longest = 0;
            for (int standing = 0; standing < RUNNERS_TURN; standing++) {
                if (!isCounted(standing)) {
                    continue;
                }
                all++;
                if (lengths[standing] > 0) {
                    won++;
                    longest = Math.max(longest, lengths[standing]);
                }
            }
        }

        int unfairness() {
            return Math.abs(2 * won - all);
        }

        private boolean isCounted(int standing) {
            int r = standing & 7;
            int pair = standing >> 3;
            return plan.has(r) && plan.isPair(pair) && (Plan.placesOf(pair) >> r & 1) == 0;
        }

        /** The standing behind a move; NONE: it may not be. */
        int after(int standing, int m) {
            int shut = standing / POSITIONS;
            int pair = standing >> 3 & 63;
            int r = standing & 7;
            boolean runners = isRunnersTurn(standing);
            int to = runners ? plan.runnerAfter(pair, r, m) : plan.pairAfter(pair, m);
            if (to < 0) {
                return NONE;
            }
            int then = shutThen[(plan.shutterPassed(m) + 1) * SHUTS + shut];
            if (then < 0) {
                return NONE;
            }
            return then * POSITIONS + (runners ? pair * 8 + to : RUNNERS_TURN + to * 8 + r);
        }

        int moveCount(int standing) {
            if (lengths[standing] == 0) {
                return 0;
            }
            int found = 0;
            for (int m = 0; m <= MOST_MOVE; m++) {
                if (after(standing, m) >= 0) {
                    found++;
                }
            }
            return found;
        }

        int bestMove(int standing) {
            if (lengths[standing] == 0) {
                return NONE;
            }
            boolean runners = isRunnersTurn(standing);
            int found = NONE;
            int foundLength = 0;
            for (int m = 0; m <= MOST_MOVE; m++) {
                int then = after(standing, m);
                if (then < 0) {
                    continue;
                }
                int length = lengths[then] < 0 ? ENDLESS : lengths[then];
                if (found < 0 || (runners ? length > foundLength : length < foundLength)) {
                    found = m;
                    foundLength = length;
                }
            }
            return found;
        }

        private void findLone() {
            if (loneKnown) {
                return;
            }
            for (int standing = 0; standing < RUNNERS_TURN; standing++) {
                lone[standing] = lengths[standing] > 0 && shortestMoves(standing) == 1;
            }
            loneKnown = true;
        }

        private int shortestMoves(int standing) {
            int found = 0;
            for (int m = 0; m <= MOST_MOVE; m++) {
                int then = after(standing, m);
                if (then >= 0 && lengths[then] == lengths[standing] - 1) {
                    found++;
                }
            }
            return found;
        }

        int allPuzzles() {
            findLone();
            int found = 0;
            for (int standing = 0; standing < RUNNERS_TURN; standing++) {
                if (lone[standing]) {
                    found++;
                }
            }
            return found;
        }

        int puzzleCount(int length) {
            findLone();
            int found = 0;
            for (int standing = 0; standing < RUNNERS_TURN; standing++) {
                if (lone[standing] && lengths[standing] == length) {
                    found++;
                }
            }
            return found;
        }

        int puzzleAt(int length, int index) {
            findLone();
            int found = 0;
            for (int standing = 0; standing < RUNNERS_TURN; standing++) {
                if (lone[standing] && lengths[standing] == length) {
                    if (found == index) {
                        return rowTold(standing >> 3, standing & 7);
                    }
                    found++;
                }
            }
            return NONE;
        }

        static int rowTold(int pair, int r) {
            return 100 * (pair >> 3) + 10 * (pair & 7) + r;
        }
    }

    /** Namings of places anew that leave a plan as it is. */
    private static final class Namings {
        private Plan plan;
        private int version = NONE;
        private int count = NONE;
        // How many ways of each kind lead from a place to another, five bits a kind.
        private final int[] joints = new int[MOST_PLACES * MOST_PLACES];
        private final int[] names = new int[MOST_PLACES];
        private int namesUsed;

        private void take(Plan toName) {
            if (version == toName.version) {
                return;
            }
            plan = toName;
            version = toName.version;
            count = NONE;
            for (int k = 0; k < MOST_PLACES * MOST_PLACES; k++) {
                joints[k] = 0;
            }
            for (int w = 0; w < plan.count; w++) {
                int one = 1 << 5 * plan.kinds[w];
                joints[plan.starts[w] * 8 + plan.ends[w]] += one;
                if (plan.kinds[w] != BRIDGE) {
                    joints[plan.ends[w] * 8 + plan.starts[w]] += one;
                }
            }
        }

        /**
         * Turnings that leave places 0 .. x - 1 are counted by where they bring x: each of
         * these names has as many as there are that leave x too, so the counts multiply.
         */
        int countOf(Plan toName) {
            take(toName);
            if (count >= 0) {
                return count;
            }
            int product = 1;
            for (int x = 0; x < plan.places; x++) {
                int namesOfX = 0;
                for (int y = x; y < plan.places; y++) {
                    forgetNames();
                    keepNamesBelow(x);
                    if (give(x, y) && canNameRest(0)) {
                        namesOfX++;
                    }
                }
                product *= namesOfX;
            }
            count = product;
            return count;
        }

        private void keepNamesBelow(int x) {
            for (int k = 0; k < x; k++) {
                give(k, k);
            }
        }

        int leastRow(Plan toName, int pair, int r) {
            take(toName);
            for (int to = 0; to < PAIRS; to++) {
                int h = to >> 3;
                int i = to & 7;
                if (h > i || i >= plan.places) {
                    continue;
                }
                for (int c = 0; c < plan.places; c++) {
                    if (canTurn(pair, r, to, c) || canTurn(pair, r, i * 8 + h, c)) {
                        return Standings.rowTold(to, c);
                    }
                }
            }
            return Standings.rowTold(pair, r);
        }

        private boolean canTurn(int pair, int r, int toPair, int toR) {
            forgetNames();
            return give(pair >> 3, toPair >> 3) && give(pair & 7, toPair & 7) && give(r, toR) && canNameRest(0);
        }

        private void forgetNames() {
            namesUsed = 0;
            for (int k = 0; k < MOST_PLACES; k++) {
                names[k] = NONE;
            }
        }

        private boolean give(int x, int y) {
            if (names[x] >= 0) {
                return names[x] == y;
            }
            if ((namesUsed >> y & 1) != 0 || plan.grounds[x] != plan.grounds[y]) {
                return false;
            }
            for (int z = 0; z < plan.places; z++) {
                int named = names[z];
                if (named >= 0 && (joints[x * 8 + z] != joints[y * 8 + named]
                        || joints[z * 8 + x] != joints[named * 8 + y])) {
                    return false;
                }
            }
            names[x] = y;
            namesUsed |= 1 << y;
            return true;
        }

        private boolean canNameRest(int x) {
            if (x >= plan.places) {
                return true;
            }
            if (names[x] >= 0) {
                return canNameRest(x + 1);
            }
            for (int y = 0; y < plan.places; y++) {
                if (give(x, y)) {
                    if (canNameRest(x + 1)) {
                        return true;
                    }
                    names[x] = NONE;
                    namesUsed &= ~(1 << y);
                }
            }
            return false;
        }
    }

    /** The hidden game, solved round by round; a knowledge is 64 pair + set. */
    private static final class Hidden {
        int version = NONE;
        private Plan plan;
        private final int[] least = new int[PAIRS * HIDDEN_SETS];
        // In how many rounds, this one with them, it is sure behind the hunters' move; 0: not yet.
        private final int[] leastMoved = new int[PAIRS * HIDDEN_SETS];
        private final int[] reached = new int[HIDDEN_SETS];
        private int seen;

        void solve(Plan toSolve) {
            plan = toSolve;
            version = toSolve.version;
            if (plan.places > HIDDEN_PLACES) {
                return;
            }
            for (int k = 0; k < PAIRS * HIDDEN_SETS; k++) {
                least[k] = k % HIDDEN_SETS == 0 ? 0 : NONE;
                leastMoved[k] = 0;
            }
            boolean more = true;
            for (int round = 1; round <= HIDDEN_ROUNDS && more; round++) {
                more = false;
                for (int pair = 0; pair < PAIRS; pair++) {
                    if (plan.isPair(pair)) {
                        findMoved(pair, round);
                    }
                }
                for (int pair = 0; pair < PAIRS; pair++) {
                    if (plan.isPair(pair) && findLeast(pair, round)) {
                        more = true;
                    }
                }
            }
        }

        private void findMoved(int pair, int round) {
            seen = plan.seenFrom(pair);
            reckonReached(pair);
            int goodSeen = 0;
            for (int x = 0; x < plan.places; x++) {
                if ((seen >> x & 1) != 0 && isSureBehind(pair, reached[1 << x])) {
                    goodSeen |= 1 << x;
                }
            }
            for (int set = 0; set <= plan.allPlaces(); set++) {
                int k = pair * HIDDEN_SETS + set;
                if (leastMoved[k] == 0 && (set & seen & ~goodSeen) == 0 && isSureBehind(pair, reached[set & ~seen])) {
                    leastMoved[k] = round;
                }
            }
        }

        private void reckonReached(int pair) {
            reached[0] = 0;
            for (int x = 0; x < plan.places; x++) {
                int reach = plan.reachOf(x, pair, 0);
                int bit = 1 << x;
                for (int below = 0; below < bit; below++) {
                    reached[bit + below] = reached[below] | reach;
                }
            }
        }

        /** Whether an earlier round made sure of a set, whatever the second look tells. */
        private boolean isSureBehind(int pair, int set) {
            int row = pair * HIDDEN_SETS;
            if (least[row + (set & ~seen)] < 0) {
                return false;
            }
            for (int y = 0; y < plan.places; y++) {
                if ((set & seen & 1 << y) != 0 && least[row + (1 << y)] < 0) {
                    return false;
                }
            }
            return true;
        }

        private boolean findLeast(int pair, int round) {
            boolean found = false;
            for (int m = 0; m <= MOST_MOVE; m++) {
                int to = plan.pairAfter(pair, m);
                if (to < 0) {
                    continue;
                }
                for (int set = 0; set <= plan.allPlaces(); set++) {
                    int k = pair * HIDDEN_SETS + set;
                    if (least[k] < 0 && leastMoved[moved(to, set)] > 0) {
                        least[k] = round;
                        found = true;
                    }
                }
            }
            return found;
        }

        private static int moved(int pair, int set) {
            return pair * HIDDEN_SETS + (set & ~Plan.placesOf(pair));
        }

        int leastRounds(int pair, int set) {
            return least[pair * HIDDEN_SETS + set];
        }

        int surestMove(int pair, int set) {
            int rounds = leastRounds(pair, set);
            for (int m = 0; m <= MOST_MOVE && rounds > 0; m++) {
                int to = plan.pairAfter(pair, m);
                if (to >= 0) {
                    int then = leastMoved[moved(to, set)];
                    if (then > 0 && then <= rounds) {
                        return m;
                    }
                }
            }
            return NONE;
        }
    }

    /** A game that is played, with what the hunters know and the latest turns, to take them back. */
    private static final class Game {
        boolean on;
        int standing;
        int known;
        int done;
        int kept;
        private final int[] pastStandings = new int[TURNS_KEPT];
        private final int[] pastKnown = new int[TURNS_KEPT];

        void begin(Plan plan, int pair, int r) {
            on = true;
            done = 0;
            kept = 0;
            standing = pair * 8 + r;
            known = plan.allPlaces() & ~Plan.placesOf(pair);
            look(plan);
        }

        private void look(Plan plan) {
            int seen = plan.seenFrom(standing >> 3 & 63);
            int r = standing & 7;
            known = (seen >> r & 1) != 0 ? 1 << r : known & ~seen;
        }

        /** A move that may be. */
        void turn(Standings solved, int m) {
            int then = solved.after(standing, m);
            if (then < 0) {
                return;
            }
            Plan plan = solved.plan;
            pastStandings[done % TURNS_KEPT] = standing;
            pastKnown[done % TURNS_KEPT] = known;
            kept = Math.min(TURNS_KEPT, kept + 1);
            done++;
            if (Standings.isRunnersTurn(standing)) {
                known = knownBehindRunner(plan);
            } else {
                known &= ~Plan.placesOf(then >> 3 & 63);
            }
            standing = then;
            look(plan);
        }

        private int knownBehindRunner(Plan plan) {
            int reach = 0;
            for (int x = 0; x < plan.places; x++) {
                if ((known >> x & 1) != 0) {
                    reach |= plan.reachOf(x, standing >> 3 & 63, standing / POSITIONS);
                }
            }
            return reach;
        }

        void takeBack() {
            if (kept == 0 || done == 0) {
                return;
            }
            kept--;
            done--;
            standing = pastStandings[done % TURNS_KEPT];
            known = pastKnown[done % TURNS_KEPT];
        }
    }

    /** The tape and the texts that were read from it. */
    private static final class Texts {
        final byte[] tape = new byte[TAPE];
        int tapeSize;
        final byte[][] rows = new byte[MOST_TEXTS][TAPE];
        final int[] sizes = new int[MOST_TEXTS];
        int count = 1;
        int rule;
        final Reader reader = new Reader();

        Texts() {
            sizes[0] = Math.min(TAPE, FIRST_RULE.length());
            for (int k = 0; k < sizes[0]; k++) {
                rows[0][k] = (byte) FIRST_RULE.charAt(k);
            }
        }

        int takeTape() {
            if (count >= MOST_TEXTS) {
                return FULL;
            }
            int size = tapeSize;
            tapeSize = 0;
            reader.read(tape, size);
            if (reader.fault >= 0) {
                return FAULTS - reader.fault;
            }
            System.arraycopy(tape, 0, rows[count], 0, size);
            sizes[count] = size;
            return count++;
        }
    }

    /** Reads a text and reckons it at once: a method for each line of its grammar. */
    private static final class Reader {
        // A word's token is its number here: six names first, then the keys.
        private static final String WORDS = "won all longest puzzles ways turnings grade fair or and not ";
        private static final int NAMES = 6, GRADE = 6, FAIR = 7, OR = 8, AND = 9, NOT = 10;
        private static final int NUMBER = 11, END = 12, WRONG = 13;
        private static final int MOST_DIGITS = 4, MOST_OPEN = 5;

        final int[] values = new int[NAMES];
        int grade;
        int fair;
        int fault = NONE;
        private byte[] bytes = new byte[0];
        private int size;
        private int at;
        private int token = END;
        private int tokenStart;
        private int number;
        private int open;

        void read(byte[] row, int rowSize) {
            bytes = row;
            size = Math.min(rowSize, row.length);
            at = 0;
            open = 0;
            fault = NONE;
            next();
            expect(GRADE);
            grade = readE();
            expect(';');
            expect(FAIR);
            fair = readE();
            expect(';');
            expect(END);
        }

        private void expect(int due) {
            if (token == due) {
                next();
            } else {
                fail();
            }
        }

        private void fail() {
            if (fault < 0) {
                fault = tokenStart;
            }
        }

        private boolean isNow(int due) {
            return fault < 0 && token == due;
        }

        private int byteAt(int k) {
            return k < size ? bytes[k] : NONE;
        }

        private void next() {
            while (at < size && (bytes[at] == ' ' || bytes[at] == '\n')) {
                at++;
            }
            tokenStart = at;
            int c = byteAt(at);
            if (at >= size) {
                token = END;
            } else if (isLetter(c)) {
                readWord();
            } else if (isDigit(c)) {
                readNumber();
            } else {
                at++;
                token = isSign(c) ? c : WRONG;
            }
        }

        private static boolean isLetter(int c) {
            return c >= 'a' && c <= 'z';
        }

        private static boolean isDigit(int c) {
            return c >= '0' && c <= '9';
        }

        private static boolean isSign(int c) {
            return c == '(' || c == ')' || c == ';' || c == '+' || c == '-' || c == '*' || c == '<' || c == '=';
        }

        private void readWord() {
            while (at < size && isLetter(byteAt(at))) {
                at++;
            }
            int letters = at - tokenStart;
            token = WRONG;
            int word = 0;
            int matched = 0;
            boolean same = true;
            for (int k = 0; k < WORDS.length(); k++) {
                char c = WORDS.charAt(k);
                if (c != ' ') {
                    same = same && matched < letters && byteAt(tokenStart + matched) == c;
                    matched++;
                    continue;
                }
                if (same && matched == letters) {
                    token = word;
                }
                word++;
                matched = 0;
                same = true;
            }
        }

        private void readNumber() {
            number = 0;
            while (at < size && isDigit(byteAt(at))) {
                number = number * 10 + (byteAt(at) - '0');
                at++;
            }
            token = at - tokenStart <= MOST_DIGITS ? NUMBER : WRONG;
        }

        private int readE() {
            int value = readAnd();
            for (int k = 0; k < TAPE && isNow(OR); k++) {
                next();
                int other = readAnd();
                value = value != 0 || other != 0 ? 1 : 0;
            }
            return value;
        }

        private int readAnd() {
            int value = readNot();
            for (int k = 0; k < TAPE && isNow(AND); k++) {
                next();
                int other = readNot();
                value = value != 0 && other != 0 ? 1 : 0;
            }
            return value;
        }

        private int readNot() {
            if (isNow(NOT)) {
                if (!opens()) {
                    return 0;
                }
                int negated = readNot();
                open--;
                return negated == 0 ? 1 : 0;
            }
            int value = readSum();
            if (isNow('<')) {
                next();
                return value < readSum() ? 1 : 0;
            }
            if (isNow('=')) {
                next();
                return value == readSum() ? 1 : 0;
            }
            return value;
        }

        private int readSum() {
            int value = readTerm();
            for (int k = 0; k < TAPE && (isNow('+') || isNow('-')); k++) {
                boolean plus = token == '+';
                next();
                int other = readTerm();
                value = plus ? value + other : value - other;
            }
            return value;
        }

        private int readTerm() {
            int value = readOne();
            for (int k = 0; k < TAPE && isNow('*'); k++) {
                next();
                value *= readOne();
            }
            return value;
        }

        private int readOne() {
            if (isNow(NUMBER)) {
                int value = number;
                next();
                return value;
            }
            if (fault < 0 && token >= 0 && token < NAMES) {
                int value = values[token];
                next();
                return value;
            }
            boolean minus = isNow('-');
            if (!minus && !isNow('(')) {
                fail();
                return 0;
            }
            if (!opens()) {
                return 0;
            }
            int value = minus ? -readOne() : readE();
            open--;
            if (!minus) {
                expect(')');
            }
            return value;
        }

        /** Goes behind a not, a - or a (, unless too many are open: this also bounds the recursion. */
        private boolean opens() {
            if (open >= MOST_OPEN) {
                fail();
                return false;
            }
            open++;
            next();
            return true;
        }
    }

    /** A row of bytes, shorts or ints; its sort is NONE while it is missing. */
    private static final class Sheet {
        int sort = NONE;
        private int size;
        final int[] cells = new int[SHEET_CELLS];

        void become(int newSort, int n) {
            sort = newSort;
            size = Math.max(0, Math.min(n, SHEET_CELLS));
            for (int k = 0; k < SHEET_CELLS; k++) {
                cells[k] = 0;
            }
        }

        boolean has(int i) {
            return i >= 0 && i < size;
        }

        void put(int i, int v) {
            if (has(i)) {
                cells[i] = sort == 0 ? (byte) v : sort == 1 ? (short) v : v;
            }
        }
    }
}
