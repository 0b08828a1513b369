/**
 * Whoever hears must follow: a town of cells, crowds that walk to where a tune was when they heard
 * it, and a piper whose minutes are played, planned and searched. DOC.md numbers the promises.
 */
public final class HeardTunes {
    public static final int NONE = -1, UNKNOWN = -1000000001, OUTSIDE = -1000000002, NOT = -1000000003, FULL = -1000000004;

    private static final int FREE = 0, WALL = 1, WATER = 2, GATE = 3;
    private static final int HERE = 0, OUT = 1, DROWNED = 2;
    private static final int STEPS = 4;
    private static final int KINDS = 3;
    private static final int IMAGES = 2;
    private static final int MOST_BYTES = 500;
    private static final int MOST_CELLS = 42, MOST_SIDE = 9, MOST_SPOTS = 30;
    private static final int MOST_CROWDS = 6, MOST_HEADS = 99, MOST_PACE = 3;
    private static final int MOST_TUNES = 3, MOST_SET = 7, MOST_REACH = 20;
    private static final int MOST_PAY = 99;
    private static final int MOST_PLAN = 30, MOST_DRIFT = 99;
    private static final int MOST_SOONEST = 6, MOST_WALK = 5, MOST_SEEN = 10;

    private final Reader reader = new Reader();
    private final Town tale = new Town();
    private final Town draft = new Town();
    private final Ground ground = new Ground();
    private final Ground walledGround = new Ground();
    private final Scene now = new Scene(tale, ground);
    private final Scene trial = new Scene(tale, ground);
    private final Scene walledTrial = new Scene(tale, walledGround);
    private final Plan row = new Plan();
    private final Seen seen = new Seen();
    private final Memo memo = new Memo();
    private final Soonest leading = new Soonest(tale, ground, memo);
    private final Fitting fitting = new Fitting(tale, ground, seen, memo);
    private final Image[] images = new Image[IMAGES];
    private int theSeed;

    public HeardTunes() {
        for (int i = 0; i < IMAGES; i++) {
            images[i] = new Image(tale, ground);
        }
        begin();
    }

    // ---- the town

    public int feed(int n, long bytes) {
        if (n < 1 || n > 8) {
            return OUTSIDE;
        }
        if (reader.length + n > MOST_BYTES) {
            return FULL;
        }
        for (int i = n - 1; i >= 0; i--) {
            reader.add((int) (bytes >>> (8 * i)) & 255);
        }
        return reader.length;
    }

    public int town() {
        // Read into a draft first: a fault leaves the town that is there as it was.
        boolean good = reader.read(draft);
        if (good) {
            reader.read(tale);
            begin();
        }
        reader.length = 0;
        return good ? ground.count : -10 - reader.fault;
    }

    public int fault() {
        return reader.faultAt;
    }

    public int told(int what) {
        switch (what) {
            case 0: return tale.width;
            case 1: return tale.height;
            case 2: return tale.crowds;
            case 3: return tale.tunes;
            case 4: return reader.length;
            case 5: return now.minutes;
            case 6: return ground.count == 0 ? 0 : ground.code(now.piper);
            case 7: return now.heads(NONE, OUT);
            case 8: return now.heads(NONE, DROWNED);
            case 9: return now.left();
            case 10: return now.worth();
            case 11: return row.count;
            case 12: return seen.count;
            default: return OUTSIDE;
        }
    }

    public int cell(int x, int y) {
        int at = ground.cellAt(x, y);
        return at == NONE ? UNKNOWN : ground.what(at);
    }

    public int crowd(int c, int what) {
        if (!isCrowd(c)) {
            return UNKNOWN;
        }
        switch (what) {
            case 0: return tale.kind[c];
            case 1: return tale.heads[c];
            case 2: return tale.pace[c];
            case 3: return tale.deaf[c];
            case 4: return ground.code(now.at[c]);
            case 5: return ground.code(now.goal[c]);
            case 6: return now.fate(c);
            default: return OUTSIDE;
        }
    }

    public int tune(int t, int what) {
        if (!isTune(t)) {
            return UNKNOWN;
        }
        switch (what) {
            case 0: return tale.follows[t];
            case 1: return tale.reach[t];
            case 2: return now.hearers(t);
            default: return OUTSIDE;
        }
    }

    public int far(int x, int y, int toX, int toY) {
        int from = ground.cellAt(x, y);
        int to = ground.cellAt(toX, toY);
        return from == NONE || to == NONE ? UNKNOWN : ground.steps(from, to);
    }

    // ---- minutes

    public int minute(int step, int t) {
        if (!isTuneOrNone(t)) {
            return UNKNOWN;
        }
        if (!isStep(step)) {
            return OUTSIDE;
        }
        if (!now.may(step)) {
            return NOT;
        }
        now.pass(step, t);
        leading.forget();
        return ground.code(now.piper);
    }

    public int wall(int x, int y, boolean is) {
        int at = ground.cellAt(x, y);
        if (at == NONE) {
            return UNKNOWN;
        }
        int what = ground.what(at);
        if (what == WATER || what == GATE || now.holds(at)) {
            return NOT;
        }
        if (is != (what == WALL)) {
            ground.put(at, is ? WALL : FREE);
            leading.forget();
        }
        return what == WALL ? 1 : 0;
    }

    public int drift(int n) {
        if (n < 1 || n > MOST_DRIFT) {
            return OUTSIDE;
        }
        if (ground.count == 0) {
            return NOT;
        }
        for (int i = 0; i < n; i++) {
            int step = draw(STEPS + 1);
            int t = draw(tale.tunes + 1);
            now.pass(now.may(step) ? step : 0, t < tale.tunes ? t : NONE);
        }
        leading.forget();
        return now.left();
    }

    // ---- plans

    public int plan(int step, int t) {
        if (!isTuneOrNone(t)) {
            return UNKNOWN;
        }
        if (!isStep(step)) {
            return OUTSIDE;
        }
        if (row.count >= MOST_PLAN) {
            return FULL;
        }
        row.add(step, t);
        return row.count;
    }

    public int drop() {
        int had = row.count;
        row.count = 0;
        return had;
    }

    public int judge() {
        int passed = tryPlan(MOST_PLAN);
        return passed < row.count ? passed : NONE;
    }

    public int tried(int k, int what) {
        if (k != NONE && !isKind(k)) {
            return UNKNOWN;
        }
        if (k != NONE && (what < 0 || what > 1)) {
            return OUTSIDE;
        }
        tryPlan(MOST_PLAN);
        return k == NONE ? trial.worth() : trial.heads(k, what == 0 ? OUT : DROWNED);
    }

    public int where(int c, int m) {
        if (!isCrowd(c)) {
            return UNKNOWN;
        }
        if (m < 0 || m > MOST_PLAN) {
            return OUTSIDE;
        }
        tryPlan(m);
        return ground.code(trial.at[c]);
    }

    public int soonest(int k, int t, int i) {
        if (!isKind(k) || !isTune(t)) {
            return UNKNOWN;
        }
        leading.search(now, k, t);
        return i == NONE ? leading.minutes : leading.stepAt(i);
    }

    public int bestWall(int k, int what) {
        if (!isKind(k)) {
            return UNKNOWN;
        }
        if (what < 0 || what > 1) {
            return OUTSIDE;
        }
        int best = NONE;
        int fewest = 0;
        int outNow = now.heads(k, OUT);
        walledGround.copy(ground);
        // Nobody who is out comes back: no wall leaves fewer than are out now.
        for (int at = 0; at < ground.count && (best == NONE || fewest > outNow); at++) {
            if (ground.what(at) == FREE && !now.holds(at)) {
                int heads = outBehindWall(at, k);
                if (best == NONE || heads < fewest) {
                    best = at;
                    fewest = heads;
                }
            }
        }
        return best == NONE || what == 0 ? ground.code(best) : fewest;
    }

    public int wax(int k) {
        if (!isKind(k)) {
            return UNKNOWN;
        }
        tryPlan(MOST_PLAN);
        int set = 0;
        for (int c = 0; c < tale.crowds; c++) {
            if (tale.kind[c] == k && trial.fate(c) != now.fate(c)) {
                set |= 1 << c;
            }
        }
        return set;
    }

    // ---- what was seen

    public int see(int c, int m, int x, int y) {
        int at = ground.cellAt(x, y);
        if (!isCrowd(c) || at == NONE) {
            return UNKNOWN;
        }
        if (m < 1 || m > MOST_WALK) {
            return OUTSIDE;
        }
        if (seen.count >= MOST_SEEN) {
            return FULL;
        }
        seen.add(c, m, at);
        return seen.count;
    }

    public int walks(int n, int t, int i) {
        if (!isTune(t)) {
            return UNKNOWN;
        }
        if (n < 1 || n > MOST_WALK) {
            return OUTSIDE;
        }
        fitting.search(now, n, t);
        return i == NONE ? fitting.count : fitting.stepAt(i);
    }

    public int tear() {
        int had = seen.count;
        seen.count = 0;
        return had;
    }

    // ---- draws, images

    public int seed(int v) {
        if (v < 0) {
            return OUTSIDE;
        }
        int was = theSeed;
        theSeed = v;
        return was;
    }

    public int keep(int i) {
        if (!isImage(i)) {
            return UNKNOWN;
        }
        images[i].take(now, ground, theSeed);
        return 1;
    }

    public int goBack(int i) {
        if (!isImage(i)) {
            return UNKNOWN;
        }
        if (!images[i].isKept) {
            return NOT;
        }
        images[i].give(now, ground);
        theSeed = images[i].theSeed;
        leading.forget();
        return 1;
    }

    // ---- inside

    private static boolean isKind(int k) {
        return k >= 0 && k < KINDS;
    }

    private static boolean isStep(int step) {
        return step >= 0 && step <= STEPS;
    }

    private static boolean isImage(int i) {
        return i >= 0 && i < IMAGES;
    }

    private boolean isCrowd(int c) {
        return c >= 0 && c < tale.crowds;
    }

    private boolean isTune(int t) {
        return t >= 0 && t < tale.tunes;
    }

    private boolean isTuneOrNone(int t) {
        return t == NONE || isTune(t);
    }

    private void begin() {
        ground.lay(tale);
        walledGround.lay(tale);
        now.begin();
        row.count = 0;
        seen.count = 0;
        leading.forget();
        for (int i = 0; i < IMAGES; i++) {
            images[i].isKept = false;
        }
    }

    private int draw(int n) {
        theSeed = (int) (theSeed * 1103515245L + 12345L & 2147483647L);
        return n > 0 ? theSeed / 65536 % n : 0;
    }

    /** Tries the plan for so many minutes at most; how many of them may be. */
    private int tryPlan(int most) {
        trial.copy(now);
        return row.run(trial, most);
    }

    private int outBehindWall(int at, int k) {
        walledGround.put(at, WALL);
        walledTrial.copy(now);
        row.run(walledTrial, MOST_PLAN);
        walledGround.put(at, FREE);
        return walledTrial.heads(k, OUT);
    }

    /** What a text tells; no minute changes it. */
    static final class Town {
        int width;
        int height;
        int spots;
        int crowds;
        int tunes;
        int piper;
        boolean hasPay;
        int forOut;
        int forDrowned;
        final int[] what = new int[MOST_CELLS];
        final int[] kind = new int[MOST_CROWDS];
        final int[] start = new int[MOST_CROWDS];
        final int[] heads = new int[MOST_CROWDS];
        final int[] pace = new int[MOST_CROWDS];
        final int[] deaf = new int[MOST_CROWDS];
        final int[] follows = new int[MOST_TUNES];
        final int[] reach = new int[MOST_TUNES];

        void clear() {
            width = 0;
            height = 0;
            spots = 0;
            crowds = 0;
            tunes = 0;
            piper = NONE;
            hasPay = false;
            forOut = 1;
            forDrowned = 1;
            for (int i = 0; i < MOST_CELLS; i++) {
                what[i] = FREE;
            }
        }

        int followers(int c) {
            return c >= 0 && c < MOST_CROWDS ? heads[c] - deaf[c] : 0;
        }

        boolean isFollower(int c, int t) {
            boolean areThere = c >= 0 && c < MOST_CROWDS && t >= 0 && t < MOST_TUNES;
            return areThere && (follows[t] >> kind[c] & 1) == 1;
        }

        /** Whether a wall, water, a gate was told there. */
        boolean isSpot(int at) {
            return Ground.isCell(at) && what[at] != FREE;
        }

        /** Whether no wall, water, gate may be told there. */
        boolean isTaken(int at) {
            boolean taken = isSpot(at) || piper == at;
            for (int c = 0; c < crowds; c++) {
                taken = taken || start[c] == at;
            }
            return taken;
        }

        void addSpot(int at, int ofWhat) {
            if (Ground.isCell(at)) {
                what[at] = ofWhat;
                spots++;
            }
        }

        void addCrowd(int ofKind, int at, int n, int p, int d) {
            if (crowds < MOST_CROWDS) {
                kind[crowds] = ofKind;
                start[crowds] = at;
                heads[crowds] = n;
                pace[crowds] = p;
                deaf[crowds] = d;
                crowds++;
            }
        }

        void addTune(int set, int r) {
            if (tunes < MOST_TUNES) {
                follows[tunes] = set;
                reach[tunes] = r;
                tunes++;
            }
        }

        void placePiperIfUntold() {
            for (int at = 0; at < width * height && piper == NONE; at++) {
                if (!isSpot(at)) {
                    piper = at;
                }
            }
            piper = Math.max(piper, 0);
        }
    }

    /** THE TEXT, and how it is read: up to the first fault. */
    static final class Reader {
        private static final int MISPLACED = 1, OUT_OF_BOUNDS = 2, TOO_MANY = 3, TAKEN = 4;
        // The words that tell of a spot have the numbers of what it is: WALL, WATER, GATE.
        private static final int TOWN = 4, CROWD = 5, TUNE = 6, PIPER = 7, PAY = 8;
        private static final int BLANK = 32;

        int length;
        int fault;
        int faultAt = NONE;
        private final int[] text = new int[MOST_BYTES];
        private int next;
        private int numberAt;

        void add(int oneByte) {
            if (length < MOST_BYTES) {
                text[length] = oneByte;
                length++;
            }
        }

        /** Whether the text has no fault. */
        boolean read(Town town) {
            town.clear();
            next = 0;
            fault = 0;
            faultAt = NONE;
            skipBlanks();
            for (int i = 0; i < MOST_BYTES && next < length && fault == 0; i++) {
                readSentence(town);
                skipBlanks();
            }
            if (town.width == 0 && length > 0) {
                blame(MISPLACED, length);
            }
            town.placePiperIfUntold();
            return fault == 0;
        }

        private void blame(int number, int at) {
            if (fault == 0) {
                fault = number;
                faultAt = at;
            }
        }

        private void readSentence(Town town) {
            int from = next;
            int word = readWord();
            if (word == NONE || town.width == 0 && word != TOWN) {
                blame(MISPLACED, from);
            } else if (isTooMany(town, word)) {
                blame(TOO_MANY, from);
            } else {
                switch (word) {
                    case TOWN: readSize(town); break;
                    case CROWD: readCrowd(town); break;
                    case TUNE: readTune(town); break;
                    case PIPER: readPiper(town); break;
                    case PAY: readPay(town); break;
                    default: readSpot(town, word); break;
                }
                readEnd();
            }
        }

        private static boolean isTooMany(Town town, int word) {
            switch (word) {
                case TOWN: return town.width > 0;
                case CROWD: return town.crowds >= MOST_CROWDS;
                case TUNE: return town.tunes >= MOST_TUNES;
                case PIPER: return town.piper != NONE;
                case PAY: return town.hasPay;
                default: return town.spots >= MOST_SPOTS;
            }
        }

        private void readSize(Town town) {
            int w = readNumber(1, MOST_SIDE);
            int h = readNumber(1, w > 0 ? Math.min(MOST_SIDE, MOST_CELLS / w) : MOST_SIDE);
            if (fault == 0) {
                town.width = w;
                town.height = h;
            }
        }

        private void readSpot(Town town, int what) {
            int at = readCell(town);
            if (at == NONE) {
                return;
            }
            if (town.isTaken(at)) {
                blame(TAKEN, numberAt);
            } else {
                town.addSpot(at, what);
            }
        }

        private void readCrowd(Town town) {
            int kind = readNumber(0, KINDS - 1);
            int at = readCell(town);
            blameIfSpot(town, at);
            int heads = readNumber(1, MOST_HEADS);
            int pace = readNumber(1, MOST_PACE);
            int deaf = readNumber(0, heads);
            if (fault == 0) {
                town.addCrowd(kind, at, heads, pace, deaf);
            }
        }

        private void readTune(Town town) {
            int set = readNumber(1, MOST_SET);
            int reach = readNumber(0, MOST_REACH);
            if (fault == 0) {
                town.addTune(set, reach);
            }
        }

        private void readPiper(Town town) {
            int at = readCell(town);
            blameIfSpot(town, at);
            if (fault == 0) {
                town.piper = at;
            }
        }

        private void readPay(Town town) {
            town.forOut = readNumber(0, MOST_PAY);
            town.forDrowned = readNumber(0, MOST_PAY);
            town.hasPay = true;
        }

        /** NONE behind a fault. */
        private int readCell(Town town) {
            int x = readNumber(0, town.width - 1);
            int y = readNumber(0, town.height - 1);
            return fault == 0 ? y * town.width + x : NONE;
        }

        /** Right behind the cell's Y, where the fault is. */
        private void blameIfSpot(Town town, int at) {
            if (town.isSpot(at)) {
                blame(TAKEN, numberAt);
            }
        }

        /** Reads nothing behind a fault, and answers the least number then. */
        private int readNumber(int least, int most) {
            if (fault != 0) {
                return least;
            }
            skipBlanks();
            numberAt = next;
            int value = 0;
            for (; next < length && text[next] >= '0' && text[next] <= '9'; next++) {
                // Behind three figures the value no longer matters, and must not wrap.
                value = next - numberAt < 3 ? value * 10 + text[next] - '0' : value;
            }
            if (next == numberAt) {
                blame(MISPLACED, numberAt);
            } else if (next - numberAt > 3 || value < least || value > most) {
                blame(OUT_OF_BOUNDS, numberAt);
            }
            return fault == 0 ? value : least;
        }

        private void readEnd() {
            skipBlanks();
            if (next < length && text[next] == ';') {
                next++;
            } else {
                blame(MISPLACED, next);
            }
        }

        private int readWord() {
            int from = next;
            for (; next < length && text[next] >= 'a' && text[next] <= 'z'; next++) {
            }
            if (isWord(from, "town")) {
                return TOWN;
            }
            if (isWord(from, "wall")) {
                return WALL;
            }
            if (isWord(from, "water")) {
                return WATER;
            }
            if (isWord(from, "gate")) {
                return GATE;
            }
            if (isWord(from, "crowd")) {
                return CROWD;
            }
            if (isWord(from, "tune")) {
                return TUNE;
            }
            if (isWord(from, "piper")) {
                return PIPER;
            }
            return isWord(from, "pay") ? PAY : NONE;
        }

        private boolean isWord(int from, String word) {
            boolean same = next - from == word.length();
            for (int i = 0; same && i < word.length() && from + i < length; i++) {
                same = text[from + i] == word.charAt(i);
            }
            return same;
        }

        private void skipBlanks() {
            for (; next < length && text[next] == BLANK; next++) {
            }
        }
    }

    /**
     * The cells as they are now, and how far it is by ways. Searches ask it most: here indexes are
     * tested in place, not by a call.
     */
    static final class Ground {
        int count;
        final int[] whats = new int[MOST_CELLS];
        private int width;
        private int height;
        private final int[] codes = new int[MOST_CELLS];
        private final int[] besides = new int[MOST_CELLS * STEPS];
        // A row for each goal, found when it is asked for: most goals never are.
        private final int[] ways = new int[MOST_CELLS * MOST_CELLS];
        private final boolean[] isFound = new boolean[MOST_CELLS];
        private final int[] queue = new int[MOST_CELLS];

        static boolean isCell(int at) {
            return at >= 0 && at < MOST_CELLS;
        }

        void lay(Town town) {
            width = town.width;
            height = town.height;
            count = Math.min(width * height, MOST_CELLS);
            for (int y = 0; y < height; y++) {
                for (int x = 0; x < width; x++) {
                    layCell(x, y);
                }
            }
            takeWhats(town.what);
        }

        private void layCell(int x, int y) {
            int at = y * width + x;
            if (at >= MOST_CELLS) {
                return;
            }
            codes[at] = 10 * x + y;
            besides[at * STEPS] = y > 0 ? at - width : NONE;
            besides[at * STEPS + 1] = x < width - 1 ? at + 1 : NONE;
            besides[at * STEPS + 2] = y < height - 1 ? at + width : NONE;
            besides[at * STEPS + 3] = x > 0 ? at - 1 : NONE;
        }

        void takeWhats(int[] from) {
            for (int at = 0; at < MOST_CELLS && at < from.length; at++) {
                whats[at] = from[at];
            }
            forgetWays();
        }

        void giveWhats(int[] to) {
            for (int at = 0; at < MOST_CELLS && at < to.length; at++) {
                to[at] = whats[at];
            }
        }

        /** For a ground that was laid by the same town. */
        void copy(Ground other) {
            takeWhats(other.whats);
        }

        void put(int at, int what) {
            if (isCell(at)) {
                whats[at] = what;
                forgetWays();
            }
        }

        private void forgetWays() {
            for (int at = 0; at < MOST_CELLS; at++) {
                isFound[at] = false;
            }
        }

        int cellAt(int x, int y) {
            return x >= 0 && x < width && y >= 0 && y < height ? y * width + x : NONE;
        }

        /** Off the town there is no way, as on walls. */
        int what(int at) {
            return at >= 0 && at < MOST_CELLS ? whats[at] : WALL;
        }

        /** 10 times X and Y; NONE of NONE. */
        int code(int at) {
            return isCell(at) ? codes[at] : NONE;
        }

        /** Where a step (1 .. 4) leads; NONE off the town. */
        int beside(int at, int step) {
            boolean isThere = at >= 0 && at < MOST_CELLS && step >= 1 && step <= STEPS;
            return isThere ? besides[at * STEPS + step - 1] : NONE;
        }

        int steps(int from, int goal) {
            if (from < 0 || from >= MOST_CELLS || goal < 0 || goal >= MOST_CELLS) {
                return NONE;
            }
            if (!isFound[goal]) {
                findWays(goal);
            }
            return ways[goal * MOST_CELLS + from];
        }

        /** The cell to go to next; NONE at the goal and where no way leads to it. */
        int onward(int from, int goal) {
            if (from < 0 || from >= MOST_CELLS || goal < 0 || goal >= MOST_CELLS) {
                return NONE;
            }
            if (!isFound[goal]) {
                findWays(goal);
            }
            int first = goal * MOST_CELLS;
            int left = ways[first + from];
            // At the goal a cell without a way would look as if it were one less far.
            for (int i = 0; i < STEPS && left > 0; i++) {
                int to = besides[from * STEPS + i];
                if (to >= 0 && to < MOST_CELLS && ways[first + to] == left - 1) {
                    return to;
                }
            }
            return NONE;
        }

        private void findWays(int goal) {
            int first = goal * MOST_CELLS;
            for (int at = 0; at < count; at++) {
                ways[first + at] = NONE;
            }
            ways[first + goal] = 0;
            isFound[goal] = true;
            queue[0] = goal;
            int queued = whats[goal] == WALL ? 0 : 1;
            for (int next = 0; next < queued && next < MOST_CELLS; next++) {
                int from = queue[next];
                for (int i = 0; i < STEPS; i++) {
                    int to = besides[from * STEPS + i];
                    boolean isOpen = to >= 0 && to < MOST_CELLS && whats[to] != WALL;
                    if (isOpen && ways[first + to] == NONE && queued < MOST_CELLS) {
                        ways[first + to] = ways[first + from] + 1;
                        queue[queued] = to;
                        queued++;
                    }
                }
            }
        }
    }

    /** Where the piper and all followers are, and whither they go. */
    static final class Scene {
        int piper;
        int minutes;
        final int[] at = new int[MOST_CROWDS];
        final int[] goal = new int[MOST_CROWDS];
        private final Town town;
        private final Ground ground;

        Scene(Town town, Ground ground) {
            this.town = town;
            this.ground = ground;
        }

        void begin() {
            piper = town.piper;
            minutes = 0;
            for (int c = 0; c < MOST_CROWDS; c++) {
                at[c] = town.start[c];
                goal[c] = NONE;
            }
        }

        void copy(Scene other) {
            piper = other.piper;
            minutes = other.minutes;
            for (int c = 0; c < town.crowds; c++) {
                at[c] = other.at[c];
                goal[c] = other.goal[c];
            }
        }

        boolean may(int step) {
            if (ground.count == 0 || step == 0) {
                return ground.count > 0;
            }
            int what = ground.what(ground.beside(piper, step));
            return what != WALL && what != WATER;
        }

        /** A minute whose step may be. */
        void pass(int step, int t) {
            if (step != 0) {
                piper = ground.beside(piper, step);
            }
            for (int c = 0; c < town.crowds; c++) {
                if (t != NONE && hears(c, t)) {
                    goal[c] = piper;
                }
                if (goal[c] != NONE) {
                    lead(c);
                }
            }
            minutes++;
        }

        private boolean hears(int c, int t) {
            if (!town.isFollower(c, t) || !isHere(c)) {
                return false;
            }
            int away = ground.steps(at[c], piper);
            return away != NONE && away <= town.reach[t];
        }

        private void lead(int c) {
            for (int i = 0; i < town.pace[c] && goal[c] != NONE; i++) {
                int to = ground.onward(at[c], goal[c]);
                at[c] = to == NONE ? at[c] : to;
                if (at[c] == goal[c] || fate(c) != HERE) {
                    goal[c] = NONE;
                }
            }
        }

        int hearers(int t) {
            int set = 0;
            for (int c = 0; c < town.crowds; c++) {
                if (hears(c, t)) {
                    set |= 1 << c;
                }
            }
            return set;
        }

        /** No crowd begins on water or at a gate: who is there went there. */
        int fate(int c) {
            int cell = c >= 0 && c < MOST_CROWDS ? at[c] : NONE;
            int what = cell >= 0 && cell < MOST_CELLS ? ground.whats[cell] : FREE;
            return what == GATE ? OUT : what == WATER ? DROWNED : HERE;
        }

        /** Whether a crowd has followers who are here. */
        boolean isHere(int c) {
            return town.followers(c) > 0 && fate(c) == HERE;
        }

        boolean isAt(int c, int cell) {
            return c >= 0 && c < MOST_CROWDS && at[c] == cell;
        }

        /** Whether the piper or followers who are here are on a cell. */
        boolean holds(int cell) {
            boolean is = piper == cell;
            for (int c = 0; c < town.crowds; c++) {
                is = is || isAt(c, cell) && isHere(c);
            }
            return is;
        }

        /** How many heads of a kind (NONE: of all) are out or drowned. */
        int heads(int kind, int fate) {
            int sum = 0;
            for (int c = 0; c < town.crowds; c++) {
                if ((kind == NONE || town.kind[c] == kind) && fate(c) == fate) {
                    sum += town.followers(c);
                }
            }
            return sum;
        }

        int left() {
            int sum = 0;
            for (int c = 0; c < town.crowds; c++) {
                sum += fate(c) == HERE ? town.heads[c] : town.deaf[c];
            }
            return sum;
        }

        int worth() {
            return town.forOut * heads(NONE, OUT) - town.forDrowned * heads(NONE, DROWNED);
        }

        /** Tells scenes apart by where all are; it has 42 bits. */
        long places() {
            long key = piper;
            for (int c = 0; c < town.crowds; c++) {
                key = key << 6 | at[c];
            }
            return key;
        }

        /** Tells scenes apart by whither all go. */
        long goals() {
            long key = 0;
            for (int c = 0; c < town.crowds; c++) {
                key = key << 6 | goal[c] + 1;
            }
            return key;
        }
    }

    /** A row of minutes that are thought of. */
    static final class Plan {
        int count;
        private final int[] steps = new int[MOST_PLAN];
        private final int[] tunes = new int[MOST_PLAN];

        void add(int step, int t) {
            if (count < MOST_PLAN) {
                steps[count] = step;
                tunes[count] = t;
                count++;
            }
        }

        /** Passes minutes up to the first that may not be; how many. */
        int run(Scene scene, int most) {
            int passed = 0;
            while (passed < count && passed < most && scene.may(steps[passed])) {
                scene.pass(steps[passed], tunes[passed]);
                passed++;
            }
            return passed;
        }
    }

    /** Where followers were seen, each behind so many minutes. */
    static final class Seen {
        int count;
        private final int[] crowds = new int[MOST_SEEN];
        private final int[] minutes = new int[MOST_SEEN];
        private final int[] cells = new int[MOST_SEEN];

        void add(int c, int m, int cell) {
            if (count < MOST_SEEN) {
                crowds[count] = c;
                minutes[count] = m;
                cells[count] = cell;
                count++;
            }
        }

        boolean fits(Scene scene, int m) {
            boolean fits = true;
            for (int i = 0; i < count; i++) {
                fits = fits && (minutes[i] != m || scene.isAt(crowds[i], cells[i]));
            }
            return fits;
        }

        /** The latest minute of n at which somebody was seen; 0: there is none. */
        int latest(int n) {
            int m = 0;
            for (int i = 0; i < count; i++) {
                m = minutes[i] <= n ? Math.max(m, minutes[i]) : m;
            }
            return m;
        }
    }

    /**
     * What a search found out of a scene: most walks lead to scenes that others led to already. A
     * later scene may take the place of an earlier one; then that is only searched again.
     */
    static final class Memo {
        private static final int SLOTS = 1024;

        private final long[] places = new long[SLOTS];
        private final long[] goals = new long[SLOTS];
        private final int[] values = new int[SLOTS];

        void clear() {
            for (int i = 0; i < SLOTS; i++) {
                values[i] = NONE;
            }
        }

        private static int slot(long place, long goal) {
            long mixed = (place * 31 + goal) * 0x9E3779B97F4A7C15L;
            return (int) (mixed >>> 54) & SLOTS - 1;
        }

        /** NONE: nothing is known of it. */
        int value(long place, long goal) {
            int i = slot(place, goal);
            return places[i] == place && goals[i] == goal ? values[i] : NONE;
        }

        void put(long place, long goal, int value) {
            int i = slot(place, goal);
            places[i] = place;
            goals[i] = goal;
            values[i] = value;
        }
    }

    /** The search for the soonest walk that leads out a kind and none of another. */
    static final class Soonest {
        private static final int HOPELESS = 0, OPEN = 1, LED = 2;

        int minutes;
        private final Town town;
        private final Ground ground;
        private final Scene[] levels = new Scene[MOST_SOONEST + 1];
        private final int[] steps = new int[MOST_SOONEST];
        private final int[] toGate = new int[MOST_CELLS];
        // The most minutes that are known not to be enough from a scene.
        private final Memo memo;
        private boolean isKnown;
        private int kind;
        private int tune;

        Soonest(Town town, Ground ground, Memo memo) {
            this.town = town;
            this.ground = ground;
            this.memo = memo;
            for (int i = 0; i <= MOST_SOONEST; i++) {
                levels[i] = new Scene(town, ground);
            }
        }

        void forget() {
            isKnown = false;
        }

        int stepAt(int i) {
            return i >= 0 && i < minutes ? steps[i] : NONE;
        }

        /** What is asked again, minutes and then steps, is searched once. */
        void search(Scene now, int k, int t) {
            if (isKnown && kind == k && tune == t) {
                return;
            }
            isKnown = true;
            kind = k;
            tune = t;
            minutes = NONE;
            levels[0].copy(now);
            memo.clear();
            findGates();
            for (int n = 0; n <= MOST_SOONEST && minutes == NONE; n++) {
                if (leads(0, n)) {
                    minutes = n;
                }
            }
        }

        private void findGates() {
            for (int at = 0; at < ground.count; at++) {
                toGate[at] = NONE;
            }
            for (int gate = 0; gate < ground.count; gate++) {
                for (int at = 0; at < ground.count && ground.what(gate) == GATE; at++) {
                    int away = ground.steps(at, gate);
                    if (away != NONE && (toGate[at] == NONE || away < toGate[at])) {
                        toGate[at] = away;
                    }
                }
            }
        }

        private boolean leads(int depth, int most) {
            if (depth < 0 || depth > MOST_SOONEST) {
                return false;
            }
            Scene scene = levels[depth];
            int rest = most - depth;
            int outlook = outlook(scene, rest);
            if (outlook != OPEN || rest <= 0 || depth >= MOST_SOONEST) {
                return outlook == LED;
            }
            long places = scene.places();
            long goals = scene.goals();
            if (memo.value(places, goals) >= rest) {
                return false;
            }
            if (stepLeads(depth, most)) {
                return true;
            }
            memo.put(places, goals, rest);
            return false;
        }

        private boolean stepLeads(int depth, int most) {
            boolean is = false;
            for (int step = 0; step <= STEPS && !is; step++) {
                if (levels[depth].may(step)) {
                    levels[depth + 1].copy(levels[depth]);
                    levels[depth + 1].pass(step, tune);
                    steps[depth] = step;
                    is = leads(depth + 1, most);
                }
            }
            return is;
        }

        private int outlook(Scene scene, int rest) {
            int outlook = LED;
            for (int c = 0; c < town.crowds && outlook != HOPELESS; c++) {
                if (town.kind[c] != kind) {
                    outlook = scene.fate(c) == levels[0].fate(c) ? outlook : HOPELESS;
                } else if (scene.isHere(c)) {
                    outlook = canLeave(scene, c, rest) ? OPEN : HOPELESS;
                } else if (scene.fate(c) == DROWNED) {
                    outlook = HOPELESS;
                }
            }
            return outlook;
        }

        /** Whether a crowd may be out by then, as far as its pace, the gates and its ears tell. */
        private boolean canLeave(Scene scene, int c, int rest) {
            int cell = scene.at[c];
            int away = Ground.isCell(cell) ? toGate[cell] : NONE;
            boolean moves = scene.goal[c] != NONE || town.isFollower(c, tune);
            return moves && away != NONE && away <= rest * town.pace[c];
        }
    }

    /** The search for all walks that fit what was seen. */
    static final class Fitting {
        int count;
        private final Seen seen;
        private final Ground ground;
        private final Scene[] levels = new Scene[MOST_WALK + 1];
        private final int[] steps = new int[MOST_WALK];
        private final int[] first = new int[MOST_WALK];
        // How many walks of so many minutes the piper has from a cell, whoever follows.
        private final int[] free = new int[(MOST_WALK + 1) * MOST_CELLS];
        // How many walks fit from a scene on, behind so many minutes.
        private final Memo memo;
        private boolean isFound;
        private int length;
        private int latest;
        private int tune;

        Fitting(Town town, Ground ground, Seen seen, Memo memo) {
            this.ground = ground;
            this.seen = seen;
            this.memo = memo;
            for (int i = 0; i <= MOST_WALK; i++) {
                levels[i] = new Scene(town, ground);
            }
        }

        int stepAt(int i) {
            return isFound && i >= 0 && i < length ? first[i] : NONE;
        }

        void search(Scene now, int n, int t) {
            length = n;
            latest = seen.latest(n);
            tune = t;
            isFound = false;
            levels[0].copy(now);
            memo.clear();
            countFree();
            count = fit(0);
        }

        private void countFree() {
            Scene probe = levels[1];
            for (int at = 0; at < ground.count; at++) {
                free[at] = 1;
            }
            for (int n = 1; n <= length - latest; n++) {
                for (int at = 0; at < ground.count; at++) {
                    probe.piper = at;
                    free[n * MOST_CELLS + at] = countFreeFrom(probe, n - 1);
                }
            }
        }

        private int countFreeFrom(Scene probe, int shorter) {
            int sum = freeFrom(probe.piper, shorter);
            for (int step = 1; step <= STEPS; step++) {
                if (probe.may(step)) {
                    sum += freeFrom(ground.beside(probe.piper, step), shorter);
                }
            }
            return sum;
        }

        private int freeFrom(int at, int n) {
            return Ground.isCell(at) && n >= 0 && n <= MOST_WALK ? free[n * MOST_CELLS + at] : 0;
        }

        /** How many; behind the latest that was seen all walks fit, and staying is the first. */
        private int fit(int depth) {
            if (depth < 0 || depth > MOST_WALK) {
                return 0;
            }
            Scene scene = levels[depth];
            if (depth >= latest || depth >= MOST_WALK) {
                keepFirst();
                return freeFrom(scene.piper, length - latest);
            }
            long places = (long) depth << 42 | scene.places();
            long goals = scene.goals();
            int known = memo.value(places, goals);
            if (known != NONE) {
                return known;
            }
            int sum = fitSteps(depth);
            memo.put(places, goals, sum);
            return sum;
        }

        private int fitSteps(int depth) {
            int sum = 0;
            for (int step = 0; step <= STEPS; step++) {
                if (levels[depth].may(step)) {
                    levels[depth + 1].copy(levels[depth]);
                    levels[depth + 1].pass(step, tune);
                    steps[depth] = step;
                    sum += seen.fits(levels[depth + 1], depth + 1) ? fit(depth + 1) : 0;
                }
            }
            return sum;
        }

        private void keepFirst() {
            for (int i = 0; i < MOST_WALK && !isFound; i++) {
                first[i] = i < latest ? steps[i] : 0;
            }
            isFound = true;
        }
    }

    /** What was so once, to go on from. */
    static final class Image {
        boolean isKept;
        int theSeed;
        private final Scene scene;
        private final int[] whats = new int[MOST_CELLS];

        Image(Town town, Ground ground) {
            scene = new Scene(town, ground);
        }

        void take(Scene now, Ground ground, int seedNow) {
            isKept = true;
            theSeed = seedNow;
            scene.copy(now);
            ground.giveWhats(whats);
        }

        void give(Scene now, Ground ground) {
            now.copy(scene);
            ground.takeWhats(whats);
        }
    }
}
