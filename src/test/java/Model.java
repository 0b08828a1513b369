import java.util.ArrayList;
import java.util.List;

/**
 * The document once more, in the slowest and plainest form, to hold HeardTunes against: the text is
 * cut into tokens, ways come from all pairs, searches try every walk without leaving any out.
 */
final class Model {
    static final int NONE = -1, UNKNOWN = -1000000001, OUTSIDE = -1000000002, NOT = -1000000003, FULL = -1000000004;
    private static final int[] DX = {0, 0, 1, 0, -1};
    private static final int[] DY = {0, -1, 0, 1, 0};

    private static final class Fault extends RuntimeException {
        final int number;
        final int at;

        Fault(int number, int at) {
            this.number = number;
            this.at = at;
        }
    }

    private record Token(char type, int at, String text) {
    }

    private record Crowd(int kind, int x, int y, int n, int p, int d) {
    }

    private record Tune(int s, int r) {
    }

    private record Minute(int step, int tune) {
    }

    private record Sight(int crowd, int m, int x, int y) {
    }

    /** What a text tells. */
    private static final class Told {
        int w;
        int h;
        int[][] grid = new int[0][0];
        int spots;
        List<Crowd> crowds = new ArrayList<>();
        List<Tune> tunes = new ArrayList<>();
        int px = NONE;
        int py = NONE;
        int v = NONE;
        int f = NONE;
    }

    private static final class State {
        int px;
        int py;
        int minutes;
        int[] x;
        int[] y;
        int[] gx;
        int[] gy;
        int[] fate;

        State twin() {
            State s = new State();
            s.px = px;
            s.py = py;
            s.minutes = minutes;
            s.x = x.clone();
            s.y = y.clone();
            s.gx = gx.clone();
            s.gy = gy.clone();
            s.fate = fate.clone();
            return s;
        }
    }

    private record Image(State state, int[][] grid, long seed) {
    }

    private final StringBuilder text = new StringBuilder();
    private Told told = new Told();
    private int[][] grid = new int[0][0];
    private int[][][][] fars;
    private State now = begin(told);
    private final List<Minute> plan = new ArrayList<>();
    private final List<Sight> seen = new ArrayList<>();
    private final Image[] images = new Image[2];
    private long seed = 0;
    private int faultAt = NONE;

    // ---- the text

    int feed(int n, long bytes) {
        if (n < 1 || n > 8) return OUTSIDE;
        if (text.length() + n > 500) return FULL;
        for (int i = n; i > 0; i--) text.append((char) (bytes >> 8 * (i - 1) & 255));
        return text.length();
    }

    int town() {
        String all = text.toString();
        text.setLength(0);
        faultAt = NONE;
        try {
            told = all.isEmpty() ? new Told() : parse(all);
        } catch (Fault fault) {
            faultAt = fault.at;
            return -10 - fault.number;
        }
        grid = twin(told.grid);
        fars = null;
        now = begin(told);
        plan.clear();
        seen.clear();
        images[0] = null;
        images[1] = null;
        return told.w * told.h;
    }

    int fault() {
        return faultAt;
    }

    private static List<Token> cut(String all) {
        List<Token> tokens = new ArrayList<>();
        int i = 0;
        while (i < all.length()) {
            int from = i;
            char c = all.charAt(i);
            if (c == ' ') {
                i++;
                continue;
            }
            char type = c >= 'a' && c <= 'z' ? 'w' : c >= '0' && c <= '9' ? 'n' : c == ';' ? ';' : '?';
            i++;
            if (type == 'w') while (i < all.length() && all.charAt(i) >= 'a' && all.charAt(i) <= 'z') i++;
            if (type == 'n') while (i < all.length() && all.charAt(i) >= '0' && all.charAt(i) <= '9') i++;
            tokens.add(new Token(type, from, all.substring(from, i)));
        }
        tokens.add(new Token('e', all.length(), ""));
        return tokens;
    }

    private static int number(Token token, int least, int most) {
        if (token.type != 'n') throw new Fault(1, token.at);
        if (token.text.length() > 3) throw new Fault(2, token.at);
        int value = Integer.parseInt(token.text);
        if (value < least || value > most) throw new Fault(2, token.at);
        return value;
    }

    private static Told parse(String all) {
        List<Token> tokens = cut(all);
        Told t = new Told();
        int i = 0;
        boolean first = true;
        while (first || tokens.get(i).type != 'e') {
            Token word = tokens.get(i++);
            if (word.type != 'w') throw new Fault(1, word.at);
            if (first && !word.text.equals("town")) throw new Fault(1, word.at);
            switch (word.text) {
                case "town" -> {
                    if (!first) throw new Fault(3, word.at);
                    t.w = number(tokens.get(i++), 1, 9);
                    Token h = tokens.get(i++);
                    t.h = number(h, 1, 9);
                    if (t.w * t.h > 42) throw new Fault(2, h.at);
                    t.grid = new int[t.w][t.h];
                }
                case "wall", "water", "gate" -> {
                    if (t.spots == 30) throw new Fault(3, word.at);
                    int x = number(tokens.get(i++), 0, t.w - 1);
                    Token ty = tokens.get(i++);
                    int y = number(ty, 0, t.h - 1);
                    if (t.grid[x][y] != 0 || t.px == x && t.py == y) throw new Fault(4, ty.at);
                    for (Crowd c : t.crowds) if (c.x == x && c.y == y) throw new Fault(4, ty.at);
                    t.grid[x][y] = word.text.equals("wall") ? 1 : word.text.equals("water") ? 2 : 3;
                    t.spots++;
                }
                case "crowd" -> {
                    if (t.crowds.size() == 6) throw new Fault(3, word.at);
                    int k = number(tokens.get(i++), 0, 2);
                    int x = number(tokens.get(i++), 0, t.w - 1);
                    Token ty = tokens.get(i++);
                    int y = number(ty, 0, t.h - 1);
                    if (t.grid[x][y] != 0) throw new Fault(4, ty.at);
                    int n = number(tokens.get(i++), 1, 99);
                    int p = number(tokens.get(i++), 1, 3);
                    int d = number(tokens.get(i++), 0, n);
                    t.crowds.add(new Crowd(k, x, y, n, p, d));
                }
                case "tune" -> {
                    if (t.tunes.size() == 3) throw new Fault(3, word.at);
                    int s = number(tokens.get(i++), 1, 7);
                    int r = number(tokens.get(i++), 0, 20);
                    t.tunes.add(new Tune(s, r));
                }
                case "piper" -> {
                    if (t.px != NONE) throw new Fault(3, word.at);
                    int x = number(tokens.get(i++), 0, t.w - 1);
                    Token ty = tokens.get(i++);
                    int y = number(ty, 0, t.h - 1);
                    if (t.grid[x][y] != 0) throw new Fault(4, ty.at);
                    t.px = x;
                    t.py = y;
                }
                case "pay" -> {
                    if (t.v != NONE) throw new Fault(3, word.at);
                    t.v = number(tokens.get(i++), 0, 99);
                    t.f = number(tokens.get(i++), 0, 99);
                }
                default -> throw new Fault(1, word.at);
            }
            Token end = tokens.get(i++);
            if (end.type != ';') throw new Fault(1, end.at);
            first = false;
        }
        return t;
    }

    // ---- looking

    private static State begin(Told t) {
        State s = new State();
        int crowds = t.crowds.size();
        s.x = new int[crowds];
        s.y = new int[crowds];
        s.gx = new int[crowds];
        s.gy = new int[crowds];
        s.fate = new int[crowds];
        for (int c = 0; c < crowds; c++) {
            s.x[c] = t.crowds.get(c).x;
            s.y[c] = t.crowds.get(c).y;
            s.gx[c] = NONE;
            s.gy[c] = NONE;
        }
        s.px = Math.max(0, t.px);
        s.py = Math.max(0, t.py);
        if (t.px == NONE) {
            search:
            for (int y = 0; y < t.h; y++) {
                for (int x = 0; x < t.w; x++) {
                    if (t.grid[x][y] == 0) {
                        s.px = x;
                        s.py = y;
                        break search;
                    }
                }
            }
        }
        return s;
    }

    private static int[][] twin(int[][] grid) {
        int[][] copy = new int[grid.length][];
        for (int x = 0; x < grid.length; x++) copy[x] = grid[x].clone();
        return copy;
    }

    private boolean isCell(int x, int y) {
        return x >= 0 && x < told.w && y >= 0 && y < told.h;
    }

    private boolean isCrowd(int c) {
        return c >= 0 && c < told.crowds.size();
    }

    private boolean isTune(int t) {
        return t >= 0 && t < told.tunes.size();
    }

    private int followers(int c) {
        return told.crowds.get(c).n - told.crowds.get(c).d;
    }

    private int heads(State s, int kind, int fate) {
        int sum = 0;
        for (int c = 0; c < s.fate.length; c++) {
            if ((kind == NONE || told.crowds.get(c).kind == kind) && s.fate[c] == fate) sum += followers(c);
        }
        return sum;
    }

    private int left() {
        int all = 0;
        for (Crowd c : told.crowds) all += c.n;
        return all - heads(now, NONE, 1) - heads(now, NONE, 2);
    }

    private int worth(State s) {
        int v = told.v == NONE ? 1 : told.v;
        int f = told.f == NONE ? 1 : told.f;
        return v * heads(s, NONE, 1) - f * heads(s, NONE, 2);
    }

    int told(int what) {
        return switch (what) {
            case 0 -> told.w;
            case 1 -> told.h;
            case 2 -> told.crowds.size();
            case 3 -> told.tunes.size();
            case 4 -> text.length();
            case 5 -> now.minutes;
            case 6 -> 10 * now.px + now.py;
            case 7 -> heads(now, NONE, 1);
            case 8 -> heads(now, NONE, 2);
            case 9 -> left();
            case 10 -> worth(now);
            case 11 -> plan.size();
            case 12 -> seen.size();
            default -> OUTSIDE;
        };
    }

    int cell(int x, int y) {
        return isCell(x, y) ? grid[x][y] : UNKNOWN;
    }

    int crowd(int c, int what) {
        if (!isCrowd(c)) return UNKNOWN;
        Crowd of = told.crowds.get(c);
        return switch (what) {
            case 0 -> of.kind;
            case 1 -> of.n;
            case 2 -> of.p;
            case 3 -> of.d;
            case 4 -> 10 * now.x[c] + now.y[c];
            case 5 -> now.gx[c] == NONE ? NONE : 10 * now.gx[c] + now.gy[c];
            case 6 -> now.fate[c];
            default -> OUTSIDE;
        };
    }

    private boolean hears(State s, int c, int t) {
        Crowd of = told.crowds.get(c);
        if ((told.tunes.get(t).s & 1 << of.kind) == 0 || of.n == of.d || s.fate[c] != 0) return false;
        int far = farOf(s.x[c], s.y[c], s.px, s.py);
        return far != NONE && far <= told.tunes.get(t).r;
    }

    int tune(int t, int what) {
        if (!isTune(t)) return UNKNOWN;
        if (what == 0) return told.tunes.get(t).s;
        if (what == 1) return told.tunes.get(t).r;
        if (what != 2) return OUTSIDE;
        int set = 0;
        for (int c = 0; c < told.crowds.size(); c++) if (hears(now, c, t)) set += 1 << c;
        return set;
    }

    int far(int x, int y, int toX, int toY) {
        return isCell(x, y) && isCell(toX, toY) ? farOf(x, y, toX, toY) : UNKNOWN;
    }

    /** All pairs at once, by rounds that go on until nothing gets nearer. */
    private int farOf(int fromX, int fromY, int toX, int toY) {
        if (fars == null) {
            fars = new int[told.w][told.h][told.w][told.h];
            for (int x = 0; x < told.w; x++) {
                for (int y = 0; y < told.h; y++) {
                    for (int[] line : fars[x][y]) java.util.Arrays.fill(line, NONE);
                    fars[x][y][x][y] = 0;
                    if (grid[x][y] != 1) spread(fars[x][y]);
                }
            }
        }
        return fars[fromX][fromY][toX][toY];
    }

    private void spread(int[][] far) {
        boolean changed = true;
        for (int round = 0; changed; round++) {
            changed = false;
            for (int x = 0; x < told.w; x++) {
                for (int y = 0; y < told.h; y++) {
                    for (int d = 1; d <= 4 && far[x][y] == round; d++) {
                        int nx = x + DX[d];
                        int ny = y + DY[d];
                        if (isCell(nx, ny) && grid[nx][ny] != 1 && far[nx][ny] == NONE) {
                            far[nx][ny] = round + 1;
                            changed = true;
                        }
                    }
                }
            }
        }
    }

    // ---- minutes

    private boolean may(State s, int step) {
        if (told.w == 0) return false;
        if (step == 0) return true;
        int x = s.px + DX[step];
        int y = s.py + DY[step];
        return isCell(x, y) && grid[x][y] != 1 && grid[x][y] != 2;
    }

    private void pass(State s, int step, int t) {
        s.px += DX[step];
        s.py += DY[step];
        for (int c = 0; c < s.fate.length && t != NONE; c++) {
            if (hears(s, c, t)) {
                s.gx[c] = s.px;
                s.gy[c] = s.py;
            }
        }
        for (int c = 0; c < s.fate.length; c++) {
            for (int i = 0; i < told.crowds.get(c).p && s.gx[c] != NONE; i++) walk(s, c);
        }
        s.minutes++;
    }

    private void walk(State s, int c) {
        int far = farOf(s.x[c], s.y[c], s.gx[c], s.gy[c]);
        for (int d = 1; d <= 4 && far > 0; d++) {
            int x = s.x[c] + DX[d];
            int y = s.y[c] + DY[d];
            if (isCell(x, y) && farOf(x, y, s.gx[c], s.gy[c]) == far - 1) {
                s.x[c] = x;
                s.y[c] = y;
                break;
            }
        }
        if (far > 0 && grid[s.x[c]][s.y[c]] == 2) s.fate[c] = 2;
        if (far > 0 && grid[s.x[c]][s.y[c]] == 3) s.fate[c] = 1;
        if (s.fate[c] != 0 || s.x[c] == s.gx[c] && s.y[c] == s.gy[c]) {
            s.gx[c] = NONE;
            s.gy[c] = NONE;
        }
    }

    int minute(int step, int t) {
        if (t != NONE && !isTune(t)) return UNKNOWN;
        if (step < 0 || step > 4) return OUTSIDE;
        if (!may(now, step)) return NOT;
        pass(now, step, t);
        return 10 * now.px + now.py;
    }

    private boolean isHeld(int x, int y) {
        if (now.px == x && now.py == y) return true;
        for (int c = 0; c < now.fate.length; c++) {
            if (now.x[c] == x && now.y[c] == y && now.fate[c] == 0 && followers(c) > 0) return true;
        }
        return false;
    }

    int wall(int x, int y, boolean is) {
        if (!isCell(x, y)) return UNKNOWN;
        if (grid[x][y] >= 2 || isHeld(x, y)) return NOT;
        int was = grid[x][y];
        grid[x][y] = is ? 1 : 0;
        fars = null;
        return was;
    }

    private int draw(int n) {
        seed = (seed * 1103515245L + 12345L) % 2147483648L;
        return (int) (seed / 65536 % n);
    }

    int drift(int n) {
        if (n < 1 || n > 99) return OUTSIDE;
        if (told.w == 0) return NOT;
        for (int i = 0; i < n; i++) {
            int step = draw(5);
            int t = draw(told.tunes.size() + 1);
            pass(now, may(now, step) ? step : 0, t == told.tunes.size() ? NONE : t);
        }
        return left();
    }

    // ---- plans

    int plan(int step, int t) {
        if (t != NONE && !isTune(t)) return UNKNOWN;
        if (step < 0 || step > 4) return OUTSIDE;
        if (plan.size() == 30) return FULL;
        plan.add(new Minute(step, t));
        return plan.size();
    }

    int drop() {
        int had = plan.size();
        plan.clear();
        return had;
    }

    private State behind(int most) {
        State s = now.twin();
        for (int i = 0; i < plan.size() && i < most; i++) {
            if (!may(s, plan.get(i).step)) break;
            pass(s, plan.get(i).step, plan.get(i).tune);
        }
        return s;
    }

    int judge() {
        int passed = behind(30).minutes - now.minutes;
        return passed == plan.size() ? NONE : passed;
    }

    int tried(int k, int what) {
        if (k == NONE) return worth(behind(30));
        if (k < 0 || k > 2) return UNKNOWN;
        if (what < 0 || what > 1) return OUTSIDE;
        return heads(behind(30), k, what + 1);
    }

    int where(int c, int m) {
        if (!isCrowd(c)) return UNKNOWN;
        if (m < 0 || m > 30) return OUTSIDE;
        State s = behind(m);
        return 10 * s.x[c] + s.y[c];
    }

    private boolean isLed(State s, int k) {
        for (int c = 0; c < s.fate.length; c++) {
            boolean ofKind = told.crowds.get(c).kind == k;
            if (ofKind && followers(c) > 0 && s.fate[c] != 1) return false;
            if (!ofKind && s.fate[c] != now.fate[c]) return false;
        }
        return true;
    }

    /** All walks of n minutes in their order; the first that leads the kind out. */
    private int[] leading(State s, int k, int t, int[] walk, int depth) {
        if (depth == walk.length) return isLed(s, k) ? walk.clone() : null;
        for (int step = 0; step <= 4; step++) {
            if (!may(s, step)) continue;
            State next = s.twin();
            pass(next, step, t);
            walk[depth] = step;
            int[] found = leading(next, k, t, walk, depth + 1);
            if (found != null) return found;
        }
        return null;
    }

    int soonest(int k, int t, int i) {
        if (k < 0 || k > 2 || !isTune(t)) return UNKNOWN;
        for (int n = 0; n <= 6; n++) {
            int[] walk = leading(now, k, t, new int[n], 0);
            if (walk != null) return i == NONE ? n : i >= 0 && i < n ? walk[i] : NONE;
        }
        return NONE;
    }

    int bestWall(int k, int what) {
        if (k < 0 || k > 2) return UNKNOWN;
        if (what < 0 || what > 1) return OUTSIDE;
        int best = NONE;
        int fewest = 1000000;
        for (int y = 0; y < told.h; y++) {
            for (int x = 0; x < told.w; x++) {
                if (grid[x][y] != 0 || isHeld(x, y)) continue;
                grid[x][y] = 1;
                fars = null;
                int out = heads(behind(30), k, 1);
                grid[x][y] = 0;
                fars = null;
                if (out < fewest) {
                    fewest = out;
                    best = 10 * x + y;
                }
            }
        }
        return best == NONE || what == 0 ? best : fewest;
    }

    int wax(int k) {
        if (k < 0 || k > 2) return UNKNOWN;
        State s = behind(30);
        int set = 0;
        for (int c = 0; c < s.fate.length; c++) {
            if (told.crowds.get(c).kind == k && now.fate[c] == 0 && s.fate[c] != 0) set += 1 << c;
        }
        return set;
    }

    // ---- what was seen

    int see(int c, int m, int x, int y) {
        if (!isCrowd(c) || !isCell(x, y)) return UNKNOWN;
        if (m < 1 || m > 5) return OUTSIDE;
        if (seen.size() == 10) return FULL;
        seen.add(new Sight(c, m, x, y));
        return seen.size();
    }

    private void fitting(State s, int t, int[] walk, int depth, boolean fits, List<int[]> all) {
        for (Sight sight : seen) {
            if (sight.m == depth && (s.x[sight.crowd] != sight.x || s.y[sight.crowd] != sight.y)) fits = false;
        }
        if (depth == walk.length) {
            if (fits) all.add(walk.clone());
            return;
        }
        for (int step = 0; step <= 4; step++) {
            if (!may(s, step)) continue;
            State next = s.twin();
            pass(next, step, t);
            walk[depth] = step;
            fitting(next, t, walk, depth + 1, fits, all);
        }
    }

    int walks(int n, int t, int i) {
        if (!isTune(t)) return UNKNOWN;
        if (n < 1 || n > 5) return OUTSIDE;
        List<int[]> all = new ArrayList<>();
        fitting(now, t, new int[n], 0, true, all);
        if (i == NONE) return all.size();
        return all.isEmpty() || i < 0 || i >= n ? NONE : all.get(0)[i];
    }

    int tear() {
        int had = seen.size();
        seen.clear();
        return had;
    }

    // ---- draws, images

    int seed(int v) {
        if (v < 0) return OUTSIDE;
        int was = (int) seed;
        seed = v;
        return was;
    }

    int keep(int i) {
        if (i != 0 && i != 1) return UNKNOWN;
        images[i] = new Image(now.twin(), twin(grid), seed);
        return 1;
    }

    int goBack(int i) {
        if (i != 0 && i != 1) return UNKNOWN;
        if (images[i] == null) return NOT;
        now = images[i].state.twin();
        grid = twin(images[i].grid);
        seed = images[i].seed;
        fars = null;
        return 1;
    }
}
