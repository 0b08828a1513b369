import java.nio.charset.StandardCharsets;
import java.util.Random;

/** Random runs of calls, each held against the model; the seeds are fixed, so all runs are the same. */
public final class ModelTest {
    private static final int RUNS = 700;
    private static final int CALLS = 500;

    private static Random random;
    private static HeardTunes mine;
    private static Model model;
    private static StringBuilder log;
    private static int calls;

    public static void main(String[] args) {
        int runs = args.length > 0 ? Integer.parseInt(args[0]) : RUNS;
        int firstSeed = args.length > 1 ? Integer.parseInt(args[1]) : 0;
        for (int run = 0; run < runs; run++) {
            oneRun(firstSeed + run);
        }
        texts(firstSeed);
        Check.end("ModelTest");
    }

    private static void begin(int seed) {
        random = new Random(seed);
        mine = new HeardTunes();
        model = new Model();
        log = new StringBuilder();
        calls = 0;
    }

    private static void oneRun(int seed) {
        begin(seed);
        int searches = 25;
        if (random.nextInt(8) != 0) {
            tell(Texts.good(random));
        }
        boolean same = true;
        while (same && calls < CALLS) {
            int kind = random.nextInt(100);
            boolean dear = kind >= 94;
            if (dear && searches-- <= 0) {
                continue;
            }
            if (kind == 0 && random.nextInt(6) == 0) {
                same = tell(random.nextInt(3) == 0 ? Texts.spoilt(random) : Texts.good(random));
            } else {
                same = call(kind);
            }
        }
        if (!same) {
            System.out.println("seed " + seed + ":\n" + log);
        }
    }

    /** Texts alone, many of them with a fault. */
    private static void texts(int seed) {
        begin(seed);
        for (int i = 0; i < 60000; i++) {
            mine = i % 50 == 0 ? new HeardTunes() : mine;
            model = i % 50 == 0 ? new Model() : model;
            log.setLength(0);
            if (!tell(i % 4 == 0 ? Texts.good(random) : Texts.spoilt(random))) {
                System.out.println(log);
            }
        }
    }

    private static boolean tell(String text) {
        byte[] bytes = text.getBytes(StandardCharsets.ISO_8859_1);
        boolean same = true;
        for (int from = 0; from < bytes.length && same;) {
            int n = Math.min(1 + random.nextInt(8), bytes.length - from);
            long packed = random.nextLong();
            for (int i = 0; i < n; i++) {
                packed = packed << 8 | bytes[from + i] & 255;
            }
            from += n;
            same = same("feed " + n, mine.feed(n, packed), model.feed(n, packed));
        }
        same &= same("town of \"" + text + "\"", mine.town(), model.town());
        return same & same("fault", mine.fault(), model.fault());
    }

    private static boolean same(String call, int got, int want) {
        calls++;
        log.append(call).append(" -> ").append(want).append('\n');
        Check.due(call, got, want);
        return got == want;
    }

    /** A number of 0 .. n less 1, now and then one that is not. */
    private static int some(int n) {
        int odd = random.nextInt(60);
        if (odd == 0) {
            int[] strange = {-1, n, n + 1, -2, Integer.MIN_VALUE, Integer.MAX_VALUE, 100, 1000};
            return strange[random.nextInt(strange.length)];
        }
        return n > 0 ? random.nextInt(n) : random.nextInt(2) - 1;
    }

    private static int tuneOrNone() {
        return random.nextInt(4) == 0 ? -1 : some(model.told(3));
    }

    private static boolean call(int kind) {
        int x = some(model.told(0));
        int y = some(model.told(1));
        int c = some(model.told(2));
        int t = some(model.told(3));
        int k = some(3);
        if (kind < 14) {
            int step = some(5);
            int played = tuneOrNone();
            return same("minute " + step + " " + played, mine.minute(step, played), model.minute(step, played));
        }
        if (kind < 20) {
            boolean is = random.nextInt(3) != 0;
            return same("wall " + x + " " + y + " " + is, mine.wall(x, y, is), model.wall(x, y, is));
        }
        if (kind < 45) {
            return look(kind, x, y, c, t);
        }
        if (kind < 80) {
            return planned(kind, c, k);
        }
        if (kind < 94) {
            return other(kind);
        }
        return searched(kind, t, k);
    }

    private static boolean look(int kind, int x, int y, int c, int t) {
        if (kind < 25) {
            int what = some(13);
            return same("told " + what, mine.told(what), model.told(what));
        }
        if (kind < 30) {
            return same("cell " + x + " " + y, mine.cell(x, y), model.cell(x, y));
        }
        if (kind < 37) {
            int what = some(7);
            return same("crowd " + c + " " + what, mine.crowd(c, what), model.crowd(c, what));
        }
        if (kind < 41) {
            int what = some(3);
            return same("tune " + t + " " + what, mine.tune(t, what), model.tune(t, what));
        }
        int toX = some(model.told(0));
        int toY = some(model.told(1));
        return same("far " + x + " " + y + " " + toX + " " + toY, mine.far(x, y, toX, toY), model.far(x, y, toX, toY));
    }

    private static boolean planned(int kind, int c, int k) {
        int what = some(2);
        if (kind < 57) {
            int step = some(5);
            int played = tuneOrNone();
            return same("plan " + step + " " + played, mine.plan(step, played), model.plan(step, played));
        }
        if (kind < 58) {
            return same("drop", mine.drop(), model.drop());
        }
        if (kind < 61) {
            return same("judge", mine.judge(), model.judge());
        }
        if (kind < 67) {
            int of = random.nextInt(3) == 0 ? -1 : k;
            return same("tried " + of + " " + what, mine.tried(of, what), model.tried(of, what));
        }
        if (kind < 73) {
            int m = some(31);
            return same("where " + c + " " + m, mine.where(c, m), model.where(c, m));
        }
        if (kind < 77) {
            return same("wax " + k, mine.wax(k), model.wax(k));
        }
        return same("bestWall " + k + " " + what, mine.bestWall(k, what), model.bestWall(k, what));
    }

    private static boolean other(int kind) {
        int i = some(2);
        if (kind < 84) {
            return seen();
        }
        if (kind < 85) {
            return same("tear", mine.tear(), model.tear());
        }
        if (kind < 87) {
            int v = random.nextInt(20) == 0 ? -1 - random.nextInt(5) : random.nextInt() & 2147483647;
            return same("seed " + v, mine.seed(v), model.seed(v));
        }
        if (kind < 89) {
            int n = random.nextInt(3) == 0 ? some(100) : 1 + random.nextInt(3);
            return same("drift " + n, mine.drift(n), model.drift(n));
        }
        if (kind < 91) {
            return same("keep " + i, mine.keep(i), model.keep(i));
        }
        return same("goBack " + i, mine.goBack(i), model.goBack(i));
    }

    /** Mostly near where a crowd is, so that walks fit now and then. */
    private static boolean seen() {
        int c = some(model.told(2));
        int at = model.crowd(c, 4);
        int x = at < 0 || random.nextInt(5) == 0 ? some(model.told(0)) : at / 10 + random.nextInt(3) - 1;
        int y = at < 0 || random.nextInt(5) == 0 ? some(model.told(1)) : at % 10 + random.nextInt(3) - 1;
        int m = some(6);
        return same("see " + c + " " + m + " " + x + " " + y, mine.see(c, m, x, y), model.see(c, m, x, y));
    }

    private static boolean searched(int kind, int t, int k) {
        int i = random.nextInt(3) == 0 ? -1 : some(6);
        if (kind < 97) {
            boolean same = same("soonest " + k + " " + t + " " + i, mine.soonest(k, t, i), model.soonest(k, t, i));
            return same & same("soonest " + k + " " + t + " -1", mine.soonest(k, t, -1), model.soonest(k, t, -1));
        }
        int n = 1 + some(5);
        boolean same = same("walks " + n + " " + t + " " + i, mine.walks(n, t, i), model.walks(n, t, i));
        return same & same("walks " + n + " " + t + " -1", mine.walks(n, t, -1), model.walks(n, t, -1));
    }
}
