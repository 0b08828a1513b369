/** Section 3 and promises 21 to 26: each bound of what was seen, of walks, the seed and images. */
public final class SeenBoundsTest {
    private static final int NONE = Check.NONE, UNKNOWN = Check.UNKNOWN, OUTSIDE = Check.OUTSIDE, NOT = Check.NOT, FULL = Check.FULL;
    private static final int MIN = Integer.MIN_VALUE, MAX = Integer.MAX_VALUE;

    public static void main(String[] args) {
        seeBounds();
        seeFull();
        seeAnywhere();
        walksBounds();
        walksOfN();
        walksCount();
        walksFirst();
        walksLastStep();
        seenUpToN();
        seenOfTheLast();
        walksPlayAlways();
        tear();
        seedBounds();
        draws();
        drawsWrap();
        imageBounds();
        imageOfAll();
        imageOfWalls();
        imageLeaves();
        imageAgain();
        imageWithoutCells();
        Check.end("SeenBoundsTest");
    }

    private static void seeBounds() {
        Check.says("SEEN: how many. UNKNOWN, OUTSIDE, FULL (10).");
        HeardTunes x = Check.told("town 4 3;crowd 0 0 0 9 1 0;crowd 1 0 0 9 1 0;tune 1 1;");
        int many = 0;
        for (int m = 1; m <= 5; m++) {
            many++;
            Check.due("m = " + m, x.see(0, m, 0, 0), many);
        }
        int[][] corners = {{3, 0}, {0, 2}, {3, 2}};
        for (int[] at : corners) {
            many++;
            Check.due("the last crowd in a corner", x.see(1, 1, at[0], at[1]), many);
        }
        Check.due("m = 0", x.see(0, 0, 0, 0), OUTSIDE);
        Check.due("m = 6", x.see(0, 6, 0, 0), OUTSIDE);
        Check.due("c = 2", x.see(2, 1, 0, 0), UNKNOWN);
        Check.due("c = -1", x.see(-1, 1, 0, 0), UNKNOWN);
        Check.due("x = 4", x.see(0, 1, 4, 0), UNKNOWN);
        Check.due("x = -1", x.see(0, 1, -1, 0), UNKNOWN);
        Check.due("y = 3", x.see(0, 1, 0, 3), UNKNOWN);
        Check.due("y = -1", x.see(0, 1, 0, -1), UNKNOWN);
        Check.due("told(12)", x.told(12), many);
    }

    private static void seeFull() {
        Check.says("SEEN (10 at most)");
        HeardTunes x = Check.told("town 2 1;crowd 0 0 0 9 1 0;tune 2 1;");
        for (int i = 1; i <= 10; i++) {
            Check.due("the same again counts", x.see(0, 1, 0, 0), i);
        }
        Check.due("the eleventh", x.see(0, 1, 1, 0), FULL);
        Check.due("told(12)", x.told(12), 10);
        Check.due("what was refused is not seen", x.walks(1, 0, NONE), 2);
    }

    private static void seeAnywhere() {
        Check.says("a CROWD's FOLLOWERS were on a CELL behind m MINUTES (1 .. 5) from now.");
        HeardTunes x = Check.told("town 3 1;wall 2 0;crowd 0 0 0 9 1 0;crowd 0 0 0 9 1 9;tune 1 20;piper 1 0;");
        Check.due("also on a wall", x.see(0, 5, 2, 0), 1);
        Check.due("no walk brings them there", x.walks(5, 0, NONE), 0);
        x.tear();
        x.see(1, 3, 0, 0);
        Check.due("deaf ones alone were where they were told", x.walks(3, 0, NONE), 8);
        x.see(1, 2, 1, 0);
        Check.due("and nowhere else", x.walks(3, 0, NONE), 0);
    }

    private static void walksBounds() {
        Check.says("WALKS: i = NONE how many, else STEP i of the first (NONE: not so many, no WALK). UNKNOWN, OUTSIDE (n).");
        HeardTunes x = Check.told("town 2 1;crowd 0 1 0 9 1 0;tune 1 20;tune 2 1;");
        for (int n = 1; n <= 5; n++) {
            Check.due("walks(" + n + ", 0, -1)", x.walks(n, 0, NONE), 1 << n);
            for (int i = 0; i < n; i++) {
                Check.due("STEP " + i + " of " + n, x.walks(n, 0, i), 0);
            }
            for (int i : new int[] {n, n + 1, 30, -2, MIN, MAX}) {
                Check.due("STEP " + i + " of " + n, x.walks(n, 0, i), NONE);
            }
        }
        Check.due("n = 0", x.walks(0, 0, NONE), OUTSIDE);
        Check.due("n = 6", x.walks(6, 0, NONE), OUTSIDE);
        Check.due("t = 2", x.walks(1, 2, NONE), UNKNOWN);
        Check.due("t = -1: one TUNE is needed", x.walks(1, -1, NONE), UNKNOWN);
        x.see(0, 1, 0, 0);
        x.see(0, 1, 1, 0);
        Check.due("no walk", x.walks(3, 0, NONE), 0);
        for (int i = 0; i <= 3; i++) {
            Check.due("no walk, STEP " + i, x.walks(3, 0, i), NONE);
        }
    }

    private static void walksOfN() {
        Check.says("WALKS of n MINUTES (1 .. 5)");
        HeardTunes one = Check.told("town 1 1;tune 1 1;");
        for (int n = 1; n <= 5; n++) {
            Check.due("in one cell", one.walks(n, 0, NONE), 1);
            Check.due("its last STEP", one.walks(n, 0, n - 1), 0);
        }
        HeardTunes shut = Check.told("town 3 3;wall 1 0;water 2 1;wall 1 2;water 0 1;piper 1 1;tune 1 1;");
        Check.due("walls and water all round", shut.walks(5, 0, NONE), 1);
        HeardTunes gate = Check.told("town 2 1;gate 1 0;tune 1 1;");
        Check.due("a gate is no hindrance", gate.walks(5, 0, NONE), 32);
        HeardTunes wall = Check.told("town 2 1;wall 0 0;wall 1 0;tune 1 1;");
        Check.due("a piper on a wall may stay", wall.walks(5, 0, NONE), 1);
    }

    private static void walksCount() {
        Check.says("that fit all SEEN of up to n MINUTES: how many");
        HeardTunes x = Check.told("town 7 6;piper 3 3;tune 7 20;crowd 0 3 3 9 3 0;");
        for (int n = 1; n <= 5; n++) {
            Check.due("all walks of " + n, x.walks(n, 0, NONE), countWalks(3, 3, n));
        }
        for (int m = 1; m <= 5; m++) {
            x.see(0, m, 3, 3);
            Check.due("they come wherever he is: he stayed " + m, x.walks(m, 0, NONE), 1);
        }
        for (int i = 0; i < 5; i++) {
            Check.due("STEP " + i, x.walks(5, 0, i), 0);
        }
    }

    /** In a town of 7 x 6 without walls. */
    private static int countWalks(int x, int y, int n) {
        if (x < 0 || x > 6 || y < 0 || y > 5) {
            return 0;
        }
        return n == 0 ? 1 : countWalks(x, y, n - 1) + countWalks(x, y - 1, n - 1) + countWalks(x + 1, y, n - 1)
            + countWalks(x, y + 1, n - 1) + countWalks(x - 1, y, n - 1);
    }

    private static void walksFirst() {
        Check.says("how many; the first (STEP by STEP the lesser number).");
        int[][] sides = {{1, 1}, {1, 0}, {2, 1}, {1, 2}, {0, 1}};
        for (int step = 0; step <= 4; step++) {
            HeardTunes x = Check.told("town 3 3;piper 1 1;tune 1 20;crowd 0 1 1 9 1 0;");
            x.see(0, 1, sides[step][0], sides[step][1]);
            Check.due("one walk of one", x.walks(1, 0, NONE), 1);
            Check.due("its STEP", x.walks(1, 0, 0), step);
            Check.due("then he stays", x.walks(2, 0, 1), 0);
        }
        HeardTunes two = Check.told("town 3 3;piper 1 1;tune 1 20;crowd 0 1 1 9 2 0;");
        two.see(0, 2, 2, 0);
        // North and east, or east and north: the lesser first.
        Check.due("two walks", two.walks(2, 0, NONE), 2);
        Check.due("STEP 0", two.walks(2, 0, 0), 1);
        Check.due("STEP 1", two.walks(2, 0, 1), 2);
    }

    private static void walksLastStep() {
        Check.says("else STEP i of the first");
        // Heard one cell far, he has to come nearer in each of the five minutes.
        HeardTunes x = Check.told("town 9 1;crowd 0 6 0 9 1 0;tune 1 1;piper 0 0;");
        x.see(0, 5, 5, 0);
        Check.due("one walk", x.walks(5, 0, NONE), 1);
        for (int i = 0; i < 5; i++) {
            Check.due("STEP " + i, x.walks(5, 0, i), 2);
        }
        Check.due("no STEP 5", x.walks(5, 0, 5), NONE);
        Check.due("nobody was seen by four", x.walks(4, 0, 3), 0);
    }

    private static void seenUpToN() {
        Check.says("that fit all SEEN of up to n MINUTES");
        for (int m = 1; m <= 5; m++) {
            HeardTunes x = Check.told("town 3 1;crowd 0 0 0 9 1 9;tune 1 20;piper 1 0;");
            int[] all = new int[6];
            for (int n = 1; n <= 5; n++) {
                all[n] = x.walks(n, 0, NONE);
            }
            x.see(0, m, 2, 0);
            for (int n = 1; n <= 5; n++) {
                Check.due("seen behind " + m + ", walks of " + n, x.walks(n, 0, NONE), n < m ? all[n] : 0);
            }
        }
    }

    private static void seenOfTheLast() {
        Check.says("a CROWD's FOLLOWERS were on a CELL behind m MINUTES");
        StringBuilder text = new StringBuilder("town 9 1;piper 8 0;tune 1 20;tune 2 20;");
        for (int c = 0; c < 6; c++) {
            text.append("crowd ").append(c == 5 ? 1 : 0).append(" 0 0 9 1 0;");
        }
        HeardTunes x = Check.told(text.toString());
        x.see(5, 5, 50, 0);
        Check.due("what was refused is not seen", x.told(12), 0);
        x.see(5, 5, 5, 0);
        Check.due("the sixth crowd comes by its tune", x.walks(5, 1, NONE) > 0 ? 1 : 0, 1);
        Check.due("not by the other", x.walks(5, 0, NONE), 0);
        HeardTunes out = Check.told("town 4 1;gate 1 0;water 3 0;crowd 0 0 0 9 3 0;crowd 0 2 0 9 1 0;tune 1 20;piper 0 0;");
        out.see(0, 1, 1, 0);
        out.see(0, 5, 1, 0);
        // East at first, then any walk on the three dry cells: 41 of four minutes.
        Check.due("where they went out they still are", out.walks(5, 0, NONE), 41);
        out.see(0, 3, 0, 0);
        Check.due("and nowhere else", out.walks(5, 0, NONE), 0);
    }

    private static void walksPlayAlways() {
        Check.says("one TUNE in each");
        HeardTunes x = Check.told("town 5 1;crowd 0 0 0 9 1 0;tune 1 20;piper 4 0;");
        x.see(0, 1, 0, 0);
        Check.due("they cannot have stayed", x.walks(1, 0, NONE), 0);
        x.tear();
        x.see(0, 4, 4, 0);
        Check.due("those that bring them to 4 0 as plans", x.walks(4, 0, NONE), plansThatLead(4));
    }

    /** How many plans of n minutes, each with the tune, bring the crowd to 4 0. */
    private static int plansThatLead(int n) {
        HeardTunes x = Check.told("town 5 1;crowd 0 0 0 9 1 0;tune 1 20;piper 4 0;");
        int many = 0;
        for (int code = 0; code < Math.pow(5, n); code++) {
            x.drop();
            int rest = code;
            for (int i = 0; i < n; i++) {
                x.plan(rest % 5, 0);
                rest /= 5;
            }
            if (x.judge() == NONE && x.where(0, n) == 40) {
                many++;
            }
            if (code % 40 == 39) {
                x = Check.told("town 5 1;crowd 0 0 0 9 1 0;tune 1 20;piper 4 0;");
            }
        }
        return many;
    }

    private static void tear() {
        Check.says("Nothing is SEEN: how much there was.");
        HeardTunes x = Check.told("town 2 1;crowd 0 0 0 9 1 0;tune 2 1;");
        Check.due("nothing", x.tear(), 0);
        for (int many = 1; many <= 10; many += 9) {
            for (int i = 0; i < many; i++) {
                x.see(0, 1, 1, 0);
            }
            Check.due("no walk fits", x.walks(1, 0, NONE), 0);
            Check.due("tear()", x.tear(), many);
            Check.due("told(12)", x.told(12), 0);
            Check.due("all walks fit", x.walks(1, 0, NONE), 2);
            Check.due("tear() again", x.tear(), 0);
        }
        Check.due("without cells", new HeardTunes().tear(), 0);
    }

    private static void seedBounds() {
        Check.says("THE SEED becomes v (0 .. 2147483647): what it was. OUTSIDE.");
        HeardTunes x = new HeardTunes();
        Check.due("0 at first", x.seed(0), 0);
        Check.due("0", x.seed(1), 0);
        Check.due("1", x.seed(2147483647), 1);
        Check.due("-1", x.seed(-1), OUTSIDE);
        Check.due("min", x.seed(MIN), OUTSIDE);
        Check.due("the most", x.seed(2147483646), 2147483647);
        Check.due("one less", x.seed(0), 2147483646);
    }

    private static void draws() {
        Check.says("THE SEED (0 at first: each DRAW it becomes it times 1103515245 and 12345, left over by 2 to the 31; "
            + "the DRAW of n is it / 65536, left over by n)");
        HeardTunes x = Check.told("town 1 1;");
        x.drift(1);
        // 12345, then 12345 x 1103515245 + 12345 left over by 2 to the 31.
        Check.due("two draws from 0", x.seed(0), 1406932606);
        HeardTunes y = Check.told("town 9 4;piper 4 2;");
        y.seed(0);
        y.drift(1);
        // 12345 / 65536 is 0: he stays.
        Check.due("the first draw from 0", y.told(6), 42);
        y.drift(1);
        // The third number is 654583775; / 65536 is 9988, left over by 5: 3.
        Check.due("the third draw from 0", y.told(6), 43);
    }

    private static void drawsWrap() {
        Check.says("left over by 2 to the 31");
        for (int first : new int[] {0, 1, 65535, 65536, 1073741823, 1073741824, 2147483646, 2147483647}) {
            HeardTunes x = Check.told("town 9 4;piper 4 2;tune 1 1;");
            x.seed(first);
            java.math.BigInteger seed = java.math.BigInteger.valueOf(first);
            for (int i = 0; i < 20; i++) {
                x.drift(1);
                seed = next(next(seed));
                int now = x.seed(0);
                x.seed(now);
                Check.due("from " + first + ", minute " + i, now, seed.longValueExact());
                Check.due("it is never below 0", now < 0 ? 1 : 0, 0);
            }
        }
    }

    private static java.math.BigInteger next(java.math.BigInteger seed) {
        return seed.multiply(java.math.BigInteger.valueOf(1103515245)).add(java.math.BigInteger.valueOf(12345))
            .mod(java.math.BigInteger.ONE.shiftLeft(31));
    }

    private static void imageBounds() {
        Check.says("IMAGE i becomes what is so: 1. UNKNOWN.");
        HeardTunes x = Check.told("town 2 1;");
        Check.due("goBack(0) of none", x.goBack(0), NOT);
        Check.due("goBack(1) of none", x.goBack(1), NOT);
        Check.due("keep(2)", x.keep(2), UNKNOWN);
        Check.due("keep(-1)", x.keep(-1), UNKNOWN);
        Check.due("keep(1)", x.keep(1), 1);
        Check.due("goBack(0) still", x.goBack(0), NOT);
        Check.due("goBack(1)", x.goBack(1), 1);
        Check.due("keep(0)", x.keep(0), 1);
        Check.says("What is so becomes IMAGE i: 1. UNKNOWN, NOT: it was not kept.");
        Check.due("goBack(0)", x.goBack(0), 1);
        Check.due("goBack(2)", x.goBack(2), UNKNOWN);
        Check.due("goBack(-1)", x.goBack(-1), UNKNOWN);
        Check.tell(x, "town 2 1;");
        Check.due("gone with the town", x.goBack(0), NOT);
        Check.due("gone with the town", x.goBack(1), NOT);
    }

    private static void imageOfAll() {
        Check.says("IMAGES 0, 1 keep the piper's CELL, FOLLOWERS (where, GOALS, OUT, DROWNED), walls, MINUTES, THE SEED.");
        HeardTunes x = Check.told("town 7 2;gate 0 0;water 6 1;wall 5 0;crowd 0 1 0 9 1 0;crowd 1 5 1 8 1 0;crowd 2 3 0 7 1 0;"
            + "tune 1 20;tune 2 20;tune 4 20;piper 1 0;");
        for (int i = 0; i < 2; i++) {
            x.seed(1000 + i);
            String first = Check.look(x);
            x.keep(i);
            x.minute(4, 0);
            x.minute(2, 2);
            x.wall(5, 0, false);
            x.seed(5);
            Check.due("it is another scene", Check.look(x).equals(first) ? 1 : 0, 0);
            String later = Check.look(x);
            x.keep(1 - i);
            x.goBack(i);
            Check.same("as it was kept", Check.look(x), first);
            x.goBack(1 - i);
            Check.same("as it was later", Check.look(x), later);
            x.goBack(i);
            x.wall(5, 0, true);
        }
    }

    private static void imageOfWalls() {
        Check.says("walls, MINUTES, THE SEED.");
        HeardTunes x = Check.told("town 4 1;wall 3 0;tune 1 1;piper 0 0;");
        x.keep(0);
        x.wall(3, 0, false);
        x.wall(1, 0, true);
        Check.due("no way", x.far(0, 0, 2, 0), NONE);
        x.keep(1);
        x.goBack(0);
        Check.due("a wall that came is gone", x.cell(1, 0), 0);
        Check.due("a wall that went is back", x.cell(3, 0), 1);
        Check.due("a way", x.far(0, 0, 2, 0), 2);
        Check.due("he may step", x.walks(1, 0, NONE), 2);
        x.goBack(1);
        Check.due("there again", x.cell(1, 0), 1);
        Check.due("gone again", x.cell(3, 0), 0);
        Check.due("no way again", x.far(0, 0, 2, 0), NONE);
        Check.due("he may not step", x.walks(1, 0, NONE), 1);
    }

    private static void imageLeaves() {
        Check.says("`int goBack(int i)`: What is so becomes IMAGE i: 1.");
        HeardTunes x = Check.told("town 3 1;crowd 0 0 0 9 1 0;tune 1 20;piper 1 0;");
        x.keep(0);
        x.plan(2, 0);
        x.plan(2, 0);
        x.see(0, 1, 1, 0);
        Check.feed(x, "town 1 1;x");
        x.goBack(0);
        Check.due("the plan", x.told(11), 2);
        Check.due("the plan as it was", x.judge(), 1);
        Check.due("what was seen", x.told(12), 1);
        Check.due("the text", x.told(4), 10);
        Check.due("the text as it was", x.town(), -11);
        Check.due("its fault", x.fault(), 9);
        x.goBack(0);
        Check.due("the fault is no part of it", x.fault(), 9);
    }

    private static void imageAgain() {
        Check.says("IMAGE i becomes what is so");
        HeardTunes x = Check.told("town 5 1;piper 0 0;");
        for (int i = 1; i <= 4; i++) {
            x.minute(2, NONE);
            x.keep(0);
            x.drift(9);
            x.goBack(0);
            Check.due("the latest keep counts", x.told(6), 10 * i);
            Check.due("its minutes", x.told(5), i);
            x.drift(9);
            x.goBack(0);
            Check.due("as often as is wanted", x.told(6), 10 * i);
        }
    }

    private static void imageWithoutCells() {
        Check.says("UNKNOWN, NOT: it was not kept.");
        HeardTunes x = new HeardTunes();
        Check.due("goBack(0)", x.goBack(0), NOT);
        x.seed(8);
        Check.due("keep(0)", x.keep(0), 1);
        x.seed(9);
        Check.due("goBack(0)", x.goBack(0), 1);
        Check.due("the seed of the image", x.seed(0), 8);
        Check.due("no cells", x.told(6), 0);
        x.town();
        Check.due("an empty text is a town too", x.goBack(0), NOT);
    }
}
