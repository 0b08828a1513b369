/** Promises 21 to 23: what was seen, the walks that fit, tear. */
public final class SeenTest {
    private static final int NONE = Check.NONE, UNKNOWN = Check.UNKNOWN, OUTSIDE = Check.OUTSIDE, FULL = Check.FULL;

    public static void main(String[] args) {
        see();
        allWalks();
        walksThatFit();
        onlyUpToN();
        whereTheyWentOut();
        fromNow();
        walksByWhereCrowdsAre();
        refusedWalks();
        Check.end("SeenTest");
    }

    private static void see() {
        HeardTunes x = Check.told("town 3 2;wall 2 1;crowd 0 0 0 9 1 0;tune 1 9;");
        Check.due("see(1, 1, 0, 0)", x.see(1, 1, 0, 0), UNKNOWN);
        Check.due("see(-1, 1, 0, 0)", x.see(-1, 1, 0, 0), UNKNOWN);
        Check.due("see(0, 1, 3, 0)", x.see(0, 1, 3, 0), UNKNOWN);
        Check.due("see(0, 1, 0, -1)", x.see(0, 1, 0, -1), UNKNOWN);
        Check.due("see(0, 9, 0, 2)", x.see(0, 9, 0, 2), UNKNOWN);
        Check.due("see(0, 0, 0, 0)", x.see(0, 0, 0, 0), OUTSIDE);
        Check.due("see(0, 6, 0, 0)", x.see(0, 6, 0, 0), OUTSIDE);
        Check.due("tear() of nothing", x.tear(), 0);
        for (int i = 1; i <= 10; i++) {
            Check.due("see " + i, x.see(0, 1 + i % 5, i % 3, i % 2), i);
        }
        Check.due("the eleventh", x.see(0, 1, 0, 0), FULL);
        Check.due("the eleventh, OUTSIDE first", x.see(0, 0, 0, 0), OUTSIDE);
        Check.due("the eleventh, UNKNOWN first", x.see(0, 0, 3, 0), UNKNOWN);
        Check.due("told(12)", x.told(12), 10);
        Check.due("tear()", x.tear(), 10);
        Check.due("told(12) behind it", x.told(12), 0);
        Check.due("tear() again", x.tear(), 0);
        Check.due("see behind tear()", x.see(0, 5, 2, 1), 1);
    }

    private static void allWalks() {
        HeardTunes one = Check.told("town 1 1;tune 1 1;");
        Check.due("he can only stay", one.walks(5, 0, NONE), 1);
        HeardTunes two = Check.told("town 2 1;tune 1 1;");
        for (int n = 1; n <= 5; n++) {
            Check.due("walks(" + n + ")", two.walks(n, 0, NONE), 1 << n);
            Check.due("the first STEP", two.walks(n, 0, 0), 0);
            Check.due("the last STEP", two.walks(n, 0, n - 1), 0);
            Check.due("behind the last STEP", two.walks(n, 0, n), NONE);
        }
        HeardTunes open = Check.told("town 6 7;tune 1 1;piper 3 3;");
        Check.due("five steps each", open.walks(2, 0, NONE), 25);
        Check.due("one walk leads off the town", open.walks(3, 0, NONE), 124);
        HeardTunes shut = Check.told("town 3 1;wall 0 0;water 2 0;tune 1 1;piper 1 0;");
        Check.due("not on walls, water", shut.walks(4, 0, NONE), 1);
        shut.wall(0, 0, false);
        Check.due("without the wall", shut.walks(4, 0, NONE), 16);
    }

    private static void walksThatFit() {
        // They come to him when he is within two cells; he stands three off.
        HeardTunes x = Check.told("town 7 1;crowd 0 0 0 9 1 0;tune 1 2;tune 2 20;piper 3 0;");
        x.see(0, 1, 1, 0);
        Check.due("he stepped west", x.walks(1, 0, NONE), 1);
        Check.due("STEP 0", x.walks(1, 0, 0), 4);
        Check.due("another tune did not do it", x.walks(1, 1, NONE), 0);
        Check.due("no walk, no STEP", x.walks(1, 1, 0), NONE);
        x.see(0, 3, 3, 0);
        Check.due("he went back east", x.walks(3, 0, NONE), 3);
        Check.due("STEP 0", x.walks(3, 0, 0), 4);
        Check.due("STEP 1", x.walks(3, 0, 1), 0);
        Check.due("STEP 2", x.walks(3, 0, 2), 2);
        Check.due("two minutes more", x.walks(5, 0, NONE), 27);
        Check.due("STEP 3 of the first", x.walks(5, 0, 3), 0);
        Check.due("STEP 4 of the first", x.walks(5, 0, 4), 0);
        Check.due("STEP 5", x.walks(5, 0, 5), NONE);
        Check.due("STEP -2", x.walks(5, 0, -2), NONE);
        x.see(0, 3, 2, 0);
        Check.due("not on two cells at once", x.walks(3, 0, NONE), 0);
        Check.due("nor later", x.walks(5, 0, NONE), 0);
        Check.due("but before", x.walks(2, 0, NONE), 3);
        x.tear();
        Check.due("torn", x.walks(1, 0, NONE), 3);
        for (int i = 0; i < 5; i++) {
            Check.due("the first stays everywhere", x.walks(5, 0, i), 0);
        }
        x.see(0, 1, 1, 0);
        Check.due("west once more", x.walks(5, 0, 0), 4);
        Check.due("then he stays", x.walks(5, 0, 1), 0);
    }

    private static void onlyUpToN() {
        HeardTunes x = Check.told("town 5 1;crowd 0 0 0 9 1 0;tune 1 20;piper 4 0;");
        x.see(0, 2, 0, 0);
        Check.due("later ones do not count", x.walks(1, 0, NONE), 2);
        Check.due("now they do", x.walks(2, 0, NONE), 0);
        Check.due("and farther on", x.walks(5, 0, NONE), 0);
    }

    private static void whereTheyWentOut() {
        HeardTunes x = Check.told("town 4 1;gate 1 0;crowd 0 0 0 9 2 0;crowd 1 0 0 9 1 9;tune 3 20;piper 3 0;");
        x.see(0, 1, 1, 0);
        x.see(0, 4, 1, 0);
        x.see(1, 4, 0, 0);
        Check.due("they stay where they went out, the deaf where told", x.walks(4, 0, NONE), 34);
    }

    private static void fromNow() {
        HeardTunes x = Check.told("town 7 1;crowd 0 0 0 9 1 0;tune 1 20;piper 6 0;");
        x.see(0, 1, 1, 0);
        Check.due("one minute from now", x.walks(1, 0, NONE), 2);
        x.minute(0, 0);
        Check.due("from now it is another minute", x.walks(1, 0, NONE), 0);
        x.keep(0);
        x.goBack(0);
        Check.due("an image leaves what was seen", x.told(12), 1);
    }

    /** Walks that bring him to the same cell, but the crowds to others, or behind another minute. */
    private static void walksByWhereCrowdsAre() {
        // Crowd 2 is wherever he is: of 70 walks 16, with 40 last steps, keep off the gate for four minutes.
        HeardTunes x = Check.told("town 3 1;gate 0 0;crowd 1 2 0 5 2 0;crowd 0 1 0 5 1 0;crowd 0 2 0 5 1 0;tune 1 20;piper 2 0;");
        x.see(2, 4, 0, 0);
        Check.due("to the gate by then", x.walks(5, 0, NONE), 30);
        int[] first = {0, 0, 4, 4, 0};
        for (int i = 0; i < 5; i++) {
            Check.due("STEP " + i, x.walks(5, 0, i), first[i]);
        }
        // Crowd 0 goes out at 2 0 in the first minute, wherever he goes: all walks fit.
        x = Check.told("town 4 1;gate 2 0;gate 0 0;crowd 0 3 0 5 2 0;crowd 0 3 0 5 1 0;crowd 1 1 0 5 2 0;tune 1 3;piper 1 0;");
        x.see(0, 3, 2, 0);
        Check.due("all walks", x.walks(5, 0, NONE), 144);
        x.see(0, 4, 2, 0);
        Check.due("all walks still", x.walks(5, 0, NONE), 144);
        x = Check.told("town 3 3;gate 1 0;wall 1 1;crowd 0 0 0 5 2 0;crowd 0 2 1 5 1 0;tune 3 3;piper 0 1;");
        x.see(0, 5, 0, 0);
        Check.due("back where they were", x.walks(5, 0, NONE), 30);
        for (int i = 0; i < 5; i++) {
            Check.due("STEP " + i, x.walks(5, 0, i), i < 4 ? 0 : 1);
        }
    }

    private static void refusedWalks() {
        HeardTunes x = Check.told("town 2 2;tune 1 1;");
        Check.due("walks(0, 0, -1)", x.walks(0, 0, NONE), OUTSIDE);
        Check.due("walks(6, 0, -1)", x.walks(6, 0, NONE), OUTSIDE);
        Check.due("walks(-1, 0, -1)", x.walks(-1, 0, NONE), OUTSIDE);
        Check.due("walks(1, 1, -1)", x.walks(1, 1, NONE), UNKNOWN);
        Check.due("walks(1, -1, -1)", x.walks(1, -1, NONE), UNKNOWN);
        Check.due("walks(0, 1, -1)", x.walks(0, 1, NONE), UNKNOWN);
    }
}
