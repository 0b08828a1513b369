/** Promises 13 to 20: the plan, what it is worth, the soonest walk, the best wall, wax. */
public final class PlansTest {
    private static final int NONE = Check.NONE, UNKNOWN = Check.UNKNOWN, OUTSIDE = Check.OUTSIDE, FULL = Check.FULL;

    public static void main(String[] args) {
        plan();
        judge();
        tried();
        triedCountsThoseOfNow();
        where();
        soonest();
        soonestOfNobody();
        soonestSparesOthers();
        soonestFromNow();
        soonestInOrder();
        soonestTooFar();
        soonestByWhereCrowdsAre();
        soonestByOneOfTwoGates();
        bestWall();
        bestWallAmongLikeOnes();
        bestWallSkips();
        bestWallBehindTheDrowned();
        wax();
        plansChangeNothing();
        Check.end("PlansTest");
    }

    private static void plan() {
        HeardTunes x = Check.told("town 2 2;tune 1 1;");
        Check.due("plan(0, 1)", x.plan(0, 1), UNKNOWN);
        Check.due("plan(9, -2)", x.plan(9, -2), UNKNOWN);
        Check.due("plan(5, 0)", x.plan(5, 0), OUTSIDE);
        Check.due("plan(-1, -1)", x.plan(-1, -1), OUTSIDE);
        Check.due("drop() of none", x.drop(), 0);
        for (int i = 1; i <= 30; i++) {
            Check.due("plan " + i, x.plan(i % 5, i % 2 - 1), i);
        }
        Check.due("the 31st", x.plan(0, 0), FULL);
        Check.due("the 31st, OUTSIDE first", x.plan(5, 0), OUTSIDE);
        Check.due("the 31st, UNKNOWN first", x.plan(5, 1), UNKNOWN);
        Check.due("told(11)", x.told(11), 30);
        Check.due("drop()", x.drop(), 30);
        Check.due("told(11) behind drop()", x.told(11), 0);
        Check.due("drop() again", x.drop(), 0);
        Check.due("plan behind drop()", x.plan(4, NONE), 1);
    }

    private static void judge() {
        HeardTunes x = Check.told("town 3 2;wall 2 0;water 1 1;piper 0 0;");
        Check.due("no plan", x.judge(), NONE);
        x.plan(2, NONE);
        Check.due("it may be", x.judge(), NONE);
        x.plan(0, NONE);
        x.plan(2, NONE);
        Check.due("on a wall", x.judge(), 2);
        x.plan(1, NONE);
        Check.due("the first alone", x.judge(), 2);
        x.wall(2, 0, false);
        Check.due("without the wall the next is", x.judge(), 3);
        x.minute(2, NONE);
        Check.due("from where he is now", x.judge(), 2);
        x.minute(2, NONE);
        Check.due("from where he is now", x.judge(), 0);
        HeardTunes none = new HeardTunes();
        none.plan(0, NONE);
        none.plan(0, NONE);
        Check.due("without cells not even 0", none.judge(), 0);
        none.drop();
        Check.due("without cells and plan", none.judge(), NONE);
    }

    private static void tried() {
        HeardTunes x = Check.told("town 4 2;gate 3 0;water 3 1;crowd 0 2 0 9 1 2;crowd 1 1 1 7 3 0;crowd 0 1 0 5 1 0;"
            + "tune 1 9;tune 2 9;piper 2 0;pay 4 5;");
        Check.due("no plan is worth nothing", x.tried(NONE, 0), 0);
        x.plan(2, 0);
        Check.due("one crowd out", x.tried(0, 0), 7);
        Check.due("worth", x.tried(NONE, 77), 28);
        x.plan(0, NONE);
        Check.due("the other too", x.tried(0, 0), 12);
        Check.due("none drowned", x.tried(0, 1), 0);
        Check.due("none of another", x.tried(1, 0), 0);
        x.plan(0, 1);
        Check.due("by ways that are dry", x.tried(1, 0), 7);
        Check.due("worth of all", x.tried(NONE, 0), 76);
        Check.due("nothing has passed", x.told(5), 0);
        Check.due("nobody has gone", x.told(7), 0);
        x.wall(1, 0, false);
        x.wall(2, 0, false);
        Check.due("tried(3, 0)", x.tried(3, 0), UNKNOWN);
        Check.due("tried(-2, 0)", x.tried(-2, 0), UNKNOWN);
        Check.due("tried(-2, 5)", x.tried(-2, 5), UNKNOWN);
        Check.due("tried(0, 2)", x.tried(0, 2), OUTSIDE);
        Check.due("tried(0, -1)", x.tried(0, -1), OUTSIDE);
        HeardTunes wet = Check.told("town 3 1;water 1 0;crowd 2 0 0 9 1 4;tune 4 9;piper 2 0;pay 4 5;");
        wet.plan(0, 0);
        Check.due("five drown", wet.tried(2, 1), 5);
        Check.due("that is to be paid", wet.tried(NONE, 0), -25);
        HeardTunes wrong = Check.told("town 3 1;gate 1 0;crowd 0 2 0 9 1 0;tune 1 9;piper 0 0;");
        wrong.plan(4, 0);
        wrong.plan(0, 0);
        Check.due("nothing from what is wrong on", wrong.tried(0, 0), 0);
    }

    private static void triedCountsThoseOfNow() {
        HeardTunes x = Check.told("town 3 1;gate 0 0;crowd 0 1 0 9 1 0;tune 1 9;");
        Check.due("he is at the gate", x.minute(4, 0), 0);
        Check.due("they are out", x.told(7), 9);
        Check.due("without a plan", x.tried(0, 0), 9);
        Check.due("their worth", x.tried(NONE, 0), 9);
        x.plan(0, 0);
        Check.due("with a plan", x.tried(0, 0), 9);
        Check.due("they need no wax any more", x.wax(0), 0);
    }

    private static void where() {
        HeardTunes x = Check.told("town 6 1;gate 5 0;crowd 0 0 0 9 2 0;tune 1 9;piper 3 0;");
        x.plan(2, 0);
        x.plan(2, 0);
        x.plan(2, 0);
        Check.due("behind 0", x.where(0, 0), 0);
        Check.due("behind 1", x.where(0, 1), 20);
        Check.due("behind 2", x.where(0, 2), 40);
        Check.due("up to what is wrong", x.where(0, 3), 40);
        Check.due("up to the end", x.where(0, 30), 40);
        Check.due("where(1, 0)", x.where(1, 0), UNKNOWN);
        Check.due("where(-1, 99)", x.where(-1, 99), UNKNOWN);
        Check.due("where(0, 31)", x.where(0, 31), OUTSIDE);
        Check.due("where(0, -1)", x.where(0, -1), OUTSIDE);
        x.drop();
        Check.due("without a plan", x.where(0, 30), 0);
    }

    private static void soonest() {
        HeardTunes x = Check.told("town 6 1;gate 5 0;crowd 0 0 0 9 2 0;tune 1 9;tune 6 20;piper 3 0;");
        Check.due("minutes", x.soonest(0, 0, NONE), 3);
        Check.due("STEP 0", x.soonest(0, 0, 0), 0);
        Check.due("STEP 1", x.soonest(0, 0, 1), 2);
        Check.due("STEP 2", x.soonest(0, 0, 2), 2);
        Check.due("STEP 3", x.soonest(0, 0, 3), NONE);
        Check.due("STEP -2", x.soonest(0, 0, -2), NONE);
        Check.due("STEP max", x.soonest(0, 0, Integer.MAX_VALUE), NONE);
        Check.due("STEP min", x.soonest(0, 0, Integer.MIN_VALUE), NONE);
        Check.due("a tune they do not follow", x.soonest(0, 1, NONE), NONE);
        Check.due("its STEP 0", x.soonest(0, 1, 0), NONE);
        Check.due("soonest(3, 0, -1)", x.soonest(3, 0, NONE), UNKNOWN);
        Check.due("soonest(-1, 0, -1)", x.soonest(-1, 0, NONE), UNKNOWN);
        Check.due("soonest(0, 2, -1)", x.soonest(0, 2, NONE), UNKNOWN);
        Check.due("soonest(0, -1, -1)", x.soonest(0, -1, NONE), UNKNOWN);
        Check.due("nothing has passed", x.told(5), 0);
    }

    private static void soonestOfNobody() {
        HeardTunes x = Check.told("town 3 1;crowd 0 0 0 9 1 9;tune 7 9;");
        Check.due("the deaf are no followers", x.soonest(0, 0, NONE), 0);
        Check.due("no step is needed", x.soonest(0, 0, 0), NONE);
        Check.due("nobody is of the kind", x.soonest(2, 0, NONE), 0);
        HeardTunes wet = Check.told("town 5 1;water 1 0;gate 4 0;crowd 0 0 0 9 1 0;crowd 0 3 0 9 1 0;tune 1 20;piper 2 0;");
        wet.minute(0, 0);
        Check.due("one drowned", wet.told(8), 9);
        Check.due("not all are out any more", wet.soonest(0, 0, NONE), NONE);
        Check.due("of another kind none are to be led", wet.soonest(1, 0, NONE), 0);
    }

    private static void soonestSparesOthers() {
        String town = "town 5 1;gate 4 0;crowd 0 2 0 9 2 0;crowd 1 3 0 9 1 0;tune 3 20;tune 1 20;piper 3 0;";
        HeardTunes x = Check.told(town);
        Check.due("the other would go out too", x.soonest(0, 0, NONE), NONE);
        Check.due("a tune for the kind alone", x.soonest(0, 1, NONE), 1);
        x.minute(2, 0);
        Check.due("all are out", x.told(7), 18);
        Check.due("those who are out now do not count", x.soonest(0, 0, NONE), 0);
        HeardTunes wet = Check.told("town 3 3;gate 2 0;water 0 1;wall 1 1;wall 2 1;crowd 0 1 0 9 1 0;crowd 2 0 2 9 1 0;"
            + "tune 5 20;tune 1 20;piper 0 0;");
        Check.due("the other would drown", wet.soonest(0, 0, NONE), NONE);
        Check.due("spared", wet.soonest(0, 1, NONE), 2);
    }

    private static void soonestFromNow() {
        HeardTunes x = Check.told("town 6 1;gate 5 0;crowd 0 0 0 9 2 0;tune 1 9;piper 3 0;");
        Check.due("at first", x.soonest(0, 0, NONE), 3);
        x.keep(0);
        x.minute(2, 0);
        Check.due("behind a minute", x.soonest(0, 0, NONE), 2);
        x.wall(5, 0, true);
        Check.due("a gate takes no wall", x.soonest(0, 0, NONE), 2);
        x.wall(0, 0, true);
        Check.due("a wall behind them", x.soonest(0, 0, NONE), 2);
        x.wall(3, 0, true);
        Check.due("a wall before them", x.soonest(0, 0, NONE), NONE);
        x.goBack(0);
        Check.due("as it was", x.soonest(0, 0, NONE), 3);
        x.seed(4);
        x.drift(99);
        x.drift(99);
        x.drift(99);
        Check.due("out by drift", x.told(7), 9);
        Check.due("behind drift", x.soonest(0, 0, NONE), 0);
        Check.tell(x, "town 3 1;gate 2 0;crowd 0 1 0 9 2 0;tune 1 9;");
        Check.due("in another town", x.soonest(0, 0, NONE), 2);
    }

    private static void soonestInOrder() {
        // Two ways round; the first step of like walks has the lesser number.
        HeardTunes x = Check.told("town 3 3;wall 1 1;gate 1 0;gate 1 2;crowd 0 0 1 9 1 0;tune 1 20;piper 2 1;");
        int minutes = x.soonest(0, 0, NONE);
        Check.due("minutes", minutes, 2);
        Check.due("STEP 0", x.soonest(0, 0, 0), 0);
        Check.due("STEP 1", x.soonest(0, 0, 1), 0);
        HeardTunes old = Check.told("town 4 1;gate 3 0;crowd 0 0 0 9 1 0;tune 1 9;tune 2 0;piper 2 0;");
        old.minute(2, 0);
        Check.due("they go on to a goal they have", old.soonest(0, 1, NONE), 2);
        Check.due("whatever he plays", old.soonest(0, 1, 0), 0);
    }

    private static void soonestTooFar() {
        HeardTunes six = Check.told("town 8 1;gate 7 0;crowd 0 1 0 9 1 0;tune 1 20;piper 6 0;");
        Check.due("six minutes are found", six.soonest(0, 0, NONE), 6);
        Check.due("the last STEP", six.soonest(0, 0, 5), 2);
        Check.due("no seventh", six.soonest(0, 0, 6), NONE);
        HeardTunes west = Check.told("town 3 1;gate 0 0;crowd 0 1 0 9 1 0;tune 1 20;piper 2 0;");
        Check.due("two steps west", west.soonest(0, 0, NONE), 2);
        west.minute(0, 0);
        Check.due("and again from where they are then", west.soonest(0, 0, NONE), 2);
        Check.due("STEP 0", west.soonest(0, 0, 0), 4);
        Check.due("STEP 1", west.soonest(0, 0, 1), 4);
        HeardTunes seven = Check.told("town 8 1;gate 7 0;crowd 0 0 0 9 1 0;tune 1 20;piper 6 0;");
        Check.due("seven are not", seven.soonest(0, 0, NONE), NONE);
        Check.due("no STEP then", seven.soonest(0, 0, 0), NONE);
    }

    /** Walks that bring him to the same cell in as many minutes, but the crowds to others. */
    private static void soonestByWhereCrowdsAre() {
        // Whoever goes to a gate at once is not heard: he calls them first.
        HeardTunes x = Check.told("town 5 2;gate 0 0;gate 4 0;crowd 0 1 1 5 3 0;tune 1 3;piper 4 1;");
        Check.due("two minutes", x.soonest(0, 0, NONE), 2);
        Check.due("stay", x.soonest(0, 0, 0), 0);
        Check.due("north to the gate", x.soonest(0, 0, 1), 1);
        // Three crowds gather where he is; one of them would not hear him a cell farther.
        x = Check.told("town 4 1;gate 3 0;crowd 0 0 0 5 3 0;crowd 0 2 0 5 1 0;crowd 0 1 0 5 2 0;tune 3 1;piper 1 0;");
        Check.due("three minutes", x.soonest(0, 0, NONE), 3);
        Check.due("stay", x.soonest(0, 0, 0), 0);
        Check.due("east", x.soonest(0, 0, 1), 2);
        Check.due("east to the gate", x.soonest(0, 0, 2), 2);
    }

    private static void soonestByOneOfTwoGates() {
        for (String gates : new String[] {"gate 0 0;gate 4 0;", "gate 4 0;gate 0 0;"}) {
            HeardTunes x = Check.told("town 5 1;wall 3 0;" + gates + "crowd 0 1 0 9 1 0;tune 1 20;piper 2 0;");
            Check.due("no way leads to the other", x.soonest(0, 0, NONE), 2);
            Check.due("west", x.soonest(0, 0, 0), 4);
            Check.due("west again", x.soonest(0, 0, 1), 4);
            x = Check.told("town 5 1;wall 1 0;" + gates + "crowd 0 3 0 9 1 0;tune 1 20;piper 2 0;");
            Check.due("no way leads to the one", x.soonest(0, 0, NONE), 2);
            Check.due("east", x.soonest(0, 0, 0), 2);
        }
    }

    private static void bestWall() {
        HeardTunes x = Check.told("town 5 2;gate 4 0;crowd 0 1 0 9 1 2;crowd 0 1 1 5 1 0;tune 1 20;piper 3 0;");
        Check.due("without a plan the first free cell", x.bestWall(0, 0), 0);
        Check.due("nobody is out", x.bestWall(0, 1), 0);
        x.plan(2, 0);
        x.plan(0, 0);
        x.plan(0, 0);
        Check.due("out without a wall", x.tried(0, 0), 7);
        Check.due("the first that keeps all in", x.bestWall(0, 0), 20);
        Check.due("how many then", x.bestWall(0, 1), 0);
        Check.due("another kind", x.bestWall(2, 0), 0);
        Check.due("no wall stands", x.cell(2, 0), 0);
        x.plan(0, 0);
        Check.due("both are out", x.tried(0, 0), 12);
        Check.due("a wall that keeps one in", x.bestWall(0, 0), 20);
        Check.due("the other goes out", x.bestWall(0, 1), 5);
        Check.due("bestWall(3, 0)", x.bestWall(3, 0), UNKNOWN);
        Check.due("bestWall(-1, 5)", x.bestWall(-1, 5), UNKNOWN);
        Check.due("bestWall(0, 2)", x.bestWall(0, 2), OUTSIDE);
        Check.due("bestWall(0, -1)", x.bestWall(0, -1), OUTSIDE);
        HeardTunes wrong = Check.told("town 4 1;gate 3 0;crowd 0 0 0 9 3 0;tune 1 20;piper 1 0;");
        wrong.plan(2, 0);
        wrong.plan(2, 0);
        Check.due("out by the plan", wrong.tried(0, 0), 9);
        Check.due("a wall that makes it wrong", wrong.bestWall(0, 0), 20);
        Check.due("up to there", wrong.bestWall(0, 1), 0);
    }

    private static void bestWallAmongLikeOnes() {
        HeardTunes x = Check.told("town 4 1;gate 3 0;crowd 0 2 0 9 1 0;tune 1 20;piper 2 0;");
        x.plan(2, 0);
        Check.due("no wall helps: the first", x.bestWall(0, 0), 0);
        Check.due("all go out", x.bestWall(0, 1), 9);
        HeardTunes opened = Check.told("town 4 2;wall 2 0;wall 2 1;gate 3 0;crowd 0 1 0 9 1 0;tune 1 20;piper 3 1;");
        opened.wall(2, 0, false);
        opened.plan(0, 0);
        opened.plan(0, 0);
        Check.due("where a wall was before", opened.bestWall(0, 0), 20);
        opened.wall(2, 0, true);
        Check.due("with it the first", opened.bestWall(0, 0), 0);
    }

    private static void bestWallSkips() {
        HeardTunes x = Check.told("town 3 2;wall 0 0;water 1 0;gate 2 0;crowd 0 0 1 9 1 0;piper 1 1;tune 1 9;");
        Check.due("the last free cell", x.bestWall(0, 0), 21);
        Check.due("how many", x.bestWall(0, 1), 0);
        x.minute(2, NONE);
        Check.due("not the piper's", x.bestWall(0, 0), 11);
        x.wall(1, 1, true);
        Check.due("no such cell", x.bestWall(0, 0), NONE);
        Check.due("no such cell", x.bestWall(0, 1), NONE);
        HeardTunes deaf = Check.told("town 2 1;crowd 0 0 0 9 1 9;piper 1 0;");
        Check.due("where only the deaf are", deaf.bestWall(0, 0), 0);
        HeardTunes out = Check.told("town 3 1;gate 0 0;crowd 1 1 0 9 1 0;tune 2 9;piper 1 0;");
        out.minute(4, 0);
        Check.due("those who are out stay out", out.bestWall(1, 1), 9);
        Check.due("the first cell then", out.bestWall(1, 0), 10);
    }

    /** HEADS that are DROWNED now are no bound for HEADS OUT: the search for the wall goes on. */
    private static void bestWallBehindTheDrowned() {
        HeardTunes x = Check.told("town 6 2;wall 0 0;wall 1 0;water 1 1;gate 5 0;crowd 0 0 1 50 1 0;crowd 0 4 0 9 1 0;"
            + "tune 1 2;tune 1 20;piper 2 1;");
        x.minute(0, 0);
        Check.due("fifty are drowned", x.told(8), 50);
        for (int i = 0; i < 3; i++) {
            x.plan(2, NONE);
        }
        x.plan(1, 1);
        Check.due("nine would be out", x.tried(0, 0), 9);
        Check.due("a wall before him", x.bestWall(0, 0), 31);
        Check.due("none out then", x.bestWall(0, 1), 0);
    }

    private static void wax() {
        HeardTunes x = Check.told("town 5 2;gate 4 0;water 4 1;crowd 0 3 0 9 1 2;crowd 1 3 1 5 1 0;crowd 0 2 0 5 1 5;"
            + "crowd 0 0 0 5 1 0;tune 1 20;tune 2 20;piper 3 0;");
        Check.due("no plan", x.wax(0), 0);
        x.plan(2, 0);
        Check.due("one crowd", x.wax(0), 1);
        Check.due("of another kind none", x.wax(1), 0);
        x.plan(0, 1);
        Check.due("none drowns before the gate", x.wax(1), 0);
        x.plan(0, 1);
        Check.due("the other kind", x.wax(1), 2);
        x.plan(0, NONE);
        Check.due("two crowds, not the deaf", x.wax(0), 9);
        x.minute(2, 0);
        Check.due("who is out needs none", x.wax(0), 0);
        Check.due("wax(3)", x.wax(3), UNKNOWN);
        Check.due("wax(-1)", x.wax(-1), UNKNOWN);
        HeardTunes wet = Check.told("town 3 1;water 1 0;crowd 2 0 0 9 1 0;tune 4 9;piper 2 0;");
        wet.plan(0, 0);
        Check.due("who would drown needs it", wet.wax(2), 1);
    }

    private static void plansChangeNothing() {
        HeardTunes x = Check.told("town 5 2;gate 4 0;water 4 1;crowd 0 3 0 9 1 2;crowd 1 3 1 5 1 0;tune 3 20;piper 3 0;");
        x.minute(4, 0);
        x.plan(2, 0);
        x.plan(2, 0);
        x.plan(1, 0);
        String before = Check.look(x);
        x.judge();
        x.tried(0, 0);
        x.where(0, 3);
        x.soonest(0, 0, 1);
        x.bestWall(0, 0);
        x.wax(0);
        x.walks(5, 0, 2);
        Check.isTrue("who only asks changes nothing", before.equals(Check.look(x)));
    }
}
