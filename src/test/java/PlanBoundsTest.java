/** Section 3 and promises 13 to 20: each bound of plans, of the soonest walk, the best wall and wax. */
public final class PlanBoundsTest {
    private static final int NONE = Check.NONE, UNKNOWN = Check.UNKNOWN, OUTSIDE = Check.OUTSIDE, FULL = Check.FULL;
    private static final int MIN = Integer.MIN_VALUE, MAX = Integer.MAX_VALUE;

    public static void main(String[] args) {
        planBounds();
        planFull();
        dropIt();
        wrongFirst();
        wrongLast();
        wrongFromNow();
        wrongWithoutCells();
        tried();
        triedUpToWrong();
        triedThoseOfNow();
        triedAtItsMost();
        thirtiethMinute();
        where();
        whereUpToWrong();
        soonestMinutes();
        soonestByPace();
        soonestSteps();
        soonestNoneDrowned();
        soonestOthers();
        soonestOfNobody();
        soonestPlaysAlways();
        soonestOrder();
        wallCells();
        wallNone();
        wallFewest();
        wallLikeOnes();
        wallWrong();
        wax();
        waxNotYet();
        Check.end("PlanBoundsTest");
    }

    private static void planBounds() {
        Check.says("A MINUTE more in the PLAN: how many. UNKNOWN (t), OUTSIDE, FULL (30).");
        for (int tunes = 0; tunes <= 3; tunes++) {
            HeardTunes x = Check.told("town 1 1;" + "tune 1 1;".repeat(tunes));
            int many = 0;
            for (int step = 0; step <= 4; step++) {
                for (int t = NONE; t < tunes; t++) {
                    many++;
                    Check.due("plan(" + step + ", " + t + ")", x.plan(step, t), many);
                }
            }
            Check.due("a tune too many", x.plan(0, tunes), UNKNOWN);
            Check.due("t = -2", x.plan(0, -2), UNKNOWN);
            Check.due("step 5", x.plan(5, NONE), OUTSIDE);
            Check.due("step -1", x.plan(-1, NONE), OUTSIDE);
            Check.due("told(11)", x.told(11), many);
        }
        Check.due("without cells too", new HeardTunes().plan(4, NONE), 1);
    }

    private static void planFull() {
        Check.says("THE PLAN is a row of MINUTES (a STEP or 0, a TUNE or none; 30 at most).");
        HeardTunes x = Check.told("town 2 1;tune 1 1;");
        for (int i = 1; i <= 30; i++) {
            Check.due("minute " + i, x.plan(0, NONE), i);
        }
        Check.due("the 31st", x.plan(0, NONE), FULL);
        Check.due("the 31st with a tune", x.plan(0, 0), FULL);
        Check.due("told(11)", x.told(11), 30);
        Check.due("none is wrong", x.judge(), NONE);
    }

    private static void dropIt() {
        Check.says("No PLAN: how many MINUTES it had.");
        HeardTunes x = Check.told("town 2 1;");
        Check.due("none", x.drop(), 0);
        for (int many = 1; many <= 30; many += 29) {
            for (int i = 0; i < many; i++) {
                x.plan(4, NONE);
            }
            Check.due("it is wrong", x.judge(), 0);
            Check.due("drop()", x.drop(), many);
            Check.due("told(11)", x.told(11), 0);
            Check.due("no plan is not wrong", x.judge(), NONE);
            Check.due("drop() again", x.drop(), 0);
        }
        Check.due("a plan anew", x.plan(2, NONE), 1);
        Check.due("the old one is not there", x.judge(), NONE);
    }

    private static void wrongFirst() {
        Check.says("WRONG: its first STEP that may not be, from now");
        HeardTunes x = Check.told("town 1 1;");
        Check.due("no plan", x.judge(), NONE);
        x.plan(1, NONE);
        Check.due("the first", x.judge(), 0);
        x.plan(2, NONE);
        Check.due("the first of two", x.judge(), 0);
        x.drop();
        x.plan(0, NONE);
        Check.due("none", x.judge(), NONE);
        x.plan(3, NONE);
        Check.due("the second", x.judge(), 1);
        String[] spots = {"wall", "water", "gate"};
        for (int i = 0; i < 3; i++) {
            HeardTunes spot = Check.told("town 2 1;" + spots[i] + " 1 0;");
            spot.plan(2, NONE);
            Check.due("on " + spots[i], spot.judge(), i == 2 ? NONE : 0);
        }
    }

    private static void wrongLast() {
        Check.says("`int judge()`: WRONG; NONE.");
        HeardTunes x = Check.told("town 2 1;");
        for (int i = 0; i < 29; i++) {
            x.plan(i % 2 == 0 ? 2 : 4, NONE);
        }
        Check.due("29 may be", x.judge(), NONE);
        x.plan(2, NONE);
        Check.due("the 30th may not", x.judge(), 29);
    }

    private static void wrongFromNow() {
        Check.says("its first STEP that may not be, from now");
        HeardTunes x = Check.told("town 3 1;piper 0 0;");
        x.plan(2, NONE);
        x.plan(2, NONE);
        Check.due("from 0 0", x.judge(), NONE);
        x.minute(2, NONE);
        Check.due("from 1 0", x.judge(), 1);
        x.minute(2, NONE);
        Check.due("from 2 0", x.judge(), 0);
        x.minute(4, NONE);
        x.minute(4, NONE);
        x.wall(2, 0, true);
        Check.due("a wall that is now", x.judge(), 1);
        Check.due("nothing has passed by judging", x.told(5), 4);
    }

    private static void wrongWithoutCells() {
        Check.says("(without CELLS none may be, not even 0); NONE.");
        for (int step = 0; step <= 4; step++) {
            HeardTunes x = new HeardTunes();
            Check.due("no plan", x.judge(), NONE);
            x.plan(step, NONE);
            x.plan(0, NONE);
            Check.due("STEP " + step, x.judge(), 0);
            Check.due("worth", x.tried(NONE, 0), 0);
            for (int k = 0; k < 3; k++) {
                Check.due("OUT", x.tried(k, 0), 0);
                Check.due("DROWNED", x.tried(k, 1), 0);
                Check.due("wax", x.wax(k), 0);
                Check.due("no wall", x.bestWall(k, 0), NONE);
                Check.due("no wall", x.bestWall(k, 1), NONE);
            }
        }
    }

    private static void tried() {
        Check.says("k = NONE: WORTH; else of a KIND what = 0 HEADS OUT, 1 DROWNED (what is not looked at for WORTH). UNKNOWN, OUTSIDE.");
        HeardTunes x = Check.told("town 5 1;gate 0 0;crowd 2 1 0 9 1 2;tune 4 20;piper 1 0;pay 5 3;");
        x.plan(4, 0);
        for (int what : new int[] {0, 1, 2, -1, MIN, MAX}) {
            Check.due("WORTH, what = " + what, x.tried(NONE, what), 35);
        }
        int[] out = {0, 0, 7};
        for (int k = 0; k < 3; k++) {
            Check.due("OUT of KIND " + k, x.tried(k, 0), out[k]);
            Check.due("DROWNED of KIND " + k, x.tried(k, 1), 0);
            Check.due("what = 2", x.tried(k, 2), OUTSIDE);
            Check.due("what = -1", x.tried(k, -1), OUTSIDE);
        }
        Check.due("k = 3", x.tried(3, 0), UNKNOWN);
        Check.due("k = -2", x.tried(-2, 0), UNKNOWN);
        Check.due("nobody is out now", x.told(7), 0);
    }

    private static void triedUpToWrong() {
        Check.says("TRIED from now (up to WRONG)");
        HeardTunes x = Check.told("town 4 1;gate 3 0;crowd 0 2 0 9 1 0;crowd 0 1 0 5 1 0;tune 1 20;piper 2 0;");
        x.plan(2, 0);
        Check.due("one minute", x.tried(0, 0), 9);
        x.plan(2, 0);
        Check.due("the second is wrong", x.judge(), 1);
        x.plan(0, 0);
        Check.due("nothing behind it counts", x.tried(0, 0), 9);
        Check.due("nor is it worth anything", x.tried(NONE, 0), 9);
        x.drop();
        x.plan(1, 0);
        x.plan(2, 0);
        Check.due("wrong at once", x.tried(0, 0), 0);
    }

    private static void triedThoseOfNow() {
        Check.says("HEADS of a KIND that are OUT, DROWNED behind it (those of now counted); WORTH.");
        HeardTunes x = Check.told("town 3 2;gate 0 0;water 1 1;wall 2 0;crowd 0 1 0 10 1 3;crowd 1 2 1 20 1 5;tune 1 20;tune 2 20;piper 1 0;pay 3 2;");
        x.minute(4, 0);
        x.minute(0, 1);
        Check.due("OUT without a plan", x.tried(0, 0), 7);
        Check.due("DROWNED without a plan", x.tried(1, 1), 15);
        Check.due("WORTH without a plan", x.tried(NONE, 0), -9);
        x.plan(1, NONE);
        Check.due("OUT, the plan is wrong at once", x.tried(0, 0), 7);
        x.drop();
        x.plan(0, 0);
        Check.due("OUT with a plan", x.tried(0, 0), 7);
        Check.due("DROWNED with a plan", x.tried(1, 1), 15);
        Check.due("WORTH with a plan", x.tried(NONE, 0), -9);
    }

    private static void triedAtItsMost() {
        Check.says("TRIED: k = NONE: WORTH;");
        for (int i = 0; i < 2; i++) {
            StringBuilder text = new StringBuilder("town 3 1;" + (i == 0 ? "gate" : "water") + " 1 0;tune 7 20;piper 2 0;pay 99 99;");
            for (int c = 0; c < 6; c++) {
                text.append("crowd 1 0 0 99 1 0;");
            }
            HeardTunes x = Check.told(text.toString());
            x.plan(0, 0);
            Check.due("heads", x.tried(1, i), 594);
            Check.due("of the other fate", x.tried(1, 1 - i), 0);
            Check.due("worth", x.tried(NONE, 0), i == 0 ? 58806 : -58806);
            Check.due("all need wax", x.wax(1), 63);
        }
    }

    private static void thirtiethMinute() {
        Check.says("a TUNE or none; 30 at most)");
        HeardTunes x = Check.told("town 3 1;gate 2 0;crowd 0 1 0 9 1 0;tune 1 20;piper 1 0;");
        for (int i = 0; i < 29; i++) {
            x.plan(0, NONE);
        }
        Check.due("nobody is out by 29", x.tried(0, 0), 0);
        Check.due("the last", x.plan(2, 0), 30);
        Check.due("it may be", x.judge(), NONE);
        Check.due("they are out by it", x.tried(0, 0), 9);
        Check.due("its worth", x.tried(NONE, 0), 9);
        Check.due("before it", x.where(0, 29), 10);
        Check.due("behind it", x.where(0, 30), 20);
        Check.due("they need wax", x.wax(0), 1);
        Check.due("the one cell for a wall", x.bestWall(0, 0), 0);
        Check.due("it does not help", x.bestWall(0, 1), 9);
    }

    private static void where() {
        Check.says("Where a CROWD's FOLLOWERS are behind m MINUTES of the PLAN (0 .. 30; 10 times X and Y; up to WRONG, the end). UNKNOWN, OUTSIDE.");
        HeardTunes x = Check.told(Texts.SNAKE + "crowd 0 0 0 9 1 0;tune 1 20;piper 4 4;");
        Check.due("no plan, m = 0", x.where(0, 0), 0);
        Check.due("no plan, m = 30", x.where(0, 30), 0);
        x.plan(0, 0);
        for (int i = 1; i < 30; i++) {
            x.plan(0, NONE);
        }
        for (int m = 0; m <= 30; m++) {
            int at = x.where(0, m);
            Check.due("how far behind " + m, x.far(0, 0, at / 10, at % 10), Math.min(m, 20));
        }
        Check.due("m = -1", x.where(0, -1), OUTSIDE);
        Check.due("m = 31", x.where(0, 31), OUTSIDE);
        Check.due("c = 1", x.where(1, 0), UNKNOWN);
        Check.due("c = -1", x.where(-1, 0), UNKNOWN);
        x.minute(0, 0);
        Check.due("from now", x.where(0, 1), 20);
    }

    private static void whereUpToWrong() {
        Check.says("up to WRONG, the end)");
        HeardTunes x = Check.told("town 9 1;crowd 0 0 0 9 1 0;crowd 0 1 0 5 1 5;tune 1 20;piper 8 0;");
        x.plan(0, 0);
        x.plan(0, NONE);
        x.plan(2, NONE);
        x.plan(0, NONE);
        int[] due = {0, 10, 20, 20, 20, 20};
        for (int m = 0; m < due.length; m++) {
            Check.due("m = " + m, x.where(0, m), due[m]);
            Check.due("deaf ones alone, m = " + m, x.where(1, m), 10);
        }
        HeardTunes out = Check.told("town 4 1;gate 1 0;crowd 0 0 0 9 3 0;tune 1 20;piper 3 0;");
        out.plan(0, 0);
        Check.due("where they would be out", out.where(0, 30), 10);
    }

    private static void soonestMinutes() {
        Check.says("SOONEST: the fewest MINUTES (0 .. 6) by which he");
        for (int away = 1; away <= 8; away++) {
            // Pace 1: as many minutes as steps to the gate; he steps on it in the last.
            HeardTunes x = Check.told("town 9 1;gate 8 0;crowd 0 " + (8 - away) + " 0 9 1 0;tune 1 20;piper 7 0;");
            Check.due(away + " far", x.soonest(0, 0, NONE), away <= 6 ? away : NONE);
            for (int i = 0; i <= 8; i++) {
                int due = away > 6 || i >= away ? NONE : i == away - 1 ? 2 : 0;
                Check.due(away + " far, STEP " + i, x.soonest(0, 0, i), due);
            }
        }
        HeardTunes out = Check.told("town 2 1;gate 1 0;crowd 0 0 0 9 1 0;tune 1 20;");
        out.minute(2, 0);
        Check.due("all are out: 0", out.soonest(0, 0, NONE), 0);
        Check.due("no STEP 0", out.soonest(0, 0, 0), NONE);
    }

    private static void soonestByPace() {
        Check.says("can have all FOLLOWERS of a KIND OUT");
        HeardTunes six = Check.told(Texts.SNAKE + "gate 2 4;crowd 0 0 0 9 3 0;tune 1 20;piper 3 4;");
        Check.due("18 far by pace 3", six.soonest(0, 0, NONE), 6);
        for (int i = 0; i < 6; i++) {
            Check.due("STEP " + i, six.soonest(0, 0, i), 0);
        }
        HeardTunes seven = Check.told(Texts.SNAKE + "gate 3 4;crowd 0 0 0 9 3 0;tune 1 20;piper 4 4;");
        Check.due("19 far by pace 3", seven.soonest(0, 0, NONE), NONE);
        HeardTunes two = Check.told("town 9 1;gate 0 0;gate 8 0;crowd 0 1 0 9 1 0;crowd 0 7 0 9 1 0;tune 1 20;piper 4 0;");
        Check.due("all crowds, not one alone", two.soonest(0, 0, NONE), NONE);
        HeardTunes part = Check.told("town 3 1;gate 0 0;crowd 0 1 0 9 1 8;crowd 0 2 0 9 1 9;tune 1 20;piper 1 0;");
        Check.due("deaf ones need not be out", part.soonest(0, 0, NONE), 1);
    }

    private static void soonestSteps() {
        Check.says("i = NONE the MINUTES, else STEP i; NONE. UNKNOWN.");
        HeardTunes x = Check.told("town 3 1;gate 2 0;crowd 0 0 0 9 1 0;tune 1 20;tune 2 20;piper 1 0;");
        Check.due("MINUTES", x.soonest(0, 0, NONE), 2);
        Check.due("STEP 0", x.soonest(0, 0, 0), 0);
        Check.due("STEP 1", x.soonest(0, 0, 1), 2);
        for (int i : new int[] {2, 6, 7, -2, MIN, MAX}) {
            Check.due("STEP " + i, x.soonest(0, 0, i), NONE);
            Check.due("STEP " + i + " of none", x.soonest(0, 1, i), NONE);
        }
        Check.due("none by the other tune", x.soonest(0, 1, NONE), NONE);
        Check.due("k = 3", x.soonest(3, 0, NONE), UNKNOWN);
        Check.due("k = -1", x.soonest(-1, 0, NONE), UNKNOWN);
        Check.due("t = 2", x.soonest(0, 2, NONE), UNKNOWN);
        Check.due("t = -1: one TUNE is needed", x.soonest(0, -1, NONE), UNKNOWN);
        Check.due("k before i", x.soonest(3, 0, 99), UNKNOWN);
    }

    private static void soonestNoneDrowned() {
        Check.says("all FOLLOWERS of a KIND OUT, none DROWNED,");
        HeardTunes x = Check.told("town 5 1;water 1 0;gate 4 0;crowd 0 0 0 9 1 0;crowd 0 3 0 9 1 0;tune 1 20;tune 1 0;piper 3 0;");
        Check.due("one would drown on the way", x.soonest(0, 0, NONE), NONE);
        Check.due("one would not hear it", x.soonest(0, 1, NONE), NONE);
        x.minute(0, 0);
        Check.due("one has drowned", x.told(8), 9);
        Check.due("not all can be out any more", x.soonest(0, 0, NONE), NONE);
        HeardTunes gone = Check.told("town 3 1;water 1 0;crowd 0 0 0 9 1 0;tune 1 20;piper 2 0;");
        gone.minute(0, 0);
        Check.due("all have drowned", gone.soonest(0, 0, NONE), NONE);
    }

    private static void soonestOthers() {
        Check.says("and none of other KINDS OUT or DROWNED who are not now");
        HeardTunes x = Check.told("town 6 1;gate 5 0;crowd 0 4 0 9 1 0;crowd 1 4 0 9 1 0;crowd 2 4 0 9 1 9;tune 3 20;tune 5 20;tune 2 20;piper 4 0;");
        Check.due("the other would be out", x.soonest(0, 0, NONE), NONE);
        Check.due("deaf ones would not", x.soonest(0, 1, NONE), 1);
        x.minute(2, 2);
        Check.due("the other is out", x.told(7), 9);
        Check.due("who is out now does not count", x.soonest(0, 0, NONE), 1);
        HeardTunes wet = Check.told("town 5 1;gate 4 0;water 1 0;crowd 0 3 0 9 1 0;crowd 1 0 0 9 1 0;tune 3 20;tune 2 20;piper 3 0;");
        Check.due("the other would drown", wet.soonest(0, 0, NONE), NONE);
        wet.minute(0, 1);
        Check.due("the other is drowned", wet.told(8), 9);
        Check.due("who is drowned now does not count", wet.soonest(0, 0, NONE), 1);
    }

    private static void soonestOfNobody() {
        Check.says("all FOLLOWERS of a KIND OUT");
        HeardTunes x = Check.told("town 2 1;crowd 0 0 0 9 1 9;tune 7 20;");
        for (int k = 0; k < 3; k++) {
            Check.due("a KIND without followers", x.soonest(k, 0, NONE), 0);
            Check.due("no STEP", x.soonest(k, 0, 0), NONE);
        }
        HeardTunes none = Check.told("town 1 1;tune 1 0;");
        Check.due("no crowd at all", none.soonest(2, 0, NONE), 0);
        HeardTunes shut = Check.told("town 2 1;crowd 0 0 0 9 1 0;tune 7 20;");
        Check.due("no gate", shut.soonest(0, 0, NONE), NONE);
        Check.due("no gate, another KIND", shut.soonest(1, 0, NONE), 0);
    }

    private static void soonestPlaysAlways() {
        Check.says("playing one TUNE in each of them");
        // Between the first and the last minute he cannot be silent: each tune gives a new goal.
        HeardTunes x = Check.told("town 5 1;gate 4 0;crowd 0 1 0 9 1 0;tune 1 20;piper 3 0;");
        int minutes = x.soonest(0, 0, NONE);
        Check.due("three far", minutes, 3);
        for (int i = 0; i < minutes; i++) {
            x.plan(x.soonest(0, 0, i), 0);
        }
        Check.due("its steps as a plan", x.tried(0, 0), 9);
        Check.due("none of them is wrong", x.judge(), NONE);
        HeardTunes old = Check.told("town 4 1;gate 3 0;crowd 0 1 0 9 1 0;tune 1 20;tune 2 0;piper 2 0;");
        old.minute(2, 0);
        Check.due("a goal of before holds", old.soonest(0, 1, NONE), 1);
    }

    private static void soonestOrder() {
        Check.says("of like ones the first (STEP by STEP the lesser number); its STEPS; NONE.");
        // Gates on all four sides: north comes first.
        HeardTunes x = Check.told("town 3 3;gate 1 0;gate 2 1;gate 1 2;gate 0 1;crowd 0 1 1 9 1 0;tune 1 20;piper 1 1;");
        Check.due("one minute", x.soonest(0, 0, NONE), 1);
        Check.due("north", x.soonest(0, 0, 0), 1);
        int[][] sides = {{1, 0}, {2, 1}, {1, 2}, {0, 1}};
        for (int step = 1; step <= 4; step++) {
            HeardTunes one = Check.told("town 3 3;gate " + sides[step - 1][0] + " " + sides[step - 1][1]
                + ";crowd 0 1 1 9 1 0;tune 1 20;piper 1 1;");
            Check.due("one gate alone", one.soonest(0, 0, 0), step);
        }
        HeardTunes stay = Check.told("town 3 1;gate 1 0;crowd 0 0 0 9 1 0;tune 1 20;piper 2 0;");
        Check.due("he may stay: 0 is the least", stay.soonest(0, 0, 0), 0);
    }

    private static void wallCells() {
        Check.says("WALL: the CELL (no wall, water, gate, no FOLLOWERS on it, not the piper's)");
        String[] taken = {"wall 0 0;piper 2 0;", "water 0 0;piper 2 0;", "gate 0 0;piper 2 0;", "crowd 0 0 0 1 1 0;piper 2 0;", "piper 0 0;"};
        for (String told : taken) {
            HeardTunes x = Check.told("town 3 1;" + told);
            Check.due("not there: " + told, x.bestWall(0, 0), 10);
            Check.due("how many", x.bestWall(0, 1), 0);
        }
        HeardTunes deaf = Check.told("town 3 1;crowd 0 0 0 1 1 1;piper 2 0;");
        Check.due("where deaf ones alone are", deaf.bestWall(0, 0), 0);
        HeardTunes gone = Check.told("town 3 1;wall 0 0;piper 1 0;");
        gone.wall(0, 0, false);
        Check.due("where a wall is no more", gone.bestWall(0, 0), 0);
        gone.wall(0, 0, true);
        Check.due("where one is now", gone.bestWall(0, 0), 20);
        Check.due("k = 3", gone.bestWall(3, 0), UNKNOWN);
        Check.due("k = -1", gone.bestWall(-1, 0), UNKNOWN);
        Check.due("what = 2", gone.bestWall(0, 2), OUTSIDE);
        Check.due("what = -1", gone.bestWall(0, -1), OUTSIDE);
    }

    private static void wallNone() {
        Check.says("what = 0 the CELL (10 times X and Y), 1 how many HEADS; NONE. UNKNOWN, OUTSIDE.");
        for (String text : new String[] {"town 1 1;", "town 1 1;wall 0 0;", "town 2 1;crowd 0 1 0 9 1 0;", "town 3 1;gate 1 0;water 2 0;"}) {
            HeardTunes x = Check.told(text);
            for (int k = 0; k < 3; k++) {
                Check.due("no such cell: " + text, x.bestWall(k, 0), NONE);
                Check.due("no such cell: " + text, x.bestWall(k, 1), NONE);
            }
        }
        HeardTunes last = Check.told("town 9 4;piper 0 0;");
        for (int i = 1; i < 35; i++) {
            last.wall(i % 9, i / 9, true);
        }
        Check.due("the last cell alone", last.bestWall(0, 0), 83);
        Check.due("nobody is out", last.bestWall(0, 1), 0);
        last.wall(8, 3, true);
        Check.due("none any more", last.bestWall(0, 0), NONE);
    }

    private static void wallFewest() {
        Check.says("on which a wall makes the PLAN lead the fewest HEADS of a KIND OUT");
        HeardTunes x = Check.told("town 5 2;wall 3 1;gate 4 0;crowd 0 0 0 9 1 0;crowd 1 0 1 7 1 0;tune 3 20;piper 4 1;");
        for (int i = 0; i < 8; i++) {
            x.plan(0, 0);
        }
        // Round a wall on 1 0 they come in time; behind one on 2 0 there is no way.
        Check.due("out without a wall", x.tried(0, 0), 9);
        Check.due("the one that shuts the way", x.bestWall(0, 0), 20);
        Check.due("none are out then", x.bestWall(0, 1), 0);
        Check.due("it is not built", x.cell(2, 0), 0);
        Check.due("nor is the way longer", x.far(0, 0, 4, 0), 4);
        Check.due("nothing has passed", x.told(5), 0);
        HeardTunes out = Check.told("town 4 1;gate 0 0;crowd 0 1 0 9 1 0;crowd 0 2 0 5 1 0;tune 1 20;piper 1 0;");
        out.minute(4, 0);
        out.minute(0, NONE);
        Check.due("all are out now", out.told(7), 14);
        Check.due("those of now count", out.bestWall(0, 1), 14);
    }

    private static void wallLikeOnes() {
        Check.says("of like ones the first (Y by Y, X rising); how many then; NONE: no such CELL.");
        HeardTunes x = Check.told("town 3 3;wall 0 0;wall 2 0;piper 1 0;");
        Check.due("of the next row the first", x.bestWall(0, 0), 1);
        x.wall(0, 1, true);
        Check.due("X rising", x.bestWall(0, 0), 11);
        x.wall(1, 1, true);
        x.wall(2, 1, true);
        Check.due("then Y", x.bestWall(0, 0), 2);
        HeardTunes equal = Check.told("town 5 1;gate 4 0;crowd 0 0 0 9 1 0;tune 1 20;piper 3 0;");
        equal.plan(2, 0);
        equal.plan(0, 0);
        equal.plan(0, 0);
        equal.plan(0, 0);
        Check.due("two cells that do it: the first", equal.bestWall(0, 0), 10);
        Check.due("how many then", equal.bestWall(0, 1), 0);
    }

    private static void wallWrong() {
        Check.says("(a PLAN that is WRONG then counts up to there)");
        HeardTunes x = Check.told("town 5 2;wall 3 1;gate 4 0;crowd 0 2 0 9 2 0;tune 1 20;piper 2 0;");
        x.plan(2, 0);
        x.plan(2, 0);
        Check.due("out by the plan", x.tried(0, 0), 9);
        Check.due("before him", x.bestWall(0, 0), 30);
        Check.due("up to there nobody is out", x.bestWall(0, 1), 0);
        HeardTunes before = Check.told("town 5 1;gate 0 0;crowd 0 1 0 9 1 0;crowd 0 4 0 5 1 0;tune 1 20;piper 1 0;");
        before.plan(4, 0);
        before.plan(2, NONE);
        before.plan(2, NONE);
        before.plan(2, NONE);
        Check.due("what is out before it is wrong counts", before.bestWall(0, 1), 9);
        Check.due("the first cell", before.bestWall(0, 0), 20);
    }

    private static void wax() {
        Check.says("WAX: CROWDS (a SET) of a KIND whose FOLLOWERS the PLAN would have OUT or DROWNED");
        HeardTunes x = Check.told("town 5 2;gate 0 0;water 4 1;wall 2 0;wall 2 1;crowd 0 1 0 9 1 0;crowd 1 1 0 9 1 0;crowd 0 1 0 9 1 9;"
            + "crowd 2 3 1 9 1 0;crowd 2 1 1 9 1 0;crowd 0 0 1 9 1 8;tune 7 20;piper 1 0;");
        for (int k = 0; k < 3; k++) {
            Check.due("no plan", x.wax(k), 0);
        }
        x.plan(4, 0);
        Check.due("KIND 0: not the deaf ones", x.wax(0), 33);
        Check.due("KIND 1", x.wax(1), 2);
        Check.due("KIND 2: not yet at the gate", x.wax(2), 0);
        x.plan(0, NONE);
        Check.due("KIND 2", x.wax(2), 16);
        Check.says("`int wax(int k)`: WAX. UNKNOWN.");
        Check.due("k = 3", x.wax(3), UNKNOWN);
        Check.due("k = -1", x.wax(-1), UNKNOWN);
        HeardTunes wet = Check.told("town 3 1;water 1 0;crowd 0 0 0 9 1 0;tune 1 20;piper 2 0;");
        wet.plan(1, 0);
        wet.plan(0, 0);
        Check.due("wrong at once", wet.wax(0), 0);
        wet.drop();
        wet.plan(0, 0);
        Check.due("who would drown", wet.wax(0), 1);
    }

    private static void waxNotYet() {
        Check.says("that are not yet: who needs wax.");
        HeardTunes x = Check.told("town 4 1;gate 0 0;crowd 0 1 0 9 1 0;crowd 0 3 0 9 1 0;tune 1 20;piper 1 0;");
        x.plan(0, 0);
        x.plan(0, 0);
        x.plan(4, 0);
        Check.due("both", x.wax(0), 3);
        x.minute(4, 0);
        Check.due("one is out", x.told(7), 9);
        x.drop();
        x.plan(0, 0);
        x.plan(0, 0);
        Check.due("the other alone", x.wax(0), 2);
        x.minute(0, 0);
        x.minute(0, 0);
        Check.due("both are out", x.wax(0), 0);
        Check.due("nobody of another KIND", x.wax(1), 0);
    }
}
