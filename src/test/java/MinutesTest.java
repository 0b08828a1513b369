/** Promises 10 to 12: minutes, walls, minutes by draws. */
public final class MinutesTest {
    private static final int NONE = Check.NONE, UNKNOWN = Check.UNKNOWN, OUTSIDE = Check.OUTSIDE, NOT = Check.NOT;

    public static void main(String[] args) {
        steps();
        refusedMinutes();
        hearing();
        goals();
        pace();
        firstCell();
        waterAndGates();
        deafOnes();
        walls();
        refusedWalls();
        wallsInTheWay();
        drift();
        driftPlays();
        refusedDrift();
        Check.end("MinutesTest");
    }

    private static void steps() {
        HeardTunes x = Check.told("town 3 3;piper 1 1;gate 2 1;");
        Check.due("stays", x.minute(0, NONE), 11);
        Check.due("north", x.minute(1, NONE), 10);
        Check.due("east", x.minute(2, NONE), 20);
        Check.due("south, on a gate", x.minute(3, NONE), 21);
        Check.due("west", x.minute(4, NONE), 11);
        Check.due("minutes are counted", x.told(5), 5);
    }

    private static void refusedMinutes() {
        HeardTunes x = Check.told("town 2 2;wall 1 0;water 0 1;tune 1 1;piper 0 0;");
        String before = Check.look(x);
        Check.due("off the town, north", x.minute(1, 0), NOT);
        Check.due("off the town, west", x.minute(4, 0), NOT);
        Check.due("on a wall", x.minute(2, 0), NOT);
        Check.due("on water", x.minute(3, 0), NOT);
        Check.due("minute(5, 0)", x.minute(5, 0), OUTSIDE);
        Check.due("minute(-1, 0)", x.minute(-1, 0), OUTSIDE);
        Check.due("minute(0, 1)", x.minute(0, 1), UNKNOWN);
        Check.due("minute(0, -2)", x.minute(0, -2), UNKNOWN);
        Check.due("minute(9, 1): the first refusal", x.minute(9, 1), UNKNOWN);
        Check.due("minute(max, 0)", x.minute(Integer.MAX_VALUE, 0), OUTSIDE);
        Check.isTrue("what is refused changes nothing", before.equals(Check.look(x)));
    }

    private static void hearing() {
        HeardTunes x = Check.told("town 9 1;crowd 0 0 0 5 1 0;crowd 1 1 0 5 1 0;crowd 2 2 0 5 1 0;tune 5 5;piper 6 0;");
        x.minute(2, 0);
        Check.due("seven far", x.crowd(0, 4), 0);
        Check.due("of a kind that does not follow", x.crowd(1, 4), 10);
        Check.due("five far: he steps, then plays", x.crowd(2, 4), 30);
        Check.due("his cell is the goal", x.crowd(2, 5), 70);
        Check.due("no goal of who did not hear", x.crowd(0, 5), NONE);
        HeardTunes near = Check.told("town 3 1;crowd 0 0 0 5 1 0;crowd 0 1 0 5 1 0;tune 1 0;piper 0 0;");
        Check.due("heard 0 far", near.tune(0, 2), 1);
        near.minute(0, 0);
        Check.due("who is there stays", near.crowd(0, 4), 0);
        Check.due("who is at the goal has none", near.crowd(0, 5), NONE);
        Check.due("one far is too far", near.crowd(1, 4), 10);
    }

    private static void goals() {
        HeardTunes x = Check.told("town 9 1;crowd 0 0 0 5 1 0;tune 1 20;piper 4 0;");
        x.minute(0, 0);
        x.minute(2, NONE);
        Check.due("where it was when they heard it", x.crowd(0, 5), 40);
        Check.due("two steps", x.crowd(0, 4), 20);
        x.minute(2, 0);
        Check.due("a later tune, a later goal", x.crowd(0, 5), 60);
        x.minute(0, NONE);
        x.minute(0, NONE);
        Check.due("one step before", x.crowd(0, 4), 50);
        x.minute(0, NONE);
        Check.due("there", x.crowd(0, 4), 60);
        Check.due("no goal there", x.crowd(0, 5), NONE);
        x.minute(4, NONE);
        Check.due("and no step more", x.crowd(0, 4), 60);
    }

    private static void pace() {
        HeardTunes x = Check.told("town 9 1;crowd 0 0 0 5 3 0;crowd 0 1 0 5 2 0;crowd 0 2 0 5 1 0;tune 1 20;piper 4 0;");
        x.minute(0, 0);
        Check.due("pace 3", x.crowd(0, 4), 30);
        Check.due("pace 2", x.crowd(1, 4), 30);
        Check.due("pace 1", x.crowd(2, 4), 30);
        x.minute(0, NONE);
        for (int c = 0; c < 3; c++) {
            Check.due("no farther than the goal", x.crowd(c, 4), 40);
        }
    }

    private static void firstCell() {
        HeardTunes x = Check.told("town 3 3;crowd 0 1 1 5 1 0;tune 1 20;piper 2 0;");
        x.minute(0, 0);
        Check.due("north before east", x.crowd(0, 4), 10);
        x = Check.told("town 3 3;crowd 0 1 1 5 1 0;tune 1 20;piper 2 2;");
        x.minute(0, 0);
        Check.due("east before south", x.crowd(0, 4), 21);
        x = Check.told("town 3 3;crowd 0 1 1 5 1 0;tune 1 20;piper 0 2;");
        x.minute(0, 0);
        Check.due("south before west", x.crowd(0, 4), 12);
        x = Check.told("town 3 3;crowd 0 1 1 5 1 0;tune 1 20;piper 0 0;");
        x.minute(0, 0);
        Check.due("north before west", x.crowd(0, 4), 10);
        x = Check.told("town 3 3;wall 1 0;crowd 0 1 1 5 1 0;tune 1 20;piper 2 0;");
        x.minute(0, 0);
        Check.due("not on walls", x.crowd(0, 4), 21);
    }

    private static void waterAndGates() {
        HeardTunes x = Check.told("town 5 1;water 2 0;crowd 0 0 0 9 3 4;tune 1 20;piper 4 0;pay 7 3;");
        x.minute(0, 0);
        Check.due("they drown on the way", x.crowd(0, 6), 2);
        Check.due("there they stay", x.crowd(0, 4), 20);
        Check.due("told(8)", x.told(8), 5);
        Check.due("told(9)", x.told(9), 4);
        Check.due("told(10)", x.told(10), -15);
        x.minute(0, 0);
        Check.due("the drowned hear nothing", x.crowd(0, 4), 20);
        Check.due("the drowned have no goal", x.crowd(0, 5), NONE);
        x = Check.told("town 5 1;gate 1 0;crowd 0 0 0 9 3 0;tune 1 20;piper 4 0;");
        x.minute(0, 0);
        Check.due("they go out on the way", x.crowd(0, 6), 1);
        Check.due("at the gate", x.crowd(0, 4), 10);
        Check.due("a head out is worth 1 untold", x.told(10), 9);
        x.minute(0, 0);
        Check.due("who is out hears nothing", x.crowd(0, 4), 10);
        x = Check.told("town 3 1;water 1 0;crowd 0 0 0 9 1 0;tune 1 20;piper 2 0;");
        x.minute(0, 0);
        Check.due("one drowned is paid 1 untold", x.told(10), -9);
    }

    private static void deafOnes() {
        HeardTunes x = Check.told("town 3 1;gate 2 0;crowd 0 0 0 9 2 9;crowd 0 0 0 9 2 8;tune 1 20;piper 1 0;");
        x.minute(2, 0);
        Check.due("a crowd without followers stays", x.crowd(0, 4), 0);
        Check.due("and has no goal", x.crowd(0, 5), NONE);
        Check.due("and is here", x.crowd(0, 6), 0);
        Check.due("one follower is out", x.told(7), 1);
        Check.due("seventeen are left", x.told(9), 17);
    }

    private static void walls() {
        HeardTunes x = Check.told("town 3 2;piper 0 0;");
        Check.due("there was none", x.wall(1, 0, true), 0);
        Check.due("it is a wall", x.cell(1, 0), 1);
        Check.due("there was one", x.wall(1, 0, true), 1);
        Check.due("it still is", x.cell(1, 0), 1);
        Check.due("he may not step on it", x.minute(2, NONE), NOT);
        Check.due("it goes", x.wall(1, 0, false), 1);
        Check.due("it is free", x.cell(1, 0), 0);
        Check.due("there is none to go", x.wall(1, 0, false), 0);
        Check.due("he may step on it", x.minute(2, NONE), 10);
    }

    private static void refusedWalls() {
        HeardTunes x = Check.told("town 4 2;water 0 1;gate 3 0;crowd 0 2 0 5 1 0;crowd 0 2 1 5 1 5;tune 1 20;piper 1 0;");
        String before = Check.look(x);
        for (int i = 0; i < 2; i++) {
            boolean is = i == 0;
            Check.due("on water", x.wall(0, 1, is), NOT);
            Check.due("at a gate", x.wall(3, 0, is), NOT);
            Check.due("on followers", x.wall(2, 0, is), NOT);
            Check.due("on the piper", x.wall(1, 0, is), NOT);
            Check.due("wall(4, 0)", x.wall(4, 0, is), UNKNOWN);
            Check.due("wall(0, -1)", x.wall(0, -1, is), UNKNOWN);
        }
        Check.isTrue("what is refused changes nothing", before.equals(Check.look(x)));
        Check.due("the deaf do not hinder it", x.wall(2, 1, true), 0);
        Check.due("they still are there", x.crowd(1, 4), 21);
    }

    private static void wallsInTheWay() {
        HeardTunes x = Check.told("town 5 1;crowd 0 0 0 5 1 0;tune 1 20;piper 3 0;");
        x.minute(0, 0);
        x.wall(2, 0, true);
        x.minute(0, NONE);
        Check.due("no way: they stay", x.crowd(0, 4), 10);
        Check.due("and keep their goal", x.crowd(0, 5), 30);
        x.minute(0, 0);
        Check.due("nor do they hear", x.crowd(0, 4), 10);
        x.wall(2, 0, false);
        x.minute(2, NONE);
        Check.due("the way is open: they go on", x.crowd(0, 4), 20);
        x.wall(3, 0, true);
        x.minute(0, NONE);
        Check.due("a wall on the goal: they stay", x.crowd(0, 4), 20);
        Check.due("a wall on the goal: they keep it", x.crowd(0, 5), 30);
    }

    private static void drift() {
        HeardTunes x = Check.told("town 5 5;tune 1 3;tune 2 3;piper 2 2;crowd 0 0 0 5 1 2;");
        x.seed(6);
        long seed = 6;
        int px = 2;
        int py = 2;
        int[] dx = {0, 0, 1, 0, -1};
        int[] dy = {0, -1, 0, 1, 0};
        for (int i = 0; i < 40; i++) {
            seed = (seed * 1103515245L + 12345L) % (1L << 31);
            int step = (int) (seed / 65536 % 5);
            seed = (seed * 1103515245L + 12345L) % (1L << 31);
            boolean may = px + dx[step] >= 0 && px + dx[step] < 5 && py + dy[step] >= 0 && py + dy[step] < 5;
            px += may ? dx[step] : 0;
            py += may ? dy[step] : 0;
            Check.due("LEFT behind drift(1)", x.drift(1), 5);
            Check.due("the piper behind drift(1)", x.told(6), 10 * px + py);
        }
        Check.due("forty minutes", x.told(5), 40);
        Check.due("two draws a minute", x.seed(0), seed);
        HeardTunes whole = Check.told("town 5 5;tune 1 3;tune 2 3;piper 2 2;crowd 0 0 0 5 1 2;");
        whole.seed(6);
        whole.drift(40);
        Check.due("forty at once are the same", whole.told(6), 10 * px + py);
        Check.due("drift(99)", whole.drift(99), 5);
        Check.due("minutes", whole.told(5), 139);
        HeardTunes quiet = Check.told("town 1 1;");
        quiet.drift(1);
        Check.due("without tunes there are two draws too", quiet.seed(0), twoDraws(0));
    }

    /** The same minutes, drawn here, on another object. */
    private static void driftPlays() {
        String town = "town 6 6;wall 2 2;wall 3 2;gate 5 5;water 0 5;crowd 0 0 0 5 1 0;crowd 1 5 0 7 2 0;crowd 2 4 4 9 3 1;"
            + "tune 1 20;tune 2 20;piper 3 3;";
        HeardTunes drawn = Check.told(town);
        HeardTunes played = Check.told(town);
        long seed = 99;
        drawn.seed(99);
        for (int i = 0; i < 60; i++) {
            seed = (seed * 1103515245L + 12345L) % (1L << 31);
            int step = (int) (seed / 65536 % 5);
            seed = (seed * 1103515245L + 12345L) % (1L << 31);
            int t = (int) (seed / 65536 % 3);
            if (played.minute(step, t == 2 ? NONE : t) == NOT) {
                played.minute(0, t == 2 ? NONE : t);
            }
            Check.due("LEFT", drawn.drift(1), played.told(9));
            for (int c = 0; c < 3; c++) {
                Check.due("where crowd " + c + " is", drawn.crowd(c, 4), played.crowd(c, 4));
                Check.due("whither crowd " + c + " goes", drawn.crowd(c, 5), played.crowd(c, 5));
            }
        }
    }

    private static long twoDraws(long seed) {
        long one = (seed * 1103515245L + 12345L) % (1L << 31);
        return (one * 1103515245L + 12345L) % (1L << 31);
    }

    private static void refusedDrift() {
        HeardTunes x = Check.told("town 2 1;");
        String before = Check.look(x);
        Check.due("drift(0)", x.drift(0), OUTSIDE);
        Check.due("drift(100)", x.drift(100), OUTSIDE);
        Check.due("drift(-5)", x.drift(-5), OUTSIDE);
        Check.isTrue("what is refused changes nothing", before.equals(Check.look(x)));
        HeardTunes none = new HeardTunes();
        Check.due("without cells", none.drift(99), NOT);
        Check.due("and no draw", none.seed(0), 0);
    }
}
