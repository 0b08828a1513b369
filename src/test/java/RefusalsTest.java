import java.util.function.Supplier;
import java.util.function.ToIntFunction;

/**
 * "Terms": each refusal of each call, just out of bounds and far out of them; of several the first in
 * the document's order; and what is refused changes nothing, of what can be seen and what comes later.
 */
public final class RefusalsTest {
    private static final int NONE = Check.NONE, UNKNOWN = Check.UNKNOWN, OUTSIDE = Check.OUTSIDE, NOT = Check.NOT, FULL = Check.FULL;
    private static final int MIN = Integer.MIN_VALUE, MAX = Integer.MAX_VALUE;

    // 5 x 3; three crowds, the last of deaf ones alone; two tunes; piper on 1 1 at first.
    private static final String TOWN = "town 5 3;wall 2 1;water 0 2;gate 4 0;crowd 0 0 0 9 1 2;crowd 1 4 2 7 2 0;"
        + "crowd 0 3 1 5 1 5;tune 1 20;tune 2 3;piper 1 1;pay 4 5;";
    private static final int CROWDS = 3, TUNES = 2, W = 5, H = 3;

    private static Supplier<HeardTunes> scene;
    private static String untouched;
    private static String sceneName;

    public static void main(String[] args) {
        Check.says("NONE is -1");
        Check.due("NONE", HeardTunes.NONE, -1);
        Check.says("They are far below all that is counted: -1000000001 and on.");
        Check.due("UNKNOWN", HeardTunes.UNKNOWN, -1000000001);
        Check.due("OUTSIDE", HeardTunes.OUTSIDE, -1000000002);
        Check.due("NOT", HeardTunes.NOT, -1000000003);
        Check.due("FULL", HeardTunes.FULL, -1000000004);
        inATown();
        inAFullOne();
        withoutCells();
        Check.end("RefusalsTest");
    }

    private static void inATown() {
        open("in a town", RefusalsTest::townUnderWay);
        Check.says("What is refused changes nothing.");
        feed();
        told();
        cell();
        crowd();
        tune();
        far();
        minute();
        wall();
        drift();
        plan();
        tried();
        where();
        soonest();
        bestWall();
        wax();
        see();
        walks();
        seed();
        images();
    }

    /** A town with minutes passed, a wall more, a plan, something seen, an image, half a text. */
    private static HeardTunes townUnderWay() {
        HeardTunes x = Check.told(TOWN);
        x.seed(123456789);
        x.minute(0, 0);
        x.keep(0);
        x.wall(1, 0, true);
        x.minute(3, NONE);
        x.plan(2, 0);
        x.plan(1, NONE);
        x.plan(3, 1);
        x.see(0, 1, 0, 1);
        x.see(1, 2, 4, 2);
        Check.feed(x, "town 3 1;wa");
        return x;
    }

    private static void open(String name, Supplier<HeardTunes> made) {
        sceneName = name;
        scene = made;
        untouched = allOf(made.get());
    }

    /** Each refused call has an object of its own: behind it all is as on one that was never asked. */
    private static void refused(String call, int due, ToIntFunction<HeardTunes> made) {
        HeardTunes x = scene.get();
        Check.due(sceneName + ": " + call, made.applyAsInt(x), due);
        Check.same(sceneName + ": all behind " + call, allOf(x), untouched);
    }

    /** What can be asked, and then what only later calls show: the text, images, the seed. */
    private static String allOf(HeardTunes x) {
        StringBuilder all = new StringBuilder(Check.look(x));
        for (int c = 0; c < x.told(2); c++) {
            for (int m = 0; m <= 4; m++) {
                all.append(' ').append(x.where(c, m));
            }
        }
        for (int k = 0; k < 3; k++) {
            all.append(' ').append(x.tried(k, 0)).append(' ').append(x.tried(k, 1)).append(' ').append(x.wax(k));
            all.append(' ').append(x.bestWall(k, 0)).append(' ').append(x.bestWall(k, 1));
            for (int t = 0; t < x.told(3); t++) {
                all.append(' ').append(x.soonest(k, t, NONE)).append(' ').append(x.soonest(k, t, 0));
            }
        }
        for (int t = 0; t < x.told(3); t++) {
            all.append(' ').append(x.tune(t, 2));
            for (int n = 1; n <= 5; n++) {
                all.append(' ').append(x.walks(n, t, NONE)).append(' ').append(x.walks(n, t, n - 1));
            }
        }
        all.append(' ').append(x.judge()).append(' ').append(x.far(0, 0, 3, 1));
        return all.append(laterOf(x)).toString();
    }

    private static String laterOf(HeardTunes x) {
        StringBuilder all = new StringBuilder();
        for (int i = 0; i < 2; i++) {
            all.append(" image ").append(x.goBack(i)).append(' ').append(Check.look(x));
        }
        all.append(" plan ").append(x.drop()).append(" seen ").append(x.tear());
        all.append(" drift ").append(x.drift(3)).append(' ').append(Check.look(x));
        all.append(" town ").append(x.town()).append(' ').append(x.fault()).append(' ').append(Check.look(x));
        return all.toString();
    }

    private static void feed() {
        for (int n : new int[] {0, 9, -1, MIN, MAX}) {
            refused("feed(" + n + ", 0)", OUTSIDE, x -> x.feed(n, 0x7777777777777777L));
        }
    }

    private static void told() {
        for (int what : new int[] {-1, 13, MIN, MAX}) {
            refused("told(" + what + ")", OUTSIDE, x -> x.told(what));
        }
    }

    private static void cell() {
        for (int[] at : cellsThatAreNot()) {
            refused("cell(" + at[0] + ", " + at[1] + ")", UNKNOWN, x -> x.cell(at[0], at[1]));
        }
    }

    private static int[][] cellsThatAreNot() {
        // -1 and W in a later row would be cells of the row beside it, were X not looked at.
        return new int[][] {{-1, 0}, {W, 0}, {0, -1}, {0, H}, {MIN, 0}, {MAX, 0}, {0, MIN}, {0, MAX}, {W, H}, {-1, -1}, {-1, H}, {-1, 1}, {-1, 2},
            {W, 1}, {W, -1}};
    }

    private static void crowd() {
        for (int c : new int[] {-1, CROWDS, MIN, MAX}) {
            refused("crowd(" + c + ", 0)", UNKNOWN, x -> x.crowd(c, 0));
            refused("crowd(" + c + ", 7)", UNKNOWN, x -> x.crowd(c, 7));
        }
        for (int what : new int[] {-1, 7, MIN, MAX}) {
            refused("crowd(0, " + what + ")", OUTSIDE, x -> x.crowd(0, what));
        }
    }

    private static void tune() {
        for (int t : new int[] {-1, TUNES, MIN, MAX}) {
            refused("tune(" + t + ", 0)", UNKNOWN, x -> x.tune(t, 0));
            refused("tune(" + t + ", 3)", UNKNOWN, x -> x.tune(t, 3));
        }
        for (int what : new int[] {-1, 3, MIN, MAX}) {
            refused("tune(0, " + what + ")", OUTSIDE, x -> x.tune(0, what));
        }
    }

    private static void far() {
        for (int[] at : cellsThatAreNot()) {
            String cell = at[0] + ", " + at[1];
            refused("far(" + cell + ", 0, 0)", UNKNOWN, x -> x.far(at[0], at[1], 0, 0));
            refused("far(0, 0, " + cell + ")", UNKNOWN, x -> x.far(0, 0, at[0], at[1]));
            refused("far(" + cell + ", " + cell + ")", UNKNOWN, x -> x.far(at[0], at[1], at[0], at[1]));
        }
    }

    private static void minute() {
        for (int t : new int[] {-2, TUNES, MIN, MAX}) {
            refused("minute(0, " + t + ")", UNKNOWN, x -> x.minute(0, t));
            refused("minute(5, " + t + "): UNKNOWN before OUTSIDE", UNKNOWN, x -> x.minute(5, t));
            refused("minute(3, " + t + "): UNKNOWN before NOT", UNKNOWN, x -> x.minute(3, t));
        }
        for (int step : new int[] {-1, 5, MIN, MAX}) {
            refused("minute(" + step + ", 0)", OUTSIDE, x -> x.minute(step, 0));
            refused("minute(" + step + ", -1)", OUTSIDE, x -> x.minute(step, NONE));
        }
        refused("minute(3, 0) off the town", NOT, x -> x.minute(3, 0));
        refused("minute(4, 0) on water", NOT, x -> x.minute(4, 0));
        refused("minute(4, -1) on water", NOT, x -> x.minute(4, NONE));
        open("under a wall", RefusalsTest::beneathTheWall);
        refused("minute(1, 0) on a wall", NOT, x -> x.minute(1, 0));
        open("in a town", RefusalsTest::townUnderWay);
    }

    private static HeardTunes beneathTheWall() {
        HeardTunes x = townUnderWay();
        x.minute(2, NONE);
        return x;
    }

    private static void wall() {
        for (boolean is : new boolean[] {true, false}) {
            for (int[] at : cellsThatAreNot()) {
                refused("wall(" + at[0] + ", " + at[1] + ", " + is + ")", UNKNOWN, x -> x.wall(at[0], at[1], is));
            }
            refused("wall(0, 2, " + is + ") on water", NOT, x -> x.wall(0, 2, is));
            refused("wall(4, 0, " + is + ") at a gate", NOT, x -> x.wall(4, 0, is));
            refused("wall(4, 2, " + is + ") on followers", NOT, x -> x.wall(4, 2, is));
            refused("wall(1, 2, " + is + ") on the piper", NOT, x -> x.wall(1, 2, is));
        }
    }

    private static void drift() {
        for (int n : new int[] {0, 100, -1, MIN, MAX}) {
            refused("drift(" + n + ")", OUTSIDE, x -> x.drift(n));
        }
    }

    private static void plan() {
        for (int t : new int[] {-2, TUNES, MIN, MAX}) {
            refused("plan(0, " + t + ")", UNKNOWN, x -> x.plan(0, t));
            refused("plan(5, " + t + "): UNKNOWN before OUTSIDE", UNKNOWN, x -> x.plan(5, t));
        }
        for (int step : new int[] {-1, 5, MIN, MAX}) {
            refused("plan(" + step + ", 0)", OUTSIDE, x -> x.plan(step, 0));
            refused("plan(" + step + ", -1)", OUTSIDE, x -> x.plan(step, NONE));
        }
    }

    private static void tried() {
        for (int k : new int[] {-2, 3, MIN, MAX}) {
            refused("tried(" + k + ", 0)", UNKNOWN, x -> x.tried(k, 0));
            refused("tried(" + k + ", 2): UNKNOWN before OUTSIDE", UNKNOWN, x -> x.tried(k, 2));
        }
        for (int what : new int[] {-1, 2, MIN, MAX}) {
            refused("tried(0, " + what + ")", OUTSIDE, x -> x.tried(0, what));
            refused("tried(2, " + what + ")", OUTSIDE, x -> x.tried(2, what));
        }
    }

    private static void where() {
        for (int c : new int[] {-1, CROWDS, MIN, MAX}) {
            refused("where(" + c + ", 0)", UNKNOWN, x -> x.where(c, 0));
            refused("where(" + c + ", 31): UNKNOWN before OUTSIDE", UNKNOWN, x -> x.where(c, 31));
        }
        for (int m : new int[] {-1, 31, MIN, MAX}) {
            refused("where(0, " + m + ")", OUTSIDE, x -> x.where(0, m));
        }
    }

    private static void soonest() {
        for (int wrong : new int[] {-1, MIN, MAX}) {
            refused("soonest(" + wrong + ", 0, -1)", UNKNOWN, x -> x.soonest(wrong, 0, NONE));
            refused("soonest(0, " + wrong + ", -1)", UNKNOWN, x -> x.soonest(0, wrong, NONE));
            refused("soonest(" + wrong + ", " + wrong + ", 0)", UNKNOWN, x -> x.soonest(wrong, wrong, 0));
        }
        refused("soonest(3, 0, -1)", UNKNOWN, x -> x.soonest(3, 0, NONE));
        refused("soonest(0, 2, 99)", UNKNOWN, x -> x.soonest(0, TUNES, 99));
    }

    private static void bestWall() {
        for (int k : new int[] {-1, 3, MIN, MAX}) {
            refused("bestWall(" + k + ", 0)", UNKNOWN, x -> x.bestWall(k, 0));
            refused("bestWall(" + k + ", 2): UNKNOWN before OUTSIDE", UNKNOWN, x -> x.bestWall(k, 2));
        }
        for (int what : new int[] {-1, 2, MIN, MAX}) {
            refused("bestWall(0, " + what + ")", OUTSIDE, x -> x.bestWall(0, what));
        }
    }

    private static void wax() {
        for (int k : new int[] {-1, 3, MIN, MAX}) {
            refused("wax(" + k + ")", UNKNOWN, x -> x.wax(k));
        }
    }

    private static void see() {
        for (int c : new int[] {-1, CROWDS, MIN, MAX}) {
            refused("see(" + c + ", 1, 0, 0)", UNKNOWN, x -> x.see(c, 1, 0, 0));
            refused("see(" + c + ", 6, 0, 0): UNKNOWN before OUTSIDE", UNKNOWN, x -> x.see(c, 6, 0, 0));
        }
        for (int[] at : cellsThatAreNot()) {
            refused("see(0, 1, " + at[0] + ", " + at[1] + ")", UNKNOWN, x -> x.see(0, 1, at[0], at[1]));
            refused("see(0, 0, " + at[0] + ", " + at[1] + ")", UNKNOWN, x -> x.see(0, 0, at[0], at[1]));
        }
        for (int m : new int[] {0, 6, -1, MIN, MAX}) {
            refused("see(0, " + m + ", 0, 0)", OUTSIDE, x -> x.see(0, m, 0, 0));
        }
    }

    private static void walks() {
        for (int t : new int[] {-1, TUNES, MIN, MAX}) {
            refused("walks(1, " + t + ", -1)", UNKNOWN, x -> x.walks(1, t, NONE));
            refused("walks(6, " + t + ", 0): UNKNOWN before OUTSIDE", UNKNOWN, x -> x.walks(6, t, 0));
        }
        for (int n : new int[] {0, 6, -1, MIN, MAX}) {
            refused("walks(" + n + ", 0, -1)", OUTSIDE, x -> x.walks(n, 0, NONE));
            refused("walks(" + n + ", 0, 0)", OUTSIDE, x -> x.walks(n, 0, 0));
        }
    }

    private static void seed() {
        refused("seed(-1)", OUTSIDE, x -> x.seed(-1));
        refused("seed(min)", OUTSIDE, x -> x.seed(MIN));
    }

    private static void images() {
        for (int i : new int[] {-1, 2, MIN, MAX}) {
            refused("keep(" + i + ")", UNKNOWN, x -> x.keep(i));
            refused("goBack(" + i + ")", UNKNOWN, x -> x.goBack(i));
        }
        refused("goBack(1)", NOT, x -> x.goBack(1));
    }

    private static void inAFullOne() {
        open("in a full one", RefusalsTest::full);
        Check.says("REFUSALS, of several the first in this order: UNKNOWN (a CELL, CROWD, TUNE, KIND, IMAGE that there is not), "
            + "OUTSIDE (another number out of its bounds), NOT (not now, as told), FULL.");
        for (int n : new int[] {3, 4, 8}) {
            refused("feed(" + n + ", 0)", FULL, x -> x.feed(n, 0));
        }
        refused("feed(0, 0): OUTSIDE before FULL", OUTSIDE, x -> x.feed(0, 0));
        refused("feed(9, 0): OUTSIDE before FULL", OUTSIDE, x -> x.feed(9, 0));
        refused("feed(max, 0): OUTSIDE before FULL", OUTSIDE, x -> x.feed(MAX, 0));
        refused("plan(0, -1)", FULL, x -> x.plan(0, NONE));
        refused("plan(4, 1)", FULL, x -> x.plan(4, 1));
        refused("plan(5, 1): OUTSIDE before FULL", OUTSIDE, x -> x.plan(5, 1));
        refused("plan(0, 2): UNKNOWN before FULL", UNKNOWN, x -> x.plan(0, 2));
        refused("plan(5, 2): UNKNOWN before all", UNKNOWN, x -> x.plan(5, 2));
        refused("see(0, 1, 0, 0)", FULL, x -> x.see(0, 1, 0, 0));
        refused("see(2, 5, 4, 2)", FULL, x -> x.see(2, 5, 4, 2));
        refused("see(0, 0, 0, 0): OUTSIDE before FULL", OUTSIDE, x -> x.see(0, 0, 0, 0));
        refused("see(3, 1, 0, 0): UNKNOWN before FULL", UNKNOWN, x -> x.see(3, 1, 0, 0));
        refused("see(0, 1, 5, 0): UNKNOWN before FULL", UNKNOWN, x -> x.see(0, 1, 5, 0));
        refused("see(3, 6, 5, 0): UNKNOWN before all", UNKNOWN, x -> x.see(3, 6, 5, 0));
    }

    /** Two bytes are left in the text; the plan and what was seen are full. */
    private static HeardTunes full() {
        HeardTunes x = Check.told(TOWN);
        for (int i = 0; i < 30; i++) {
            x.plan(i % 3, i % 2);
        }
        for (int i = 0; i < 10; i++) {
            x.see(1, 1 + i % 5, 4, 2);
        }
        Check.feed(x, "town 3 1;" + " ".repeat(489));
        return x;
    }

    private static void withoutCells() {
        open("without cells", RefusalsTest::none);
        Check.says("UNKNOWN (a CELL, CROWD, TUNE, KIND, IMAGE that there is not)");
        refused("cell(0, 0)", UNKNOWN, x -> x.cell(0, 0));
        refused("crowd(0, 0)", UNKNOWN, x -> x.crowd(0, 0));
        refused("crowd(0, 7)", UNKNOWN, x -> x.crowd(0, 7));
        refused("tune(0, 0)", UNKNOWN, x -> x.tune(0, 0));
        refused("far(0, 0, 0, 0)", UNKNOWN, x -> x.far(0, 0, 0, 0));
        refused("wall(0, 0, true)", UNKNOWN, x -> x.wall(0, 0, true));
        refused("wall(0, 0, false)", UNKNOWN, x -> x.wall(0, 0, false));
        refused("where(0, 0)", UNKNOWN, x -> x.where(0, 0));
        refused("soonest(0, 0, -1)", UNKNOWN, x -> x.soonest(0, 0, NONE));
        refused("see(0, 1, 0, 0)", UNKNOWN, x -> x.see(0, 1, 0, 0));
        refused("walks(1, 0, -1)", UNKNOWN, x -> x.walks(1, 0, NONE));
        refused("walks(0, 0, -1)", UNKNOWN, x -> x.walks(0, 0, NONE));
        refused("minute(0, 0)", UNKNOWN, x -> x.minute(0, 0));
        refused("minute(5, 0)", UNKNOWN, x -> x.minute(5, 0));
        refused("plan(0, 0)", UNKNOWN, x -> x.plan(0, 0));
        refused("goBack(1)", NOT, x -> x.goBack(1));
        Check.says("UNKNOWN (t), OUTSIDE (step 0 .. 4), NOT: he may not, no CELLS.");
        refused("minute(5, -1): OUTSIDE before NOT", OUTSIDE, x -> x.minute(5, NONE));
        refused("minute(-1, -1): OUTSIDE before NOT", OUTSIDE, x -> x.minute(-1, NONE));
        for (int step = 0; step <= 4; step++) {
            int each = step;
            refused("minute(" + step + ", -1)", NOT, x -> x.minute(each, NONE));
        }
        Check.says("OUTSIDE, NOT: no CELLS.");
        refused("drift(0): OUTSIDE before NOT", OUTSIDE, x -> x.drift(0));
        refused("drift(100): OUTSIDE before NOT", OUTSIDE, x -> x.drift(100));
        refused("drift(1)", NOT, x -> x.drift(1));
        refused("drift(99)", NOT, x -> x.drift(99));
    }

    private static HeardTunes none() {
        HeardTunes x = new HeardTunes();
        x.seed(99);
        x.keep(0);
        x.plan(0, NONE);
        Check.feed(x, "town 3 1;");
        return x;
    }
}
