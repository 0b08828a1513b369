/** Rule 7 of LANGUAGE.md where no run of calls gets: an index is looked at before it is used. */
public final class GuardsTest {
    private static final int NONE = Check.NONE;
    private static final int HERE = 0, WALL = 1, GATE = 3;
    private static final int MOST_CELLS = 42, MOST_CROWDS = 6, MOST_TUNES = 3, MOST_BYTES = 500, MOST_PLAN = 30, MOST_SEEN = 10;
    private static final int[] OFF = {Integer.MIN_VALUE, -43, -2, -1};

    private static final HeardTunes.Town TOWN = new HeardTunes.Town();
    private static final HeardTunes.Ground GROUND = new HeardTunes.Ground();
    private static final HeardTunes.Scene SCENE = new HeardTunes.Scene(TOWN, GROUND);

    public static void main(String[] args) {
        read("town 7 6;gate 0 0;gate 6 5;crowd 0 1 0 9 1 0;crowd 1 6 4 9 1 0;crowd 2 3 3 9 1 0;crowd 0 3 3 9 1 0;"
            + "crowd 1 3 3 9 1 0;crowd 2 5 5 9 3 2;tune 7 20;tune 7 20;tune 4 20;");
        cells();
        crowds();
        rowsThatAreFull();
        Check.end("GuardsTest");
    }

    private static void read(String text) {
        HeardTunes.Reader reader = new HeardTunes.Reader();
        for (int i = 0; i < text.length(); i++) {
            reader.add(text.charAt(i));
        }
        Check.isTrue("the text has no fault", reader.read(TOWN));
        GROUND.lay(TOWN);
        SCENE.begin();
    }

    private static void cells() {
        for (int at : off(MOST_CELLS)) {
            Check.due("what(" + at + ")", GROUND.what(at), WALL);
            Check.due("code(" + at + ")", GROUND.code(at), NONE);
            Check.due("steps(" + at + ", 41)", GROUND.steps(at, 41), NONE);
            Check.due("steps(41, " + at + ")", GROUND.steps(41, at), NONE);
            Check.due("onward(" + at + ", 41)", GROUND.onward(at, 41), NONE);
            Check.due("onward(41, " + at + ")", GROUND.onward(41, at), NONE);
            Check.due("beside(" + at + ", 1)", GROUND.beside(at, 1), NONE);
            Check.isTrue(at + " is no cell", !HeardTunes.Ground.isCell(at));
            Check.isTrue(at + " is no spot", !TOWN.isSpot(at));
            TOWN.addSpot(at, WALL);
            GROUND.put(at, WALL);
        }
        for (int step : new int[] {Integer.MIN_VALUE, -1, 0, 5, Integer.MAX_VALUE}) {
            Check.due("beside(9, " + step + ")", GROUND.beside(9, step), NONE);
        }
        Check.due("no spot came of it", TOWN.spots, 2);
        Check.due("the first cell", GROUND.what(0), GATE);
        Check.due("the last cell", GROUND.what(41), GATE);
        Check.due("from one end to the other", GROUND.steps(1, 41), 10);
        Check.due("and on", GROUND.onward(34, 41), 41);
    }

    private static void crowds() {
        for (int c : off(MOST_CROWDS)) {
            Check.due("followers(" + c + ")", TOWN.followers(c), 0);
            Check.due("fate(" + c + ")", SCENE.fate(c), HERE);
            Check.isTrue(c + " follows no tune", !TOWN.isFollower(c, 0));
            Check.isTrue(c + " is not here", !SCENE.isHere(c));
            for (int cell : new int[] {NONE, 0, 40, 41, 42}) {
                Check.isTrue(c + " is not at " + cell, !SCENE.isAt(c, cell));
            }
        }
        for (int t : off(MOST_TUNES)) {
            Check.isTrue("nobody follows tune " + t, !TOWN.isFollower(0, t) && !TOWN.isFollower(5, t));
            Check.due("nobody hears tune " + t, SCENE.hearers(t), 0);
        }
        Check.due("the last crowd's followers", TOWN.followers(5), 7);
        Check.isTrue("the last crowd follows the last tune", TOWN.isFollower(5, 2));
        Check.isTrue("the first crowd does not", !TOWN.isFollower(0, 2));
        Check.isTrue("the last crowd is at its cell", SCENE.isAt(5, 40) && SCENE.isHere(5));
        Check.due("who hears the last tune", SCENE.hearers(2), 36);
        SCENE.at[5] = MOST_CELLS;
        Check.due("who is nowhere is neither out nor drowned", SCENE.fate(5), HERE);
        SCENE.at[5] = NONE;
        Check.due("nor who is at NONE", SCENE.fate(5), HERE);
        SCENE.at[5] = 41;
        Check.due("who is at the gate is out", SCENE.fate(5), 1);
    }

    /** What is refused before already is not added either. */
    private static void rowsThatAreFull() {
        HeardTunes.Reader reader = new HeardTunes.Reader();
        HeardTunes.Plan plan = new HeardTunes.Plan();
        HeardTunes.Seen seen = new HeardTunes.Seen();
        for (int i = 0; i < MOST_BYTES + 2; i++) {
            reader.add(' ');
            plan.add(0, 0);
            seen.add(0, 1, 0);
            TOWN.addCrowd(0, 0, 1, 1, 0);
            TOWN.addTune(1, 1);
        }
        Check.due("bytes", reader.length, MOST_BYTES);
        Check.due("minutes of the plan", plan.count, MOST_PLAN);
        Check.due("seen", seen.count, MOST_SEEN);
        Check.due("crowds", TOWN.crowds, MOST_CROWDS);
        Check.due("tunes", TOWN.tunes, MOST_TUNES);
    }

    /** Numbers below 0 and from n on. */
    private static int[] off(int n) {
        int[] all = java.util.Arrays.copyOf(OFF, OFF.length + 4);
        all[OFF.length] = n;
        all[OFF.length + 1] = n + 1;
        all[OFF.length + 2] = MOST_CELLS * MOST_CELLS;
        all[OFF.length + 3] = Integer.MAX_VALUE;
        return all;
    }
}
