/** Promises 1 to 9: a new object, the text and its faults, what can be looked at. */
public final class TownTest {
    private static final int NONE = Check.NONE, UNKNOWN = Check.UNKNOWN, OUTSIDE = Check.OUTSIDE, FULL = Check.FULL;

    public static void main(String[] args) {
        newObject();
        feed();
        town();
        piperUntold();
        faultsOfPlace();
        faultsOfNumbers();
        faultsOfCount();
        faultsOfCells();
        blanks();
        faultChangesNothing();
        townBeginsAnew();
        nothingStaysOfABiggerTown();
        told();
        cell();
        crowd();
        tune();
        far();
        Check.end("TownTest");
    }

    private static void newObject() {
        HeardTunes x = new HeardTunes();
        for (int what = 0; what <= 12; what++) {
            Check.due("new: told(" + what + ")", x.told(what), 0);
        }
        Check.due("new: fault()", x.fault(), NONE);
        Check.due("new: cell(0, 0)", x.cell(0, 0), UNKNOWN);
        Check.due("new: crowd(0, 0)", x.crowd(0, 0), UNKNOWN);
        Check.due("new: tune(0, 0)", x.tune(0, 0), UNKNOWN);
        Check.due("new: far(0, 0, 0, 0)", x.far(0, 0, 0, 0), UNKNOWN);
        Check.due("new: wall(0, 0, true)", x.wall(0, 0, true), UNKNOWN);
        Check.due("new: minute(0, -1)", x.minute(0, -1), Check.NOT);
        Check.due("new: minute(0, 0)", x.minute(0, 0), UNKNOWN);
        Check.due("new: minute(5, -1)", x.minute(5, -1), OUTSIDE);
        Check.due("new: drift(1)", x.drift(1), Check.NOT);
        Check.due("new: drift(0)", x.drift(0), OUTSIDE);
        Check.due("new: judge()", x.judge(), NONE);
        Check.due("new: tried(-1, 0)", x.tried(-1, 0), 0);
        Check.due("new: tried(2, 1)", x.tried(2, 1), 0);
        Check.due("new: soonest(0, 0, -1)", x.soonest(0, 0, -1), UNKNOWN);
        Check.due("new: bestWall(0, 1)", x.bestWall(0, 1), NONE);
        Check.due("new: wax(2)", x.wax(2), 0);
        Check.due("new: see(0, 1, 0, 0)", x.see(0, 1, 0, 0), UNKNOWN);
        Check.due("new: walks(1, 0, -1)", x.walks(1, 0, -1), UNKNOWN);
        Check.due("new: goBack(0)", x.goBack(0), Check.NOT);
        Check.due("new: keep(0)", x.keep(0), 1);
        Check.due("new: goBack(0) of what was kept", x.goBack(0), 1);
        Check.due("new: seed(1)", x.seed(1), 0);
    }

    private static void feed() {
        HeardTunes x = new HeardTunes();
        Check.due("feed(0, 1)", x.feed(0, 1), OUTSIDE);
        Check.due("feed(9, 1)", x.feed(9, 1), OUTSIDE);
        Check.due("feed(-1, 1)", x.feed(-1, 1), OUTSIDE);
        Check.due("feed(min, 1)", x.feed(Integer.MIN_VALUE, 1), OUTSIDE);
        // The bytes above the n lowest do not count: "town 1" behind "xy", then " 1;" behind "zzzzz".
        Check.due("feed of 6", x.feed(6, 0x7879746f776e2031L), 6);
        Check.due("feed of 3", x.feed(3, 0x7a7a7a7a7a20313bL), 9);
        Check.due("told(4)", x.told(4), 9);
        Check.due("town()", x.town(), 1);
        Check.due("told(4) behind town()", x.told(4), 0);
        for (int i = 1; i <= 62; i++) {
            Check.due("feed of 8, " + i, x.feed(8, 0x2020202020202020L), 8 * i);
        }
        Check.due("feed past 500", x.feed(5, 0), FULL);
        Check.due("feed past 500 by far", x.feed(8, 0), FULL);
        Check.due("feed(9) when it is nearly full", x.feed(9, 0), OUTSIDE);
        Check.due("told(4) behind FULL", x.told(4), 496);
        Check.due("feed up to 500", x.feed(4, 0x20202020L), 500);
        Check.due("feed at 500", x.feed(1, 32), FULL);
        // A byte above 127 is one that cannot stand there, not a blank, letter, figure.
        HeardTunes high = new HeardTunes();
        high.feed(1, -1L);
        Check.due("town() of byte 255", high.town(), -11);
        Check.due("fault() of byte 255", high.fault(), 0);
    }

    private static void town() {
        Check.fine("", 0);
        Check.fine("town 1 1;", 1);
        Check.fine("town 9 4;", 36);
        Check.fine("town 6 7;", 42);
        Check.fine("town 7 6;", 42);
        Check.fine("town 4 9;", 36);
        Check.fine("town 3 3;crowd 2 2 2 99 3 99;tune 7 20;tune 1 0;tune 4 1;piper 2 2;pay 0 99;", 9);
        Check.fine("town 2 1;crowd 0 0 0 1 1 0;piper 0 0;crowd 1 0 0 1 1 0;", 2);
        Check.fine("town 003 03;wall 000 02;", 9);
        HeardTunes x = Check.told("town 2 1;");
        Check.due("an empty text makes no cells", x.town(), 0);
        Check.due("told(0) behind it", x.told(0), 0);
        Check.due("told(1) behind it", x.told(1), 0);
        Check.due("cell(0, 0) behind it", x.cell(0, 0), UNKNOWN);
    }

    private static void piperUntold() {
        Check.due("the first free cell", Check.told("town 3 3;").told(6), 0);
        Check.due("Y by Y, X rising", Check.told("town 3 2;wall 0 0;water 1 0;gate 2 0;wall 0 1;").told(6), 11);
        Check.due("also where a crowd is", Check.told("town 2 2;wall 0 0;crowd 0 1 0 5 1 0;").told(6), 10);
        Check.due("found behind the whole text", Check.told("town 2 2;tune 1 1;wall 0 0;wall 1 0;").told(6), 1);
        HeardTunes none = Check.told("town 2 1;wall 0 0;gate 1 0;");
        Check.due("0 0, if there is none", none.told(6), 0);
        Check.due("who is on a wall may stay", none.minute(0, NONE), 0);
        Check.due("no wall may go under him", none.wall(0, 0, false), Check.NOT);
        Check.due("who is on a wall may step off", none.minute(2, NONE), 10);
        Check.due("then it may go", none.wall(0, 0, false), 1);
        Check.due("told", Check.told("town 3 3;piper 2 1;").told(6), 21);
    }

    private static void faultsOfPlace() {
        Check.faulty(" ", 1, 1);
        Check.faulty("     ", 1, 5);
        Check.faulty(";", 1, 0);
        Check.faulty("7", 1, 0);
        Check.faulty("12345", 1, 0);
        Check.faulty("wall 0 0;", 1, 0);
        Check.faulty("  pay 1 1;", 1, 2);
        Check.faulty("tow", 1, 0);
        Check.faulty("towns 1 1;", 1, 0);
        Check.faulty("to wn 1 1;", 1, 0);
        Check.faulty("Town 1 1;", 1, 0);
        Check.faulty("town", 1, 4);
        Check.faulty("town  ", 1, 6);
        Check.faulty("town;", 1, 4);
        Check.faulty("town x 1;", 1, 5);
        Check.faulty("town 1;", 1, 6);
        Check.faulty("town 1 1", 1, 8);
        Check.faulty("town 1 1 ", 1, 9);
        Check.faulty("town 1 1 1;", 1, 9);
        Check.faulty("town 1 1 1000;", 1, 9);
        Check.faulty("town 1 1 wall 0 0;", 1, 9);
        Check.faulty("town 1-1;", 1, 6);
        Check.faulty("town 1 1;;", 1, 9);
        Check.faulty("town 1 1;7", 1, 9);
        Check.faulty("town 1 1;rats 1;", 1, 9);
        Check.faulty("town 1 1;waLl 0 0;", 1, 9);
        Check.faulty("town 1 1;wall\n0 0;", 1, 13);
        Check.faulty("town 2 2;tune 1;", 1, 15);
        Check.faulty("town 2 2;crowd 0 0 0 1 1;", 1, 24);
        Check.faulty("town 2 2;pay 1", 1, 14);
        Check.faulty("town 1 1;\0", 1, 9);
    }

    private static void faultsOfNumbers() {
        Check.faulty("town 0 1;", 2, 5);
        Check.faulty("town 10 1;", 2, 5);
        Check.faulty("town 1 0;", 2, 7);
        Check.faulty("town 1 10;", 2, 7);
        Check.faulty("town 0001 1;", 2, 5);
        Check.faulty("town 99999999999999999999 1;", 2, 5);
        Check.faulty("town 4294967297 1;", 2, 5);
        Check.faulty("town 9 5;", 2, 7);
        Check.faulty("town 7 7;", 2, 7);
        Check.faulty("town 5   9;", 2, 9);
        Check.faulty("town 10 x", 2, 5);
        Check.faulty("town 2 3;wall 2 0;", 2, 14);
        Check.faulty("town 2 3;water 0 3;", 2, 17);
        Check.faulty("town 2 3;gate 1 999;", 2, 16);
        Check.faulty("town 2 3;crowd 3 0 0 1 1 0;", 2, 15);
        Check.faulty("town 2 3;crowd 0 2 0 1 1 0;", 2, 17);
        Check.faulty("town 2 3;crowd 0 0 3 1 1 0;", 2, 19);
        Check.faulty("town 2 3;crowd 0 0 0 0 1 0;", 2, 21);
        Check.faulty("town 2 3;crowd 0 0 0 100 1 0;", 2, 21);
        Check.faulty("town 2 3;crowd 0 0 0 1 0 0;", 2, 23);
        Check.faulty("town 2 3;crowd 0 0 0 1 4 0;", 2, 23);
        Check.faulty("town 2 3;crowd 0 0 0 7 1 8;", 2, 25);
        Check.faulty("town 2 3;tune 0 1;", 2, 14);
        Check.faulty("town 2 3;tune 8 1;", 2, 14);
        Check.faulty("town 2 3;tune 1 21;", 2, 16);
        Check.faulty("town 2 3;piper 2 0;", 2, 15);
        Check.faulty("town 2 3;piper 0 3;", 2, 17);
        Check.faulty("town 2 3;pay 100 0;", 2, 13);
        Check.faulty("town 2 3;pay 0 100;", 2, 15);
    }

    private static void faultsOfCount() {
        Check.faulty("town 1 1;town 1 1;", 3, 9);
        Check.faulty("town 1 1;town", 3, 9);
        Check.faulty("town 2 2;piper 0 0;piper 0 0;", 3, 19);
        Check.faulty("town 2 2;pay 1 1; pay 1 1;", 3, 18);
        Check.faulty("town 2 2;tune 1 1;tune 1 1;tune 1 1;tune 1 1;", 3, 36);
        String crowds = "town 1 1;" + "crowd 0 0 0 1 1 0;".repeat(6);
        Check.fine(crowds, 1);
        Check.faulty(crowds + "crowd", 3, crowds.length());
        StringBuilder spots = new StringBuilder("town 6 6;");
        for (int i = 0; i < 30; i++) {
            spots.append(i % 3 == 0 ? "wall " : i % 3 == 1 ? "gate " : "water ");
            spots.append(i % 6).append(' ').append(i / 6).append(';');
        }
        Check.fine(spots.toString(), 36);
        Check.faulty(spots + "wall 0 5;", 3, spots.length());
        Check.faulty(spots + "water 9 9;", 3, spots.length());
        Check.faulty(spots + "gate 0 0;", 3, spots.length());
    }

    private static void faultsOfCells() {
        for (String spot : new String[] {"wall", "water", "gate"}) {
            String begin = "town 2 2;" + spot + " 1 0;";
            for (String again : new String[] {"wall", "water", "gate", "piper"}) {
                Check.faulty(begin + again + "  1  0;", 4, begin.length() + again.length() + 5);
            }
            Check.faulty(begin + "crowd 0 1 0 0 0 0;", 4, begin.length() + 10);
            Check.faulty("town 2 2;crowd 0 1 1 1 1 1;" + spot + " 1 1;", 4, 30 + spot.length());
            Check.faulty("town 2 2;piper 1 1;" + spot + " 1 1 1;", 4, 22 + spot.length());
        }
    }

    private static void blanks() {
        Check.fine("  town  2  2  ;  wall  0  0  ;  ", 4);
        Check.fine("town2 2;wall0 0;pay1 1;crowd0 1 1 5 1 0;", 4);
        Check.faulty("town22;", 2, 4);
        Check.faulty("town 2 2;wa ll 0 0;", 1, 9);
        Check.faulty("town 2\t2;", 1, 6);
    }

    private static void faultChangesNothing() {
        HeardTunes x = Check.told("town 3 1;gate 2 0;crowd 0 0 0 9 1 2;tune 1 5;piper 1 0;pay 2 3;");
        x.seed(77);
        x.minute(0, 0);
        x.plan(2, 0);
        x.see(0, 1, 1, 0);
        x.keep(1);
        String before = Check.look(x);
        Check.due("a faulty text", Check.tell(x, "town 2 2;wall 0 0;crowd 1 1 1 5 5 5;"), -12);
        Check.due("its fault", x.fault(), 32);
        Check.due("the text is empty then", x.told(4), 0);
        Check.isTrue("all else is as it was", Check.look(x).startsWith(before.substring(0, before.lastIndexOf(' '))));
        Check.due("the plan too", x.judge(), NONE);
        Check.due("what was seen too", x.walks(1, 0, NONE), 1);
        Check.due("the image too", x.goBack(1), 1);
        Check.due("what a head is worth too", x.tried(NONE, 0), 14);
        Check.due("a good text", Check.tell(x, "town 1 1;"), 1);
        Check.due("no fault any more", x.fault(), NONE);
    }

    private static void townBeginsAnew() {
        HeardTunes x = Check.told("town 3 1;gate 2 0;crowd 0 0 0 9 1 2;tune 1 5;piper 1 0;pay 2 3;");
        x.seed(1);
        x.drift(1);
        x.plan(0, 0);
        x.see(0, 1, 0, 0);
        x.keep(0);
        x.keep(1);
        int seed = x.seed(5);
        x.seed(seed);
        Check.due("the next town", Check.tell(x, "town 2 2;crowd 1 1 1 4 2 1;"), 4);
        Check.due("no minutes", x.told(5), 0);
        Check.due("no plan", x.told(11), 0);
        Check.due("nothing seen", x.told(12), 0);
        Check.due("no image 0", x.goBack(0), Check.NOT);
        Check.due("no image 1", x.goBack(1), Check.NOT);
        Check.due("one crowd", x.told(2), 1);
        Check.due("no tunes", x.told(3), 0);
        Check.due("the piper untold", x.told(6), 0);
        Check.due("no goal", x.crowd(0, 5), NONE);
        Check.due("no gate", x.cell(1, 0), 0);
        Check.due("the seed stays", x.seed(0), seed);
        nothingOfTheOldTown();
    }

    private static void nothingOfTheOldTown() {
        StringBuilder full = new StringBuilder("town 6 6;piper 5 5;pay 50 50;tune 1 1;tune 1 1;tune 1 1;crowd 0 4 5 1 1 0;");
        for (int i = 0; i < 30; i++) {
            full.append("gate ").append(i % 6).append(' ').append(i / 6).append(';');
        }
        HeardTunes x = Check.told(full.toString());
        Check.due("a town of the same size", Check.tell(x, "town 6 6;"), 36);
        for (int i = 0; i < 36; i++) {
            Check.due("no gate of the old town", x.cell(i % 6, i / 6), 0);
        }
        Check.due("nor its piper", x.told(6), 0);
        Check.due("nor its crowd", x.told(2), 0);
        Check.due("nor its tunes", x.told(3), 0);
        Check.due("all may be told again", Check.tell(x, full.toString()), 36);
        Check.due("a town with another pay", Check.tell(x, "town 2 1;gate 0 0;crowd 0 1 0 9 1 0;tune 1 1;pay 3 1;"), 2);
        x.minute(4, 0);
        Check.due("what a head is worth now", x.told(10), 27);
        Check.due("a town without pay", Check.tell(x, "town 2 1;gate 0 0;crowd 0 1 0 9 1 0;tune 1 1;"), 2);
        x.minute(4, 0);
        Check.due("what a head is worth untold", x.told(10), 9);
    }

    /** Six crowds, three tunes, then one of each: nobody of before is counted, hears, stands in a wall's way. */
    private static void nothingStaysOfABiggerTown() {
        String big = "town 6 2;gate 5 1;crowd 0 0 0 9 1 0;crowd 0 1 0 9 1 0;crowd 0 2 0 9 1 0;crowd 0 3 0 9 1 0;"
            + "crowd 0 1 1 9 1 0;crowd 0 2 1 9 1 0;tune 7 20;tune 7 20;tune 7 20;piper 4 1;";
        String small = "town 6 1;gate 5 0;crowd 1 4 0 8 1 0;tune 3 20;piper 3 0;";
        HeardTunes x = Check.told(big);
        Check.due("all six hear", x.tune(2, 2), 63);
        x.minute(2, 0);
        Check.tell(x, small);
        Check.due("one hears", x.tune(0, 2), 1);
        Check.due("eight are left", x.told(9), 8);
        Check.due("no other kind is to be led", x.soonest(0, 0, NONE), 0);
        Check.due("one kind is", x.soonest(1, 0, NONE), 2);
        Check.due("nobody is in the wall's way", x.wall(1, 0, true), 0);
        Check.due("no crowd 1", x.crowd(1, 4), UNKNOWN);
        Check.due("no tune 1", x.minute(0, 1), UNKNOWN);
        for (int seed = 0; seed < 40; seed++) {
            x = Check.told(big);
            Check.tell(x, small);
            HeardTunes twin = Check.told(small);
            x.seed(seed);
            twin.seed(seed);
            Check.due("drift(5) by seed " + seed, x.drift(5), twin.drift(5));
            Check.same("what is so by seed " + seed, Check.look(x), Check.look(twin));
        }
    }

    private static void told() {
        HeardTunes x = Check.told("town 4 2;gate 3 0;water 3 1;crowd 0 2 0 9 1 2;crowd 1 2 1 7 3 0;crowd 0 0 1 5 1 5;"
            + "tune 1 9;tune 2 9;piper 2 0;pay 4 5;");
        Check.due("told(0)", x.told(0), 4);
        Check.due("told(1)", x.told(1), 2);
        Check.due("told(2)", x.told(2), 3);
        Check.due("told(3)", x.told(3), 2);
        Check.due("told(5)", x.told(5), 0);
        Check.due("told(6)", x.told(6), 20);
        Check.due("told(9)", x.told(9), 21);
        Check.due("told(10)", x.told(10), 0);
        x.minute(2, 0);
        x.minute(0, 1);
        Check.due("told(5) behind two minutes", x.told(5), 2);
        Check.due("told(7): followers alone are out", x.told(7), 14);
        Check.due("told(8)", x.told(8), 0);
        Check.due("told(9): deaf ones are left", x.told(9), 7);
        Check.due("told(10)", x.told(10), 56);
        x.plan(0, -1);
        x.plan(0, -1);
        x.see(0, 1, 0, 0);
        x.feed(3, 0);
        Check.due("told(4)", x.told(4), 3);
        Check.due("told(11)", x.told(11), 2);
        Check.due("told(12)", x.told(12), 1);
        Check.due("told(13)", x.told(13), OUTSIDE);
        Check.due("told(-1)", x.told(-1), OUTSIDE);
    }

    private static void cell() {
        HeardTunes x = Check.told("town 3 2;wall 0 1;water 1 0;gate 2 1;");
        int[] due = {0, 2, 0, 1, 0, 3};
        for (int i = 0; i < 6; i++) {
            Check.due("cell(" + i % 3 + ", " + i / 3 + ")", x.cell(i % 3, i / 3), due[i]);
        }
        Check.due("cell(-1, 0)", x.cell(-1, 0), UNKNOWN);
        Check.due("cell(3, 0)", x.cell(3, 0), UNKNOWN);
        Check.due("cell(0, 2)", x.cell(0, 2), UNKNOWN);
        Check.due("cell(0, -1)", x.cell(0, -1), UNKNOWN);
        Check.due("cell(max, max)", x.cell(Integer.MAX_VALUE, Integer.MAX_VALUE), UNKNOWN);
    }

    private static void crowd() {
        HeardTunes x = Check.told("town 5 2;water 4 1;gate 4 0;crowd 2 0 0 30 2 4;crowd 1 3 1 9 1 0;tune 4 9;tune 2 9;piper 3 0;");
        Check.due("KIND", x.crowd(0, 0), 2);
        Check.due("N", x.crowd(0, 1), 30);
        Check.due("P", x.crowd(0, 2), 2);
        Check.due("D", x.crowd(0, 3), 4);
        Check.due("where", x.crowd(0, 4), 0);
        Check.due("no goal", x.crowd(0, 5), NONE);
        Check.due("here", x.crowd(0, 6), 0);
        x.minute(2, 0);
        Check.due("where, under way", x.crowd(0, 4), 20);
        Check.due("the goal", x.crowd(0, 5), 40);
        x.minute(0, NONE);
        Check.due("where it went out", x.crowd(0, 4), 40);
        Check.due("no goal any more", x.crowd(0, 5), NONE);
        Check.due("out", x.crowd(0, 6), 1);
        x.wall(3, 0, true);
        x.minute(0, 1);
        Check.due("where it drowned", x.crowd(1, 4), 41);
        Check.due("drowned", x.crowd(1, 6), 2);
        Check.due("no goal of who drowned", x.crowd(1, 5), NONE);
        Check.due("crowd(2, 0)", x.crowd(2, 0), UNKNOWN);
        Check.due("crowd(-1, 0)", x.crowd(-1, 0), UNKNOWN);
        Check.due("crowd(2, 9): the first refusal", x.crowd(2, 9), UNKNOWN);
        Check.due("crowd(0, 7)", x.crowd(0, 7), OUTSIDE);
        Check.due("crowd(0, -1)", x.crowd(0, -1), OUTSIDE);
    }

    private static void tune() {
        HeardTunes x = Check.told("town 5 1;wall 4 0;crowd 0 0 0 9 1 0;crowd 1 1 0 9 1 0;crowd 0 2 0 9 1 9;crowd 1 3 0 9 1 8;"
            + "tune 3 2;tune 1 3;tune 4 20;piper 3 0;");
        Check.due("S", x.tune(0, 0), 3);
        Check.due("R", x.tune(1, 1), 3);
        Check.due("two far and no more; the deaf do not", x.tune(0, 2), 10);
        Check.due("one kind alone", x.tune(1, 2), 1);
        Check.due("none of a kind", x.tune(2, 2), 0);
        x.wall(2, 0, true);
        Check.due("not through a wall", x.tune(1, 2), 0);
        Check.due("from his own cell", x.tune(0, 2), 8);
        Check.due("tune(3, 0)", x.tune(3, 0), UNKNOWN);
        Check.due("tune(-1, 0)", x.tune(-1, 0), UNKNOWN);
        Check.due("tune(3, 3)", x.tune(3, 3), UNKNOWN);
        Check.due("tune(0, 3)", x.tune(0, 3), OUTSIDE);
        Check.due("tune(0, -1)", x.tune(0, -1), OUTSIDE);
        HeardTunes out = Check.told("town 2 1;gate 0 0;crowd 0 1 0 9 1 0;tune 1 20;");
        out.minute(4, 0);
        Check.due("who is out hears nothing more", out.tune(0, 2), 0);
    }

    private static void far() {
        HeardTunes x = Check.told("town 3 3;wall 1 0;wall 1 1;water 1 2;wall 2 2;");
        Check.due("over water, round walls", x.far(0, 0, 1, 2), 3);
        Check.due("to itself", x.far(0, 0, 0, 0), 0);
        Check.due("a wall to itself", x.far(1, 0, 1, 0), 0);
        Check.due("from a wall", x.far(1, 0, 0, 0), NONE);
        Check.due("to a wall", x.far(0, 0, 1, 1), NONE);
        Check.due("from wall to wall", x.far(1, 0, 1, 1), NONE);
        Check.due("shut off", x.far(0, 0, 2, 0), NONE);
        x.wall(2, 2, false);
        Check.due("opened", x.far(0, 0, 2, 0), 6);
        Check.due("back", x.far(2, 0, 0, 0), 6);
        Check.due("far(3, 0, 0, 0)", x.far(3, 0, 0, 0), UNKNOWN);
        Check.due("far(0, -1, 0, 0)", x.far(0, -1, 0, 0), UNKNOWN);
        Check.due("far(0, 0, 0, 3)", x.far(0, 0, 0, 3), UNKNOWN);
        Check.due("far(0, 0, -1, 0)", x.far(0, 0, -1, 0), UNKNOWN);
    }
}
