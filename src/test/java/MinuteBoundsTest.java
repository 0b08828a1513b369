/** Section 2 and promises 5 to 12: each bound of what is told, of ways, minutes, walls and drift. */
public final class MinuteBoundsTest {
    private static final int NONE = Check.NONE, UNKNOWN = Check.UNKNOWN, OUTSIDE = Check.OUTSIDE, NOT = Check.NOT;

    public static void main(String[] args) {
        told();
        toldWithoutCells();
        toldAtItsMost();
        cell();
        crowd();
        crowdWithoutFollowers();
        tune();
        tuneReach();
        waysBesideOnly();
        far();
        farAtItsMost();
        stepsOffTheTown();
        stepsOnWallsWater();
        minuteTunes();
        heardRFar();
        heardByKinds();
        oneFollower();
        paces();
        firstCell();
        firstCellEachTime();
        togetherOnOneCell();
        atTheGoal();
        drownedOnTheWay();
        outOnTheWay();
        minutesAreCounted();
        worth();
        walls();
        wallNot();
        wallWhereTheyWere();
        driftBounds();
        driftStays();
        driftTunes();
        Check.end("MinuteBoundsTest");
    }

    private static void told() {
        Check.says("0 W, 1 H, 2 CROWDS, 3 TUNES, 4 bytes of THE TEXT, 5 MINUTES, 6 the piper's CELL (10 times X and Y; 0 without CELLS), "
            + "7 HEADS OUT, 8 DROWNED, 9 LEFT (all three of all KINDS), 10 WORTH, 11 MINUTES of the PLAN, 12 what was SEEN. OUTSIDE.");
        HeardTunes x = Check.told("town 9 3;gate 8 0;water 0 0;crowd 0 7 0 9 1 1;crowd 1 1 0 8 1 3;crowd 2 4 2 50 1 0;tune 1 3;tune 2 20;piper 8 1;pay 10 7;");
        x.minute(1, 0);
        x.minute(0, NONE);
        int[] due = {9, 3, 3, 2, 0, 2, 80, 8, 0, 59, 80, 0, 0};
        for (int what = 0; what < due.length; what++) {
            Check.due("told(" + what + ")", x.told(what), due[what]);
        }
        Check.due("told(-1)", x.told(-1), OUTSIDE);
        Check.due("told(13)", x.told(13), OUTSIDE);
    }

    private static void toldWithoutCells() {
        Check.says("the piper's CELL (10 times X and Y; 0 without CELLS)");
        HeardTunes x = new HeardTunes();
        Check.due("new", x.told(6), 0);
        Check.tell(x, "town 9 4;piper 8 3;");
        Check.due("in the last cell", x.told(6), 83);
        x.town();
        Check.due("without cells again", x.told(6), 0);
        Check.tell(x, "town 4 9;piper 3 8;");
        Check.due("in the last cell", x.told(6), 38);
    }

    private static void toldAtItsMost() {
        Check.says("7 HEADS OUT, 8 DROWNED, 9 LEFT (all three of all KINDS), 10 WORTH");
        HeardTunes dry = Check.told(sixCrowds("gate"));
        Check.due("LEFT at first", dry.told(9), 594);
        dry.minute(0, 0);
        Check.due("OUT", dry.told(7), 594);
        Check.due("DROWNED", dry.told(8), 0);
        Check.due("LEFT", dry.told(9), 0);
        Check.due("WORTH", dry.told(10), 99 * 594);
        HeardTunes wet = Check.told(sixCrowds("water"));
        wet.minute(0, 0);
        Check.due("OUT", wet.told(7), 0);
        Check.due("DROWNED", wet.told(8), 594);
        Check.due("LEFT", wet.told(9), 0);
        Check.due("WORTH", wet.told(10), -99 * 594);
    }

    private static String sixCrowds(String spot) {
        StringBuilder text = new StringBuilder("town 3 1;" + spot + " 1 0;tune 7 20;piper 2 0;pay 99 99;");
        for (int c = 0; c < 6; c++) {
            text.append("crowd ").append(c % 3).append(" 0 0 99 1 0;");
        }
        return text.toString();
    }

    private static void cell() {
        Check.says("What a CELL is: 0 free, 1 a wall, 2 water, 3 a gate. UNKNOWN.");
        HeardTunes x = Check.told("town 2 2;wall 1 0;water 0 1;gate 1 1;");
        int[] due = {0, 1, 2, 3};
        for (int i = 0; i < 4; i++) {
            Check.due("cell(" + i % 2 + ", " + i / 2 + ")", x.cell(i % 2, i / 2), due[i]);
        }
        Check.due("west of it", x.cell(-1, 0), UNKNOWN);
        Check.due("east of it", x.cell(2, 0), UNKNOWN);
        Check.due("north of it", x.cell(0, -1), UNKNOWN);
        Check.due("south of it", x.cell(0, 2), UNKNOWN);
        Check.due("a cell's number is no X", x.cell(3, 0), UNKNOWN);
        Check.due("wrapped to a cell's number", x.cell(0, -2147483648), UNKNOWN);
        Check.due("wrapped to a cell's number", x.cell(2147483647, 2147483647), UNKNOWN);
    }

    private static void crowd() {
        Check.says("4 where its FOLLOWERS are (10 times X and Y; where they went OUT, DROWNED), 5 its GOAL (likewise; NONE), "
            + "6 whether they are here (0), OUT (1), DROWNED (2). UNKNOWN, OUTSIDE.");
        HeardTunes x = Check.told("town 5 1;gate 2 0;crowd 0 0 0 9 1 0;tune 7 20;piper 4 0;");
        where(x, "at first", 0, NONE, 0);
        x.minute(0, 0);
        where(x, "under way", 10, 40, 0);
        x.minute(0, NONE);
        where(x, "at the gate", 20, NONE, 1);
        Check.due("crowd(1, 0)", x.crowd(1, 0), UNKNOWN);
        Check.due("crowd(0, 7)", x.crowd(0, 7), OUTSIDE);
        HeardTunes wet = Check.told("town 1 5;water 0 2;crowd 0 0 0 9 1 0;tune 7 20;piper 0 4;");
        wet.minute(0, 0);
        where(wet, "under way", 1, 4, 0);
        wet.minute(0, NONE);
        where(wet, "on water", 2, NONE, 2);
    }

    private static void where(HeardTunes x, String when, int cell, int goal, int fate) {
        Check.due(when + ": where", x.crowd(0, 4), cell);
        Check.due(when + ": its goal", x.crowd(0, 5), goal);
        Check.due(when + ": here, out, drowned", x.crowd(0, 6), fate);
    }

    private static void crowdWithoutFollowers() {
        Check.says("A CROWD without FOLLOWERS hears nothing.");
        HeardTunes x = Check.told("town 3 1;gate 2 0;crowd 0 0 0 99 3 99;crowd 0 0 0 99 3 98;tune 7 20;piper 1 0;");
        Check.due("only the other would follow", x.tune(0, 2), 2);
        x.minute(2, 0);
        Check.due("it stays where it was told", x.crowd(0, 4), 0);
        Check.due("it has no goal", x.crowd(0, 5), NONE);
        Check.due("it is here", x.crowd(0, 6), 0);
        Check.says("deaf ones stay where the CROWD was told and count as LEFT");
        Check.due("one is out", x.told(7), 1);
        Check.due("all deaf ones are left", x.told(9), 197);
        Check.due("the other is out", x.crowd(1, 6), 1);
    }

    private static void tune() {
        Check.says("what = 0 S, 1 R, 2 CROWDS that would follow it now (a SET). UNKNOWN, OUTSIDE.");
        StringBuilder text = new StringBuilder("town 1 1;tune 7 0;tune 1 0;tune 4 20;");
        for (int c = 0; c < 6; c++) {
            text.append("crowd ").append(c % 3).append(" 0 0 1 1 0;");
        }
        HeardTunes x = Check.told(text.toString());
        Check.due("all six", x.tune(0, 2), 63);
        Check.due("of KIND 0", x.tune(1, 2), 9);
        Check.due("of KIND 2", x.tune(2, 2), 36);
        Check.due("tune(3, 0)", x.tune(3, 0), UNKNOWN);
        Check.due("tune(2, 3)", x.tune(2, 3), OUTSIDE);
        HeardTunes none = Check.told("town 1 1;tune 7 0;");
        Check.due("no crowds", none.tune(0, 2), 0);
        Check.due("tune(1, 0)", none.tune(1, 0), UNKNOWN);
    }

    private static void tuneReach() {
        Check.says("from whose CELL it is R or less FAR to him");
        for (int r = 0; r <= 6; r++) {
            for (int away = 0; away <= 8; away++) {
                HeardTunes x = Check.told("town 9 1;crowd 0 0 0 5 1 0;tune 1 " + r + ";piper " + away + " 0;");
                Check.due(away + " far, heard " + r + " far", x.tune(0, 2), away <= r ? 1 : 0);
            }
        }
        HeardTunes shut = Check.told("town 3 1;wall 1 0;crowd 0 0 0 5 1 0;tune 1 20;piper 2 0;");
        Check.due("no way, however far it is heard", shut.tune(0, 2), 0);
        HeardTunes onWall = Check.told("town 2 1;wall 0 0;wall 1 0;tune 7 20;");
        Check.due("a piper on a wall", onWall.tune(0, 2), 0);
    }

    private static void waysBesideOnly() {
        Check.says("A WAY goes from CELL to CELL beside it (north Y less 1, east X and 1, south, west), never on walls");
        HeardTunes x = Check.told("town 3 3;");
        Check.due("not across corners", x.far(0, 0, 1, 1), 2);
        Check.due("not from a row's end to the next row", x.far(2, 0, 0, 1), 3);
        Check.due("not round the edge", x.far(0, 0, 2, 0), 2);
        Check.due("not round the edge", x.far(0, 0, 0, 2), 2);
        HeardTunes walled = Check.told("town 3 3;wall 1 0;wall 1 1;");
        Check.due("round the walls", walled.far(0, 0, 2, 0), 6);
        HeardTunes wet = Check.told("town 3 1;water 1 0;");
        Check.due("over water", wet.far(0, 0, 2, 0), 2);
        HeardTunes gate = Check.told("town 3 1;gate 1 0;");
        Check.due("through a gate", gate.far(0, 0, 2, 0), 2);
    }

    private static void far() {
        Check.says("FAR is the fewest steps of one (0 from a CELL, also a wall, to itself); NONE: there is none (also from a wall, to a wall).");
        HeardTunes x = Check.told("town 3 2;wall 1 0;water 2 0;gate 2 1;");
        Check.due("a cell to itself", x.far(0, 0, 0, 0), 0);
        Check.due("a wall to itself", x.far(1, 0, 1, 0), 0);
        Check.due("water to itself", x.far(2, 0, 2, 0), 0);
        Check.due("a gate to itself", x.far(2, 1, 2, 1), 0);
        Check.due("from a wall", x.far(1, 0, 0, 0), NONE);
        Check.due("to a wall", x.far(0, 0, 1, 0), NONE);
        Check.due("round the wall", x.far(0, 0, 2, 0), 4);
        x.wall(1, 1, true);
        Check.due("shut off", x.far(0, 0, 2, 0), NONE);
        Check.due("from wall to wall beside it", x.far(1, 0, 1, 1), NONE);
        HeardTunes one = Check.told("town 1 1;wall 0 0;");
        Check.due("a wall alone", one.far(0, 0, 0, 0), 0);
        farOfNoCell();
        farInTheOpen();
    }

    private static void farInTheOpen() {
        Check.says("FAR is the fewest steps of one");
        int[][] froms = {{0, 0}, {6, 5}, {3, 2}};
        for (int[] from : froms) {
            HeardTunes x = Check.told("town 7 6;");
            for (int i = 0; i < 42; i++) {
                int due = Math.abs(from[0] - i % 7) + Math.abs(from[1] - i / 7);
                Check.due("to " + i % 7 + " " + i / 7, x.far(from[0], from[1], i % 7, i / 7), due);
                Check.due("from " + i % 7 + " " + i / 7, x.far(i % 7, i / 7, from[0], from[1]), due);
            }
        }
    }

    private static void farOfNoCell() {
        Check.says("`int far(int x, int y, int toX, int toY)`: FAR. UNKNOWN.");
        HeardTunes x = Check.told("town 3 2;");
        int[][] not = {{-1, 0}, {3, 0}, {0, -1}, {0, 2}};
        for (int[] at : not) {
            Check.due("from " + at[0] + " " + at[1], x.far(at[0], at[1], 0, 0), UNKNOWN);
            Check.due("to " + at[0] + " " + at[1], x.far(0, 0, at[0], at[1]), UNKNOWN);
            Check.due("from and to " + at[0] + " " + at[1], x.far(at[0], at[1], at[0], at[1]), UNKNOWN);
        }
        Check.due("from corner to corner", x.far(2, 1, 0, 0), 3);
    }

    private static void farAtItsMost() {
        Check.says("heard R CELLS far, 0 .. 20)");
        HeardTunes x = Check.told(Texts.SNAKE);
        Check.due("to the end of the snake", x.far(0, 0, 6, 5), 23);
        Check.due("and back", x.far(6, 5, 0, 0), 23);
        Check.due("20 far", x.far(0, 0, 4, 4), 20);
        Check.due("21 far", x.far(0, 0, 5, 4), 21);
        HeardTunes near = Check.told(Texts.SNAKE + "crowd 0 0 0 9 1 0;tune 1 20;piper 4 4;");
        Check.due("20 far is heard", near.tune(0, 2), 1);
        near.minute(0, 0);
        Check.due("they come", near.crowd(0, 4), 10);
        HeardTunes beyond = Check.told(Texts.SNAKE + "crowd 0 0 0 9 1 0;tune 1 20;piper 5 4;");
        Check.due("21 far is not", beyond.tune(0, 2), 0);
        beyond.minute(0, 0);
        Check.due("they stay", beyond.crowd(0, 4), 0);
        Check.due("without a goal", beyond.crowd(0, 5), NONE);
    }

    private static void stepsOffTheTown() {
        Check.says("the piper stays (0) or STEPS (1 .. 4, as told: not off the town, on walls, water)");
        HeardTunes one = Check.told("town 1 1;");
        for (int step = 1; step <= 4; step++) {
            Check.due("STEP " + step + " in one cell", one.minute(step, NONE), NOT);
        }
        Check.due("he may stay", one.minute(0, NONE), 0);
        int[][] corners = {{0, 0}, {2, 0}, {0, 2}, {2, 2}};
        for (int[] at : corners) {
            boolean[] may = {true, at[1] > 0, at[0] < 2, at[1] < 2, at[0] > 0};
            int[] to = {10 * at[0] + at[1], 10 * at[0] + at[1] - 1, 10 * at[0] + 10 + at[1], 10 * at[0] + at[1] + 1, 10 * at[0] - 10 + at[1]};
            for (int step = 0; step <= 4; step++) {
                HeardTunes x = Check.told("town 3 3;piper " + at[0] + " " + at[1] + ";");
                Check.due("STEP " + step + " from " + at[0] + " " + at[1], x.minute(step, NONE), may[step] ? to[step] : NOT);
                Check.due("its minute", x.told(5), may[step] ? 1 : 0);
            }
        }
    }

    private static void stepsOnWallsWater() {
        Check.says("not off the town, on walls, water)");
        String[] spots = {"wall", "water", "gate"};
        int[][] sides = {{1, 0}, {2, 1}, {1, 2}, {0, 1}};
        for (int spot = 0; spot < 3; spot++) {
            for (int step = 1; step <= 4; step++) {
                int[] at = sides[step - 1];
                HeardTunes x = Check.told("town 3 3;" + spots[spot] + " " + at[0] + " " + at[1] + ";piper 1 1;");
                Check.due("STEP " + step + " on " + spots[spot], x.minute(step, NONE), spot == 2 ? 10 * at[0] + at[1] : NOT);
            }
        }
        HeardTunes walled = Check.told("town 3 1;piper 0 0;");
        walled.wall(1, 0, true);
        Check.due("on a wall that came later", walled.minute(2, NONE), NOT);
        walled.wall(1, 0, false);
        Check.due("where a wall went", walled.minute(2, NONE), 10);
    }

    private static void minuteTunes() {
        Check.says("A MINUTE (t = NONE: no TUNE): where the piper is (10 times X and Y).");
        for (int tunes = 0; tunes <= 3; tunes++) {
            HeardTunes x = Check.told("town 2 1;" + "tune 7 20;".repeat(tunes));
            Check.due("no tune", x.minute(0, NONE), 0);
            Check.due("a tune too many", x.minute(0, tunes), UNKNOWN);
            Check.due("t = -2", x.minute(0, -2), UNKNOWN);
            for (int t = 0; t < tunes; t++) {
                Check.due("tune " + t, x.minute(0, t), 0);
            }
            Check.due("minutes", x.told(5), 1 + tunes);
        }
        HeardTunes quiet = Check.told("town 2 1;crowd 0 0 0 9 1 0;tune 1 20;piper 1 0;");
        quiet.minute(0, NONE);
        Check.due("nobody follows no tune", quiet.crowd(0, 4), 0);
    }

    private static void heardRFar() {
        Check.says("has his CELL as its GOAL");
        HeardTunes x = Check.told("town 9 1;crowd 0 0 0 5 1 0;tune 1 3;tune 1 4;piper 4 0;");
        x.minute(0, 0);
        Check.due("four far is one too far", x.crowd(0, 5), NONE);
        x.minute(0, 1);
        Check.due("four far is heard", x.crowd(0, 5), 40);
        HeardTunes steps = Check.told("town 9 1;crowd 0 0 0 5 1 0;tune 1 3;piper 4 0;");
        steps.minute(4, 0);
        Check.due("he steps first: three far then", steps.crowd(0, 5), 30);
        HeardTunes away = Check.told("town 9 1;crowd 0 0 0 5 1 0;tune 1 3;piper 3 0;");
        away.minute(2, 0);
        Check.due("he steps first: four far then", away.crowd(0, 5), NONE);
    }

    private static void heardByKinds() {
        Check.says("each CROWD of a KIND that follows it");
        for (int s = 1; s <= 7; s++) {
            HeardTunes x = Check.told("town 9 1;crowd 0 0 0 1 1 0;crowd 1 0 0 1 1 0;crowd 2 0 0 1 1 0;tune " + s + " 20;piper 8 0;");
            x.minute(0, 0);
            for (int k = 0; k < 3; k++) {
                Check.due("KIND " + k + " and the SET " + s, x.crowd(k, 4), (s >> k & 1) == 1 ? 10 : 0);
            }
        }
    }

    private static void oneFollower() {
        Check.says("Each CROWD has FOLLOWERS (N less D at first) and deaf ones");
        for (int d = 0; d <= 3; d++) {
            HeardTunes x = Check.told("town 2 1;gate 1 0;crowd 0 0 0 3 1 " + d + ";tune 1 20;piper 0 0;");
            x.minute(2, 0);
            Check.due(d + " deaf: OUT", x.told(7), 3 - d);
            Check.due(d + " deaf: LEFT", x.told(9), d);
            Check.due(d + " deaf: crowd(0, 6)", x.crowd(0, 6), d < 3 ? 1 : 0);
        }
    }

    private static void paces() {
        Check.says("then CROWDS that have one STEP up to P times");
        for (int p = 1; p <= 3; p++) {
            for (int away = 0; away <= 5; away++) {
                HeardTunes x = Check.told("town 6 1;crowd 0 0 0 5 " + p + " 0;tune 1 20;piper " + away + " 0;");
                x.minute(0, 0);
                Check.due("PACE " + p + ", " + away + " far: where", x.crowd(0, 4), 10 * Math.min(p, away));
                Check.due("PACE " + p + ", " + away + " far: the goal", x.crowd(0, 5), away <= p ? NONE : 10 * away);
            }
        }
    }

    private static void firstCell() {
        Check.says("each time to the first CELL (north, east, south, west) from which it is one less FAR to the GOAL;");
        // Of the nine cells where he can be: the first of the one or two that are one less far.
        int[] due = {10, 10, 10, 1, 11, 21, 12, 12, 21};
        for (int i = 0; i < 9; i++) {
            HeardTunes x = Check.told("town 3 3;crowd 0 1 1 5 1 0;tune 1 20;piper " + i % 3 + " " + i / 3 + ";");
            x.minute(0, 0);
            Check.due("to " + i % 3 + " " + i / 3, x.crowd(0, 4), due[i]);
        }
        HeardTunes walled = Check.told("town 3 3;wall 1 0;crowd 0 1 1 5 1 0;tune 1 20;piper 2 0;");
        walled.minute(0, 0);
        Check.due("not on a wall", walled.crowd(0, 4), 21);
        HeardTunes wet = Check.told("town 3 3;water 1 0;crowd 0 1 1 5 1 0;tune 1 20;piper 2 0;");
        wet.minute(0, 0);
        Check.due("on water, though a dry way is as short", wet.crowd(0, 6), 2);
        HeardTunes round = Check.told("town 3 3;wall 1 0;wall 2 1;crowd 0 1 1 5 3 0;tune 1 20;piper 2 0;");
        round.minute(0, 0);
        Check.due("no way: no step", round.crowd(0, 4), 11);
    }

    private static void firstCellEachTime() {
        Check.says("each time to the first CELL");
        int[] due = {0, 31, 30, 40};
        for (int p = 1; p <= 3; p++) {
            HeardTunes x = Check.told("town 5 3;crowd 0 3 2 5 " + p + " 0;tune 1 20;piper 4 0;");
            x.minute(0, 0);
            Check.due("north twice, then east: PACE " + p, x.crowd(0, 4), due[p]);
        }
    }

    private static void togetherOnOneCell() {
        Check.says("FOLLOWERS are together on one CELL; they have a GOAL, or none (at first).");
        HeardTunes x = Check.told("town 5 1;crowd 0 0 0 99 1 1;crowd 0 0 0 99 2 0;crowd 1 2 0 1 1 0;tune 1 20;piper 4 0;");
        for (int c = 0; c < 3; c++) {
            Check.due("no goal at first", x.crowd(c, 5), NONE);
        }
        x.minute(0, 0);
        Check.due("98 of 99", x.crowd(0, 4), 10);
        Check.due("as far as their pace", x.crowd(1, 4), 20);
        Check.due("crowds may share a cell", x.crowd(2, 4), 20);
    }

    private static void atTheGoal() {
        Check.says("who is at the GOAL has none any more");
        // Beside the goal there are walls: from them it is not less far than from the goal itself.
        HeardTunes x = Check.told("town 3 3;wall 1 0;wall 2 1;wall 1 2;wall 0 1;crowd 0 1 1 5 3 0;tune 1 0;piper 1 1;");
        x.minute(0, 0);
        Check.due("shut in at the goal they stay", x.crowd(0, 4), 11);
        Check.due("and have none", x.crowd(0, 5), NONE);
        HeardTunes shut = Check.told("town 4 1;crowd 0 0 0 5 1 0;tune 1 20;piper 3 0;");
        shut.minute(0, 0);
        shut.wall(2, 0, true);
        shut.minute(0, NONE);
        Check.due("no cell is less far: they stay", shut.crowd(0, 4), 10);
        Check.due("and have it still", shut.crowd(0, 5), 30);
        shut.wall(2, 0, false);
        shut.minute(0, NONE);
        shut.minute(0, NONE);
        Check.due("there", shut.crowd(0, 4), 30);
        Check.due("and none any more", shut.crowd(0, 5), NONE);
    }

    private static void drownedOnTheWay() {
        Check.says("there on water they are DROWNED, at a gate they are OUT (no GOAL, no more STEPS for them, nothing more to hear)");
        for (int p = 1; p <= 3; p++) {
            HeardTunes x = Check.told("town 6 1;water 1 0;crowd 0 0 0 5 " + p + " 1;tune 1 20;piper 5 0;");
            x.minute(0, 0);
            Check.due("PACE " + p + ": no step more", x.crowd(0, 4), 10);
            Check.due("no goal", x.crowd(0, 5), NONE);
            Check.due("drowned", x.crowd(0, 6), 2);
            Check.due("nothing more to hear", x.tune(0, 2), 0);
            x.minute(0, 0);
            Check.due("they stay", x.crowd(0, 4), 10);
            Check.due("DROWNED", x.told(8), 4);
            Check.due("LEFT", x.told(9), 1);
        }
    }

    private static void outOnTheWay() {
        Check.says("at a gate they are OUT (no GOAL, no more STEPS for them, nothing more to hear)");
        for (int p = 1; p <= 3; p++) {
            HeardTunes x = Check.told("town 6 1;gate 1 0;water 2 0;crowd 0 0 0 5 " + p + " 1;tune 1 20;piper 5 0;");
            x.minute(0, 0);
            Check.due("PACE " + p + ": no step more", x.crowd(0, 4), 10);
            Check.due("no goal", x.crowd(0, 5), NONE);
            Check.due("out", x.crowd(0, 6), 1);
            Check.due("nothing more to hear", x.tune(0, 2), 0);
            x.minute(0, 0);
            Check.due("they stay", x.crowd(0, 4), 10);
            Check.due("OUT", x.told(7), 4);
            Check.due("LEFT", x.told(9), 1);
        }
    }

    private static void minutesAreCounted() {
        Check.says("MINUTES are counted.");
        HeardTunes x = Check.told("town 1 1;");
        Check.due("none at first", x.told(5), 0);
        for (int i = 1; i <= 40; i++) {
            x.minute(0, NONE);
            x.minute(1, NONE);
            Check.due("those that were, not those refused", x.told(5), i);
        }
        for (int i = 1; i <= 60; i++) {
            x.drift(99);
            Check.due("by drift", x.told(5), 40 + 99 * i);
        }
    }

    private static void worth() {
        Check.says("LEFT: HEADS that are neither OUT nor DROWNED. WORTH: V times HEADS OUT less F times HEADS DROWNED.");
        HeardTunes x = Check.told("town 5 1;gate 0 0;water 4 0;crowd 0 1 0 10 1 3;crowd 1 3 0 20 1 5;tune 1 20;tune 2 20;piper 2 0;pay 3 2;");
        Check.due("at first", x.told(10), 0);
        Check.due("LEFT at first", x.told(9), 30);
        x.minute(4, NONE);
        x.minute(4, 0);
        Check.due("seven out", x.told(10), 21);
        Check.due("LEFT", x.told(9), 23);
        HeardTunes wet = Check.told("town 3 2;gate 0 0;water 1 1;wall 2 0;crowd 0 1 0 10 1 3;crowd 1 2 1 20 1 5;tune 1 20;tune 2 20;piper 1 0;pay 3 2;");
        wet.minute(4, 0);
        wet.minute(0, 1);
        Check.due("seven out, fifteen drowned", wet.told(10), 21 - 30);
        Check.due("LEFT", wet.told(9), 8);
    }

    private static void walls() {
        Check.says("A wall on a free CELL, or none on a wall: 1 there was one, 0 there was none.");
        HeardTunes x = Check.told("town 2 1;piper 0 0;");
        Check.due("none where there is none", x.wall(1, 0, false), 0);
        Check.due("it is free", x.cell(1, 0), 0);
        Check.due("one where there is none", x.wall(1, 0, true), 0);
        Check.due("it is a wall", x.cell(1, 0), 1);
        Check.due("one where there is one", x.wall(1, 0, true), 1);
        Check.due("it is a wall", x.cell(1, 0), 1);
        Check.due("none where there is one", x.wall(1, 0, false), 1);
        Check.due("it is free", x.cell(1, 0), 0);
        HeardTunes all = Check.told("town 7 6;");
        for (int i = 1; i < 42; i++) {
            Check.due("more walls than a text may tell", all.wall(i % 7, i / 7, true), 0);
        }
        Check.due("but for the piper's cell", all.wall(0, 0, true), NOT);
        Check.due("the last", all.cell(6, 5), 1);
    }

    private static void wallNot() {
        Check.says("UNKNOWN, NOT: it is water, a gate; FOLLOWERS who are here, the piper are there (either way).");
        HeardTunes x = Check.told("town 3 2;water 0 0;gate 1 0;crowd 0 2 0 2 1 1;crowd 0 0 1 2 1 2;piper 1 1;tune 1 20;");
        for (boolean is : new boolean[] {true, false}) {
            Check.due("water", x.wall(0, 0, is), NOT);
            Check.due("a gate", x.wall(1, 0, is), NOT);
            Check.due("one follower", x.wall(2, 0, is), NOT);
            Check.due("the piper", x.wall(1, 1, is), NOT);
            Check.due("a cell that there is not", x.wall(3, 0, is), UNKNOWN);
        }
        Check.due("deaf ones alone do not hinder it", x.wall(0, 1, true), 0);
        Check.due("a piper put on a wall", Check.told("town 1 1;wall 0 0;").wall(0, 0, false), NOT);
    }

    private static void wallWhereTheyWere() {
        Check.says("FOLLOWERS who are here, the piper are there (either way)");
        HeardTunes x = Check.told("town 4 1;crowd 0 0 0 2 1 1;tune 1 20;piper 2 0;");
        Check.due("where they are", x.wall(0, 0, true), NOT);
        Check.due("where he is", x.wall(2, 0, true), NOT);
        x.minute(2, 0);
        Check.due("where they were, and a deaf one is", x.wall(0, 0, true), 0);
        Check.due("where they are now", x.wall(1, 0, true), NOT);
        Check.due("where he was", x.wall(2, 0, true), 0);
        Check.due("where he is now", x.wall(3, 0, true), NOT);
    }

    private static void driftBounds() {
        Check.says("n MINUTES (1 .. 99) BY DRAWS: LEFT.");
        HeardTunes x = Check.told("town 3 3;crowd 0 0 0 99 1 0;crowd 0 2 2 98 1 98;");
        Check.due("drift(0)", x.drift(0), OUTSIDE);
        Check.due("drift(100)", x.drift(100), OUTSIDE);
        Check.due("no minute yet", x.told(5), 0);
        Check.due("no draw yet", x.seed(0), 0);
        Check.due("drift(1)", x.drift(1), 197);
        Check.due("one minute", x.told(5), 1);
        Check.due("drift(99)", x.drift(99), 197);
        Check.due("a hundred minutes", x.told(5), 100);
        HeardTunes single = Check.told("town 3 3;");
        for (int i = 0; i < 100; i++) {
            single.drift(1);
        }
        Check.due("one by one he comes to the same cell", single.told(6), x.told(6));
        Check.due("by the same draws", single.seed(0), x.seed(0));
    }

    private static void driftStays() {
        Check.says("a DRAW of 5 is the STEP (0, if it may not be)");
        HeardTunes one = Check.told("town 1 1;crowd 0 0 0 5 1 0;tune 1 20;");
        Check.due("he may step nowhere", one.drift(99), 5);
        Check.due("he is where he was", one.told(6), 0);
        Check.due("all minutes pass", one.told(5), 99);
        HeardTunes wall = Check.told("town 1 1;wall 0 0;");
        Check.due("also on a wall", wall.drift(99), 0);
        Check.due("he is where he was", wall.told(6), 0);
        HeardTunes shut = Check.told("town 3 3;wall 1 0;water 2 1;wall 1 2;water 0 1;piper 1 1;");
        shut.drift(99);
        Check.due("walls and water all round", shut.told(6), 11);
    }

    private static void driftTunes() {
        Check.says("a DRAW of how many TUNES there are and 1 the TUNE (the last number: none).");
        for (int tunes = 0; tunes <= 3; tunes++) {
            String text = "town 9 1;crowd 0 0 0 5 1 0;piper 8 0;" + "tune 1 20;".repeat(tunes);
            for (int first = 0; first < 40; first++) {
                HeardTunes x = Check.told(text);
                x.seed(first * 65536 * 101);
                long seed = next(next(first * 65536 * 101));
                x.drift(1);
                boolean played = seed / 65536 % (tunes + 1) < tunes;
                Check.due(tunes + " tunes, first seed " + first, x.crowd(0, 4), played ? 10 : 0);
                Check.due("the seed behind two draws", x.seed(0), seed);
            }
        }
    }

    private static long next(long seed) {
        return (seed * 1103515245L + 12345L) % 2147483648L;
    }
}
