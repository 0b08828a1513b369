/** Section 1 and promises 1 to 4: each bound of the text from both sides, each fault at its byte. */
public final class TextBoundsTest {
    private static final int NONE = Check.NONE, UNKNOWN = Check.UNKNOWN, OUTSIDE = Check.OUTSIDE, NOT = Check.NOT, FULL = Check.FULL;
    private static final String[] SPOTS = {"wall", "water", "gate"};
    private static final String WHOLE = "town 5 4;wall 2 0;water 2 3;gate 4 3;crowd 0 0 0 20 2 3;tune 1 14;piper 1 2;pay 31 22;";

    public static void main(String[] args) {
        newObject();
        feedBounds();
        feedFull();
        feedOrder();
        longestText();
        townSizes();
        spotBounds();
        thirtySpots();
        eachCellOnce();
        crowdBounds();
        sixCrowds();
        tuneBounds();
        threeTunes();
        piper();
        piperUntold();
        pay();
        figures();
        letters();
        blanks();
        sideBySide();
        cutAnywhere();
        spoiltAnywhere();
        otherBytes();
        otherWordFirst();
        numberFaults();
        again();
        taken();
        firstByte();
        least();
        asTheyCome();
        emptyText();
        townForgets();
        oldTextIsGone();
        lastCell();
        faultKeeps();
        faultOfTheLatest();
        Check.end("TextBoundsTest");
    }

    private static void newObject() {
        Check.says("`HeardTunes()`: No CELLS.");
        HeardTunes x = new HeardTunes();
        for (int what = 0; what <= 12; what++) {
            Check.due("told(" + what + ")", x.told(what), 0);
        }
        Check.due("cell(0, 0)", x.cell(0, 0), UNKNOWN);
        Check.due("fault()", x.fault(), NONE);
        Check.due("seed(0)", x.seed(0), 0);
        Check.due("goBack(0)", x.goBack(0), NOT);
        Check.due("goBack(1)", x.goBack(1), NOT);
    }

    private static void feedBounds() {
        Check.says("The n lowest bytes (n 1 .. 8) of a long");
        HeardTunes x = new HeardTunes();
        int sum = 0;
        for (int n = 1; n <= 8; n++) {
            sum += n;
            Check.due("feed(" + n + ")", x.feed(n, 0), sum);
        }
        Check.due("feed(0)", x.feed(0, 0), OUTSIDE);
        Check.due("feed(9)", x.feed(9, 0), OUTSIDE);
        Check.due("told(4)", x.told(4), sum);
    }

    private static void feedFull() {
        Check.says("OUTSIDE, FULL (500).");
        for (int n = 1; n <= 8; n++) {
            HeardTunes x = new HeardTunes();
            Check.feed(x, " ".repeat(500 - n));
            if (n < 8) {
                Check.due("a byte too many", x.feed(n + 1, 0), FULL);
            }
            Check.due("told(4) as it was", x.told(4), 500 - n);
            Check.due("feed(" + n + ") up to 500", x.feed(n, 0x2020202020202020L), 500);
            Check.due("feed(1) at 500", x.feed(1, 32), FULL);
            Check.due("feed(8) at 500", x.feed(8, 32), FULL);
            Check.due("told(4) at 500", x.told(4), 500);
        }
    }

    private static void feedOrder() {
        Check.says("the highest of these first, come behind THE TEXT: how many it has.");
        byte[] text = "town 2 1;gate 1 0;".getBytes(java.nio.charset.StandardCharsets.US_ASCII);
        for (int n = 1; n <= 8; n++) {
            HeardTunes x = new HeardTunes();
            for (int from = 0; from < text.length; from += n) {
                int count = Math.min(n, text.length - from);
                // The bytes above are ones: they must not come into the text.
                long packed = -1L;
                for (int i = 0; i < count; i++) {
                    packed = packed << 8 | text[from + i];
                }
                Check.due("feed(" + count + ")", x.feed(count, packed), from + count);
            }
            Check.due("town() of pieces of " + n, x.town(), 2);
            Check.due("its gate", x.cell(1, 0), 3);
        }
    }

    private static void longestText() {
        Check.says("(500 bytes at most)");
        Check.fine(" ".repeat(491) + "town 1 1;", 1);
        Check.fine("town 1 1;" + " ".repeat(491), 1);
        Check.faulty("town 1 1;" + " ".repeat(490) + "x", 1, 499);
        Check.faulty("town 1 1" + " ".repeat(492), 1, 500);
    }

    private static void townSizes() {
        Check.says("W, H 1 .. 9, 42 CELLS at most");
        for (int w = 0; w <= 11; w++) {
            for (int h = 0; h <= 11; h++) {
                String text = "town " + w + " " + h + ";";
                if (w < 1 || w > 9) {
                    Check.faulty(text, 2, 5);
                } else if (h < 1 || h > 9 || w * h > 42) {
                    Check.faulty(text, 2, text.length() - 1 - String.valueOf(h).length());
                } else {
                    townOf(text, w, h);
                }
            }
        }
    }

    private static void townOf(String text, int w, int h) {
        HeardTunes x = new HeardTunes();
        Check.due(text, Check.tell(x, text), w * h);
        Check.due(text + " W", x.told(0), w);
        Check.due(text + " H", x.told(1), h);
        Check.due(text + " the last cell", x.cell(w - 1, h - 1), 0);
        Check.due(text + " behind it", x.cell(w, h - 1), UNKNOWN);
        Check.due(text + " below it", x.cell(w - 1, h), UNKNOWN);
    }

    private static void spotBounds() {
        Check.says("(CELLS X 0 .. W less 1, Y 0 .. H less 1;");
        for (int i = 0; i < 3; i++) {
            String begin = "town 4 3;" + SPOTS[i] + " ";
            for (int[] at : new int[][] {{0, 0}, {3, 0}, {0, 2}, {3, 2}}) {
                HeardTunes x = Check.told(begin + at[0] + " " + at[1] + ";");
                Check.due(SPOTS[i] + " in a corner", x.cell(at[0], at[1]), i + 1);
            }
            Check.faulty(begin + "4 0;", 2, begin.length());
            Check.faulty(begin + "0 3;", 2, begin.length() + 2);
            Check.faulty(begin + "-1 0;", 1, begin.length());
            Check.faulty(begin + "0 -1;", 1, begin.length() + 2);
            Check.faulty(begin + "0;", 1, begin.length() + 1);
            Check.faulty(begin + "0 0 0;", 1, begin.length() + 4);
        }
        Check.faulty("town 4 3;crowd 0 4 0 1 1 0;", 2, 17);
        Check.faulty("town 4 3;crowd 0 3 3 1 1 0;", 2, 19);
        Check.fine("town 4 3;crowd 0 3 2 1 1 0;piper 3 2;", 12);
        Check.faulty("town 4 3;piper 4 2;", 2, 15);
        Check.faulty("town 4 3;piper 3 3;", 2, 17);
    }

    private static void thirtySpots() {
        Check.says("(30 at most of all three;");
        for (int kind = 0; kind < 4; kind++) {
            // Of one sort alone, then of all three in turn.
            StringBuilder text = new StringBuilder("town 8 5;");
            for (int i = 0; i < 30; i++) {
                text.append(SPOTS[kind < 3 ? kind : i % 3]).append(i % 8).append(' ').append(i / 8).append(';');
            }
            Check.fine(text.toString(), 40);
            for (String more : SPOTS) {
                Check.faulty(text + more + " 7 4;", 3, text.length());
            }
            Check.fine(text + "tune 1 1;crowd 0 7 4 1 1 0;piper 7 4;pay 1 1;", 40);
        }
    }

    private static void eachCellOnce() {
        Check.says("each CELL is one of them once at most)");
        for (String one : SPOTS) {
            for (String two : SPOTS) {
                String begin = "town 3 3;" + one + " 2 1;" + two + " ";
                Check.faulty(begin + "2 1;", 4, begin.length() + 2);
                Check.fine(begin + "1 2;", 9);
            }
        }
    }

    private static void crowdBounds() {
        Check.says("(6 CROWDS at most: of KIND K 0 .. 2, on a CELL that is none of these; N HEADS 1 .. 99; PACE P 1 .. 3; "
            + "D of the HEADS are deaf, 0 .. N)");
        crowdOf(0, 1, 1, 0);
        crowdOf(2, 99, 3, 99);
        crowdOf(1, 50, 2, 49);
        crowdOf(0, 1, 1, 1);
        String begin = "town 2 2;crowd ";
        Check.faulty(begin + "3 0 0 1 1 0;", 2, 15);
        Check.faulty(begin + "0 0 0 0 1 0;", 2, 21);
        Check.faulty(begin + "0 0 0 100 1 0;", 2, 21);
        Check.faulty(begin + "0 0 0 1 0 0;", 2, 23);
        Check.faulty(begin + "0 0 0 1 4 0;", 2, 23);
        Check.faulty(begin + "0 0 0 1 1 2;", 2, 25);
        Check.faulty(begin + "0 0 0 98 3 99;", 2, 26);
        Check.faulty(begin + "0 0 0 99 3 100;", 2, 26);
        Check.faulty(begin + "0 0 0 1 1;", 1, 24);
        Check.faulty(begin + "0 0 0 1 1 0 0;", 1, 27);
    }

    private static void crowdOf(int k, int n, int p, int d) {
        HeardTunes x = Check.told("town 2 2;crowd " + k + " 1 1 " + n + " " + p + " " + d + ";");
        int[] due = {k, n, p, d, 11, NONE, 0};
        for (int what = 0; what < due.length; what++) {
            Check.due("crowd(0, " + what + ")", x.crowd(0, what), due[what]);
        }
        Check.due("LEFT", x.told(9), n);
    }

    private static void sixCrowds() {
        Check.says("a seventh 'crowd'");
        StringBuilder text = new StringBuilder("town 1 1;");
        for (int c = 0; c < 6; c++) {
            text.append("crowd ").append(c % 3).append(" 0 0 ").append(c + 1).append(" 1 0;");
        }
        HeardTunes x = Check.told(text.toString());
        Check.due("six", x.told(2), 6);
        Check.due("the sixth", x.crowd(5, 1), 6);
        Check.due("a seventh there is not", x.crowd(6, 1), UNKNOWN);
        Check.faulty(text + "crowd 0 0 0 1 1 0;", 3, text.length());
        Check.faulty(text + "  crowd 9", 3, text.length() + 2);
    }

    private static void tuneBounds() {
        Check.says("a SET of KINDS S 1 .. 7 follows; heard R CELLS far, 0 .. 20)");
        for (int s = 1; s <= 7; s++) {
            for (int r : new int[] {0, 1, 20}) {
                HeardTunes x = Check.told("town 2 2;tune " + s + " " + r + ";");
                Check.due("S", x.tune(0, 0), s);
                Check.due("R", x.tune(0, 1), r);
            }
        }
        Check.faulty("town 2 2;tune 0 1;", 2, 14);
        Check.faulty("town 2 2;tune 8 1;", 2, 14);
        Check.faulty("town 2 2;tune 1 21;", 2, 16);
        Check.faulty("town 2 2;tune 7;", 1, 15);
        Check.faulty("town 2 2;tune 7 0 0;", 1, 18);
    }

    private static void threeTunes() {
        Check.says("(3 TUNES at most: a SET of KINDS S 1 .. 7 follows;");
        String three = "town 2 2;tune 1 1;tune 2 2;tune 3 3;";
        HeardTunes x = Check.told(three);
        Check.due("three", x.told(3), 3);
        Check.due("the third", x.tune(2, 0), 3);
        Check.due("a fourth there is not", x.tune(3, 0), UNKNOWN);
        Check.faulty(three + "tune 4 4;", 3, three.length());
    }

    private static void piper() {
        Check.says("(on a CELL that is none of these; untold: the first such one, Y by Y, X rising; 0 0, if there is none; once)");
        for (int[] at : new int[][] {{0, 0}, {3, 0}, {0, 2}, {3, 2}}) {
            HeardTunes x = Check.told("town 4 3;piper " + at[0] + " " + at[1] + ";");
            Check.due("in a corner", x.told(6), 10 * at[0] + at[1]);
        }
        for (String spot : SPOTS) {
            Check.faulty("town 4 3;" + spot + " 3 2;piper 3 2;", 4, 22 + spot.length());
        }
        Check.fine("town 4 3;crowd 0 3 2 1 1 0;piper 3 2;", 12);
        Check.faulty("town 4 3;piper 0 0;piper 1 1;", 3, 19);
    }

    private static void piperUntold() {
        Check.says("untold: the first such one, Y by Y, X rising; 0 0, if there is none;");
        StringBuilder text = new StringBuilder("town 6 5;");
        for (int i = 0; i < 30; i++) {
            Check.due("behind " + i + " spots", Check.told(text.toString()).told(6), 10 * (i % 6) + i / 6);
            text.append(SPOTS[i % 3]).append(' ').append(i % 6).append(' ').append(i / 6).append(';');
        }
        Check.due("no cell is free", Check.told(text.toString()).told(6), 0);
        Check.due("none of one", Check.told("town 1 1;gate 0 0;").told(6), 0);
        Check.due("none of one", Check.told("town 1 1;water 0 0;").told(6), 0);
        Check.due("none of one", Check.told("town 1 1;wall 0 0;").told(6), 0);
        Check.due("a crowd's cell is one", Check.told("town 3 1;wall 0 0;crowd 0 1 0 1 1 0;").told(6), 10);
        Check.due("what comes later counts", Check.told("town 3 1;crowd 0 2 0 1 1 0;wall 0 0;wall 1 0;").told(6), 20);
    }

    private static void pay() {
        Check.says("(V for a HEAD that is out, F to be paid for one that is drowned, 0 .. 99 both; 1 1 untold; once)");
        for (int[] vf : new int[][] {{0, 0}, {0, 99}, {99, 0}, {99, 99}}) {
            String pay = "pay " + vf[0] + " " + vf[1] + ";";
            Check.due("V of " + pay, worth("gate", pay), 7 * vf[0]);
            Check.due("F of " + pay, worth("water", pay), -7 * vf[1]);
        }
        Check.due("V untold", worth("gate", ""), 7);
        Check.due("F untold", worth("water", ""), -7);
        Check.faulty("town 1 1;pay 100 0;", 2, 13);
        Check.faulty("town 1 1;pay 0 100;", 2, 15);
        Check.faulty("town 1 1;pay 0 0;pay 0 0;", 3, 17);
        Check.faulty("town 1 1;pay 0;", 1, 14);
    }

    /** What seven heads are worth who meet a gate or water on their first step. */
    private static int worth(String spot, String pay) {
        HeardTunes x = Check.told("town 3 1;" + spot + " 1 0;crowd 0 0 0 9 1 2;tune 1 2;piper 2 0;" + pay);
        x.minute(0, 0);
        return x.told(10);
    }

    private static void figures() {
        Check.says("NUMBERS have one to three figures");
        Check.fine("town 3 03;", 9);
        Check.fine("town 003 3;", 9);
        Check.fine("town 3 3;crowd 000 001 002 099 003 000;tune 007 020;piper 001 001;pay 099 000;", 9);
        String[] before = {"town ", "town 3 ", "town 3 3;wall ", "town 3 3;water 0 ", "town 3 3;crowd ", "town 3 3;crowd 0 ",
            "town 3 3;crowd 0 0 ", "town 3 3;crowd 0 0 0 ", "town 3 3;crowd 0 0 0 1 ", "town 3 3;crowd 0 0 0 1 1 ",
            "town 3 3;tune ", "town 3 3;tune 1 ", "town 3 3;piper ", "town 3 3;piper 0 ", "town 3 3;pay ", "town 3 3;pay 0 "};
        for (String begin : before) {
            Check.faulty(begin + "0001", 2, begin.length());
            Check.faulty(begin + "0000000000000000000000001 ", 2, begin.length());
            Check.faulty(begin + "4294967297;", 2, begin.length());
            Check.faulty(begin + "18446744073709551617;", 2, begin.length());
            Check.faulty(begin + "999;", 2, begin.length());
            Check.faulty(begin + "01", 1, begin.length() + 2);
            Check.faulty(begin + "001", 1, begin.length() + 3);
        }
    }

    private static void letters() {
        Check.says("words are letters a .. z side by side");
        for (String bad : new String[] {"Wall", "walL", "wal", "walls", "walla", "wallz", "zwall", "wa1l", "w", "a", "z", "WALL", "townwall"}) {
            Check.faulty("town 3 3;" + bad + " 0 0;", 1, 9);
        }
        // The bytes beside a .. z are no letters: behind a word they cannot stand themselves.
        Check.faulty("town 3 3;wall` 0 0;", 1, 13);
        Check.faulty("town 3 3;wall{ 0 0;", 1, 13);
        Check.faulty("town 3 3;wall@ 0 0;", 1, 13);
        Check.faulty("town 3 3;`wall 0 0;", 1, 9);
        Check.faulty("town 3 3;{wall 0 0;", 1, 9);
    }

    private static void blanks() {
        Check.says("blanks (32) may stand anywhere but within words and NUMBERS");
        String[] tokens = {"town", "4", "3", ";", "wall", "0", "0", ";", "crowd", "2", "1", "0", "12", "2", "12", ";", "tune", "7", "20",
            ";", "piper", "3", "2", ";", "pay", "99", "0", ";"};
        for (int blanks = 1; blanks <= 3; blanks++) {
            String between = " ".repeat(blanks);
            Check.fine(between + String.join(between, tokens) + between, 12);
        }
        Check.fine("town4 3;wall0 0;crowd2 1 0 12 2 12;tune7 20;piper3 2;pay99 0;", 12);
        Check.faulty("tow n 4 3;", 1, 0);
        Check.faulty("t own 4 3;", 1, 0);
        Check.faulty("town 4 3;pa y 1 1;", 1, 9);
        Check.faulty("town 4 3;pay 1 1 1;", 1, 17);
        Check.faulty("town 1 0 1;", 2, 7);
    }

    private static void sideBySide() {
        Check.says("two words, two NUMBERS side by side need one.");
        Check.faulty("townwall 4 3;", 1, 0);
        Check.faulty("town43;", 2, 4);
        Check.faulty("town 11;", 2, 5);
        Check.faulty("town 4 3;wall 00;", 1, 16);
        Check.faulty("town 4 3;wallwall 0 0;", 1, 9);
        Check.faulty("town 4 3;tune 720;", 2, 14);
        Check.faulty("town 4 3;crowd 000110;", 2, 15);
    }

    private static void cutAnywhere() {
        Check.says("(the end at the text's length)");
        for (int cut = 1; cut < WHOLE.length(); cut++) {
            String text = WHOLE.substring(0, cut);
            int word = wordOpenAt(text);
            if (text.endsWith(";")) {
                Check.fine(text, 20);
            } else if (word != NONE && !endsBehindAWord(text)) {
                Check.faulty(text, 1, word);
            } else {
                Check.faulty(text, 1, cut);
                Check.faulty(text + "   ", 1, cut + 3);
            }
        }
    }

    /** Where the word begins in whose letters a text ends; NONE: it does not. */
    private static int wordOpenAt(String text) {
        int at = text.length();
        while (at > 0 && Character.isLetter(text.charAt(at - 1))) {
            at--;
        }
        return at == text.length() ? NONE : at;
    }

    private static boolean endsBehindAWord(String begin) {
        return !Character.isLetter(WHOLE.charAt(begin.length()));
    }

    private static void spoiltAnywhere() {
        Check.says("1 it cannot stand there (a word that cannot, another one first than 'town': at its first letter).");
        for (int at = 0; at < WHOLE.length(); at++) {
            String spoilt = WHOLE.substring(0, at) + "!" + WHOLE.substring(at + 1);
            int word = Character.isLetter(WHOLE.charAt(at)) ? wordOpenAt(WHOLE.substring(0, at)) : NONE;
            Check.faulty(spoilt, 1, word == NONE ? at : word);
        }
        Check.faulty("town 1 1;town1 1", 3, 9);
        Check.faulty("town 1 1;7", 1, 9);
        Check.faulty("town 1 1;;", 1, 9);
        Check.faulty("town wall", 1, 5);
        Check.faulty("town 1 wall", 1, 7);
        Check.faulty("town 1 1 wall", 1, 9);
        Check.faulty("town;", 1, 4);
        Check.faulty("town 1;", 1, 6);
        Check.faulty("town 1 1 1;", 1, 9);
    }

    private static void otherBytes() {
        Check.says("words are letters a .. z side by side; blanks (32)");
        for (int b = 0; b < 256; b++) {
            boolean letter = b >= 'a' && b <= 'z';
            boolean figure = b >= '0' && b <= '9';
            if (b == ' ') {
                Check.fine("town 1 1; " + (char) b, 1);
                Check.fine("town 1" + (char) b + "1;", 1);
            } else {
                Check.faulty("town 1 1; " + (char) b, 1, 10);
                if (!figure) {
                    Check.faulty("town 1" + (char) b + "1;", 1, 6);
                    Check.faulty("town " + (char) b + " 1;", 1, 5);
                }
                if (!letter) {
                    Check.faulty("" + (char) b, 1, 0);
                }
                if (b != ';') {
                    Check.faulty("town 1 1 " + (char) b, 1, 9);
                }
            }
        }
    }

    private static void otherWordFirst() {
        Check.says("another one first than 'town': at its first letter");
        for (String word : new String[] {"wall 0 0;", "water 0 0;", "gate 0 0;", "crowd 0 0 0 1 1 0;", "tune 1 1;", "piper 0 0;", "pay 1 1;"}) {
            Check.faulty(word, 1, 0);
            Check.faulty("  " + word + "town 1 1;", 1, 2);
        }
    }

    private static void numberFaults() {
        Check.says("2 a NUMBER of four figures or more, or out of its bounds; more than 42 CELLS (at the H).");
        Check.fine("town 7 6;", 42);
        Check.fine("town 6 7;", 42);
        Check.faulty("town 5 9;", 2, 7);
        Check.faulty("town 9 5;", 2, 7);
        Check.faulty("town 7 7;", 2, 7);
        Check.faulty("town 9   9;", 2, 9);
        Check.faulty("town 9 009;", 2, 7);
        Check.faulty("town 0 9999;", 2, 5);
    }

    private static void again() {
        Check.says("3 'town', 'piper', 'pay' again, a 31st 'wall', 'water', 'gate', a seventh 'crowd', a fourth 'tune' (at its first letter).");
        Check.faulty("town 1 1;town 1 1;", 3, 9);
        Check.faulty("town 1 1;  town", 3, 11);
        Check.faulty("town 2 2;piper 0 0;piper 9 9;", 3, 19);
        Check.faulty("town 2 2;pay 0 0;tune 1 1;pay", 3, 26);
        Check.fine("town 2 2;pay 0 0;piper 0 0;tune 1 1;tune 1 1;tune 1 1;crowd 0 0 0 1 1 0;crowd 0 0 0 1 1 0;", 4);
    }

    private static void taken() {
        Check.says("4 a CELL that is such a one already, or where a CROWD, the piper was told, for 'wall', 'water', 'gate'; "
            + "one of these for 'crowd', 'piper' (at the Y).");
        for (String spot : SPOTS) {
            Check.faulty("town 3 3;crowd 0 2 1 9 1 9;" + spot + " 2 1;", 4, 30 + spot.length());
            Check.faulty("town 3 3;piper 2 1;" + spot + "  2   001;", 4, 19 + spot.length() + 6);
            Check.faulty("town 3 3;" + spot + " 2 1;crowd 0 2 1 9 1 9;", 4, 14 + spot.length() + 10);
            Check.faulty("town 3 3;" + spot + " 2 1;piper 2 1;", 4, 14 + spot.length() + 8);
            Check.fine("town 3 3;crowd 0 2 1 9 1 9;piper 2 2;" + spot + " 1 2;", 9);
        }
        Check.fine("town 3 3;crowd 0 2 1 9 1 9;crowd 1 2 1 9 1 9;piper 2 1;crowd 2 2 1 9 1 9;", 9);
        // Where the piper comes to stand untold, a wall may be told before that.
        Check.fine("town 2 1;wall 0 0;", 2);
    }

    private static void firstByte() {
        Check.says("FAULTS, at the first byte that has one");
        Check.faulty("town 0 0;", 2, 5);
        Check.faulty("town 10 x", 2, 5);
        Check.faulty("town 2 2;wall 0 0;wall 0 0 !", 4, 25);
        Check.faulty("town 2 2;wall 0 0;crowd 0 0 0 0 0 0;", 4, 28);
        Check.faulty("town 2 2;wall 0 0;crowd 3 0 0 0 0 0;", 2, 24);
        Check.faulty("town 2 2;pay 1 1;pay 100 x", 3, 17);
        Check.faulty("town 2 2;tune 8", 2, 14);
        Check.faulty("town 2 2;tune 8!", 2, 14);
    }

    private static void least() {
        Check.says("of these the least: 1 it cannot stand there");
        Check.faulty("town 1 1 town 1 1;", 1, 9);
        Check.faulty("town 1 1 10000;", 1, 9);
        Check.faulty("town 1 1;10000;", 1, 9);
        Check.faulty("10000 1 1;", 1, 0);
        Check.faulty("town 1 1;piper 0 0;pay 1 piper", 1, 25);
        Check.faulty("town 2 2;wall 0 0;gate 0 0000;", 2, 25);
        Check.faulty("town 2 2;piper 0 0;wall 0 0000;", 2, 26);
        Check.faulty("town 2 2;wall 0 0;crowd 0 0 0000 1 1 0;", 2, 28);
    }

    private static void asTheyCome() {
        Check.says("What has a number has it from 0 on, as it comes.");
        HeardTunes x = Check.told("town 3 1;pay 2 3;tune 2 1;crowd 2 1 0 9 1 0;piper 1 0;tune 7 2;crowd 1 1 0 8 1 0;wall 0 0;crowd 0 1 0 7 1 0;gate 2 0;tune 1 0;");
        for (int i = 0; i < 3; i++) {
            Check.due("crowd " + i, x.crowd(i, 0), 2 - i);
            Check.due("its heads", x.crowd(i, 1), 9 - i);
            Check.due("tune " + i, x.tune(i, 0), new int[] {2, 7, 1}[i]);
            Check.due("how far", x.tune(i, 1), new int[] {1, 2, 0}[i]);
        }
        Check.says("A SET is a whole number, bit k for k.");
        Check.due("KIND 1 is crowd 1", x.tune(0, 2), 2);
        Check.due("all", x.tune(1, 2), 7);
        Check.due("KIND 0 is crowd 2", x.tune(2, 2), 4);
    }

    private static void emptyText() {
        Check.says("An empty text: no CELLS.");
        Check.fine("", 0);
        HeardTunes x = Check.told(WHOLE);
        x.minute(0, 0);
        x.plan(0, 0);
        x.see(0, 1, 0, 0);
        x.keep(0);
        x.seed(5);
        Check.due("town()", x.town(), 0);
        Check.due("fault()", x.fault(), NONE);
        for (int what = 0; what <= 12; what++) {
            Check.due("told(" + what + ")", x.told(what), 0);
        }
        Check.due("cell(0, 0)", x.cell(0, 0), UNKNOWN);
        Check.due("crowd(0, 0)", x.crowd(0, 0), UNKNOWN);
        Check.due("tune(0, 0)", x.tune(0, 0), UNKNOWN);
        Check.due("minute(0, -1)", x.minute(0, NONE), NOT);
        Check.due("drift(1)", x.drift(1), NOT);
        Check.due("goBack(0)", x.goBack(0), NOT);
        Check.due("the seed stays", x.seed(0), 5);
        // Blanks are bytes: such a text is not empty, and has no 'town' where it ends.
        Check.faulty(" ", 1, 1);
        Check.faulty(" ".repeat(500), 1, 500);
    }

    private static void townForgets() {
        Check.says("THE TEXT (it is empty then) becomes THE TOWN (no MINUTES, no PLAN, nothing SEEN; IMAGES are gone; THE SEED stays): how many CELLS");
        HeardTunes x = Check.told(WHOLE);
        x.seed(2147483647);
        x.minute(4, 0);
        x.wall(3, 1, true);
        x.plan(0, 0);
        x.see(0, 1, 0, 0);
        x.keep(0);
        x.keep(1);
        Check.due("the same town again", Check.tell(x, WHOLE), 20);
        Check.due("the text is empty", x.told(4), 0);
        Check.due("no minutes", x.told(5), 0);
        Check.due("the piper where he is told", x.told(6), 12);
        Check.due("no plan", x.told(11), 0);
        Check.due("nothing seen", x.told(12), 0);
        Check.due("drop()", x.drop(), 0);
        Check.due("tear()", x.tear(), 0);
        Check.due("image 0 is gone", x.goBack(0), NOT);
        Check.due("image 1 is gone", x.goBack(1), NOT);
        Check.due("the wall is gone", x.cell(3, 1), 0);
        Check.due("the crowd where it is told", x.crowd(0, 4), 0);
        Check.due("without a goal", x.crowd(0, 5), NONE);
        Check.due("the seed stays", x.seed(1), 2147483647);
    }

    private static void oldTextIsGone() {
        Check.says("THE TEXT (it is empty then)");
        // Bytes of an earlier, longer text must not go on where a shorter one ends.
        String[][] texts = {{"town 1 1;pay 9 999999", "town 1 1;pay 9 9", "16"}, {"town 1 1;tune 1 1;", "town 1 1;tune", "13"},
            {"town 1 1;townhall", "town 1 1;town", "9"}, {"town 1 1;", "town 1 1", "8"}, {"town 1 1;   x", "town 1 1; ", "-1"}};
        for (String[] row : texts) {
            HeardTunes x = new HeardTunes();
            Check.tell(x, row[0]);
            Check.due("told(4)", x.told(4), 0);
            Check.tell(x, row[1]);
            Check.due(row[1] + " behind " + row[0], x.fault(), Integer.parseInt(row[2]));
        }
    }

    private static void lastCell() {
        Check.says("W, H 1 .. 9, 42 CELLS at most");
        HeardTunes x = new HeardTunes();
        for (int spot = 1; spot <= 3; spot++) {
            Check.due("42 cells", Check.tell(x, "town 7 6;" + SPOTS[spot - 1] + " 6 5;"), 42);
            Check.due("the last of them", x.cell(6, 5), spot);
            Check.due("42 cells again", Check.tell(x, "town 7 6;"), 42);
            Check.due("the last of them is free", x.cell(6, 5), 0);
        }
        Check.due("a wall on it", x.wall(6, 5, true), 0);
        x.keep(0);
        Check.due("it goes", x.wall(6, 5, false), 1);
        x.keep(1);
        x.goBack(0);
        Check.due("an image has it", x.cell(6, 5), 1);
        Check.due("no way to it", x.far(0, 0, 6, 5), NONE);
        x.goBack(1);
        Check.due("the other has it not", x.cell(6, 5), 0);
        Check.due("a way to it", x.far(0, 0, 6, 5), 11);
        x.wall(6, 4, true);
        Check.due("another way to it", x.far(6, 3, 6, 5), 4);
    }

    private static void faultKeeps() {
        Check.says("-10 less the number of its FAULT (all is as it was).");
        String[] faulty = {"x", "town 0", "town 1 1;town", "town 1 1;wall 0 0;wall 0 0;"};
        for (int number = 1; number <= 4; number++) {
            HeardTunes x = Check.told(WHOLE);
            x.seed(9);
            x.minute(4, 0);
            x.wall(3, 1, true);
            x.plan(2, 0);
            x.see(0, 1, 0, 0);
            x.keep(0);
            x.minute(2, 0);
            String before = Check.look(x);
            int walks = x.walks(2, 0, NONE);
            int worth = x.tried(NONE, 0);
            Check.due("town()", Check.tell(x, faulty[number - 1]), -10 - number);
            Check.same("all is as it was", withoutFault(Check.look(x)), withoutFault(before));
            Check.due("what was seen is as it was", x.walks(2, 0, NONE), walks);
            Check.due("the plan is as it was", x.tried(NONE, 0), worth);
            Check.due("image 0 is still there", x.goBack(0), 1);
            Check.due("as it was kept", x.told(5), 1);
            Check.due("image 1 is still not", x.goBack(1), NOT);
        }
    }

    private static String withoutFault(String look) {
        return look.substring(0, look.lastIndexOf(' '));
    }

    private static void faultOfTheLatest() {
        Check.says("The byte of the FAULT of the latest town(); NONE.");
        HeardTunes x = new HeardTunes();
        Check.due("before any town()", x.fault(), NONE);
        Check.tell(x, "town 0");
        Check.due("of a fault", x.fault(), 5);
        Check.tell(x, "x");
        Check.due("of a fault at the first byte", x.fault(), 0);
        Check.feed(x, "town 1 1");
        Check.due("a text that comes is not yet read", x.fault(), 0);
        x.town();
        Check.due("at the end", x.fault(), 8);
        x.town();
        Check.due("of an empty text", x.fault(), NONE);
        Check.tell(x, "!");
        Check.tell(x, "town 1 1;");
        Check.due("of a good text", x.fault(), NONE);
    }
}
