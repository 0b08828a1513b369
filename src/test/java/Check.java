import java.nio.charset.StandardCharsets;

/** Counts answers that are not the due ones, and tells a town to an object. */
final class Check {
    static final int NONE = -1, UNKNOWN = -1000000001, OUTSIDE = -1000000002, NOT = -1000000003, FULL = -1000000004;

    private static int asked = 0;
    private static int wrong = 0;
    private static String sentence = "";

    private Check() {
    }

    /** The words of the document that the next answers are held to; they must stand in it. */
    static void says(String words) {
        sentence = "";
        isTrue("the document says \"" + words + "\"", Doc.says(words));
        sentence = "\"" + words + "\": ";
    }

    static void due(String call, long got, long want) {
        asked++;
        if (got != want) {
            wrong++;
            System.out.println(sentence + call + " answered " + got + ", due is " + want);
        }
    }

    static void same(String what, String got, String want) {
        isTrue(what + ": " + got + " should be " + want, got.equals(want));
    }

    static void isTrue(String what, boolean is) {
        due(what, is ? 1 : 0, 1);
    }

    static void feed(HeardTunes x, String text) {
        byte[] bytes = text.getBytes(StandardCharsets.ISO_8859_1);
        for (int from = 0; from < bytes.length; from += 8) {
            int n = Math.min(8, bytes.length - from);
            long packed = 0;
            for (int i = 0; i < n; i++) {
                packed = packed << 8 | bytes[from + i] & 255;
            }
            x.feed(n, packed);
        }
    }

    static int tell(HeardTunes x, String text) {
        feed(x, text);
        return x.town();
    }

    static HeardTunes told(String text) {
        HeardTunes x = new HeardTunes();
        int cells = tell(x, text);
        isTrue("the text has no fault: " + text, cells >= 0);
        return x;
    }

    /** A text that has a fault: its number and its byte. */
    static void faulty(String text, int number, int at) {
        HeardTunes x = new HeardTunes();
        due("town() of \"" + text + "\"", tell(x, text), -10 - number);
        due("fault() of \"" + text + "\"", x.fault(), at);
    }

    /** A text that has none: how many cells. */
    static void fine(String text, int cells) {
        HeardTunes x = new HeardTunes();
        due("town() of \"" + text + "\"", tell(x, text), cells);
        due("fault() of \"" + text + "\"", x.fault(), NONE);
    }

    /** All that can be looked at without a change, to see that what is refused changes nothing. */
    static String look(HeardTunes x) {
        StringBuilder all = new StringBuilder();
        for (int what = 0; what <= 12; what++) {
            all.append(x.told(what)).append(' ');
        }
        int w = x.told(0);
        int h = x.told(1);
        int crowds = x.told(2);
        for (int i = 0; i < w * h; i++) {
            all.append(x.cell(i % w, i / w));
        }
        for (int c = 0; c < crowds; c++) {
            for (int what = 4; what <= 6; what++) {
                all.append(' ').append(x.crowd(c, what));
            }
        }
        int seed = x.seed(0);
        x.seed(seed);
        return all.append(' ').append(seed).append(' ').append(x.fault()).toString();
    }

    static void end(String name) {
        System.out.println(name + ": " + (asked - wrong) + " of " + asked + " answers are as due");
        if (wrong != 0) {
            System.exit(1);
        }
    }
}
