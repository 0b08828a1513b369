/** Promises 24 to 26: the seed, images. */
public final class ImagesTest {
    private static final int NONE = Check.NONE, UNKNOWN = Check.UNKNOWN, OUTSIDE = Check.OUTSIDE, NOT = Check.NOT;

    public static void main(String[] args) {
        seed();
        refused();
        all();
        two();
        Check.end("ImagesTest");
    }

    private static void seed() {
        HeardTunes x = new HeardTunes();
        Check.due("0 at first", x.seed(2147483647), 0);
        Check.due("what it was", x.seed(0), 2147483647);
        Check.due("seed(-1)", x.seed(-1), OUTSIDE);
        Check.due("seed(min)", x.seed(Integer.MIN_VALUE), OUTSIDE);
        Check.due("what is refused changes nothing", x.seed(7), 0);
        Check.tell(x, "town 1 1;");
        Check.due("it outlives a town", x.seed(2147483647), 7);
        x.drift(1);
        long one = (2147483647L * 1103515245L + 12345L) % (1L << 31);
        Check.due("two draws", x.seed(0), (one * 1103515245L + 12345L) % (1L << 31));
    }

    private static void refused() {
        HeardTunes x = Check.told("town 2 1;");
        Check.due("keep(2)", x.keep(2), UNKNOWN);
        Check.due("keep(-1)", x.keep(-1), UNKNOWN);
        Check.due("goBack(2)", x.goBack(2), UNKNOWN);
        Check.due("goBack(-1)", x.goBack(-1), UNKNOWN);
        Check.due("goBack(0)", x.goBack(0), NOT);
        Check.due("goBack(1)", x.goBack(1), NOT);
        x.keep(1);
        Check.due("the other is still not kept", x.goBack(0), NOT);
        Check.due("this one is", x.goBack(1), 1);
    }

    private static void all() {
        HeardTunes x = Check.told("town 6 2;gate 5 0;water 5 1;crowd 0 0 0 9 1 0;crowd 1 0 1 7 3 0;crowd 2 4 0 5 1 0;"
            + "tune 1 20;tune 2 20;tune 4 20;piper 4 0;");
        x.seed(1234);
        x.minute(0, 0);
        x.minute(2, 2);
        x.wall(3, 0, true);
        Check.due("keep(0)", x.keep(0), 1);
        String kept = Check.look(x);
        int goal = x.crowd(0, 5);
        Check.due("under way", goal, 40);
        x.wall(3, 0, false);
        x.wall(0, 0, true);
        x.minute(4, 1);
        x.drift(20);
        Check.due("goBack(0)", x.goBack(0), 1);
        Check.isTrue("all that is kept is so again", kept.equals(Check.look(x)));
        Check.due("far again", x.far(0, 0, 4, 0), 6);
        x.plan(0, NONE);
        x.see(0, 1, 0, 0);
        x.feed(2, 0);
        x.goBack(0);
        Check.due("the plan is not kept", x.told(11), 1);
        Check.due("nor what was seen", x.told(12), 1);
        Check.due("nor the text", x.told(4), 2);
        x.drift(50);
        int left = x.told(9);
        int piper = x.told(6);
        x.goBack(0);
        x.drift(50);
        Check.due("the same draws again", x.told(6), piper);
        Check.due("the same are left", x.told(9), left);
    }

    private static void two() {
        HeardTunes x = Check.told("town 3 1;piper 0 0;");
        x.keep(0);
        x.minute(2, NONE);
        x.keep(1);
        x.minute(2, NONE);
        x.goBack(0);
        Check.due("image 0", x.told(6), 0);
        x.goBack(1);
        Check.due("image 1", x.told(6), 10);
        Check.due("its minutes", x.told(5), 1);
        x.minute(2, NONE);
        x.keep(0);
        x.goBack(1);
        x.goBack(0);
        Check.due("image 0 anew", x.told(6), 20);
        Check.due("its minutes", x.told(5), 2);
    }
}
