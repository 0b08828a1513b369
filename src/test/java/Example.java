import java.nio.charset.StandardCharsets;

public final class Example {
    public static void main(String[] args) {
        HeardTunes x = new HeardTunes();
        feed(x, "town 5 2; wall 1 1; gate 4 0; water 4 1; crowd 0 0 0 12 1 2; tune 1 20; piper 2 0; pay 3 1;");
        show("town()", x.town());                   // ten cells; -10 less the fault's number if there were one
        show("tune(0, 2)", x.tune(0, 2));           // crowd 0 would follow tune 0: a set, bit 0
        show("minute(2, 0)", x.minute(2, 0));       // he steps east, plays tune 0 and is on 3 0
        show("crowd(0, 4)", x.crowd(0, 4));         // where its followers are now: 1 0
        show("crowd(0, 5)", x.crowd(0, 5));         // whither they go: 3 0

        // All of kind 0 can be out in three minutes, tune 0 in each: stay, stay, east on the gate.
        show("soonest(0, 0, NONE)", x.soonest(0, 0, HeardTunes.NONE));
        show("soonest(0, 0, 2)", x.soonest(0, 0, 2));

        x.plan(2, 0);                               // step east and play, then stay and play twice
        x.plan(0, 0);
        x.plan(0, 0);
        show("judge()", x.judge());                 // no step of it is wrong
        show("tried(0, 0)", x.tried(0, 0));         // ten heads of kind 0 would be out
        show("tried(NONE, 0)", x.tried(HeardTunes.NONE, 0)); // which is worth 3 each
        show("where(0, 2)", x.where(0, 2));         // behind two minutes they are on 3 0
        show("bestWall(0, 0)", x.bestWall(0, 0));   // a wall on 2 0 would keep the most of them in
        show("wax(0)", x.wax(0));                   // crowd 0 would need wax

        x.see(0, 1, 2, 0);                          // crowd 0 was seen on 2 0 behind a minute
        show("walks(1, 0, NONE)", x.walks(1, 0, HeardTunes.NONE)); // all four steps that he has fit

        x.seed(1);
        x.keep(0);
        show("drift(20)", x.drift(20));             // twenty minutes by draws: only the two deaf ones are left
        x.goBack(0);
        show("told(5)", x.told(5));                 // one minute again
        show("told(9)", x.told(9));                 // and all twelve heads
        show("minute(1, 0)", x.minute(1, 0));       // north is off the town: NOT
    }

    private static void feed(HeardTunes x, String text) {
        for (byte one : text.getBytes(StandardCharsets.ISO_8859_1)) {
            x.feed(1, one);
        }
    }

    private static void show(String call, int answer) {
        System.out.println(call + " = " + answer);
    }
}
