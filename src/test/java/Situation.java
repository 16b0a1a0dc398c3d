import java.util.function.Consumer;

/** How things may stand when a call comes: how many STAGES and PARTS there are, and the calls ahead. */
final class Situation {
    /** Six STAGES, eight PARTS of all KINDS, each STATE of two at most POSSIBLE. */
    static final String MOST = "s10,20;s12,30;s9,40;s10,50;s11,15;s10,12;"
            + "p0,0,10,1,0;p1,1,20,2,5;p2,2,30,3,30;p3,3,40,4,0;p4,4,50,5,10;p5,0,60,6,0;p0,1,70,7,1;p5,0,99,8,2;"
            + "h0,0,30;h1,1,40;h2,2,-50;h3,0,-20;h4,1,50;h5,2,30;h6,0,15;h7,1,-35;m1,2,5;c0,3;c7,99;"
            + "f0,0,90;f5,1,100;e1,15;k1,20;v0,900,10;v5,300,50;";

    final String name;
    final int stages;
    final int parts;
    final Consumer<HummingSet> ahead;

    private Situation(String name, int stages, int parts, Consumer<HummingSet> ahead) {
        this.name = name;
        this.stages = stages;
        this.parts = parts;
        this.ahead = ahead;
    }

    static Situation[] all() {
        return new Situation[] {
            new Situation("new", 1, 1, x -> { }),
            new Situation("most of all", 6, 8, Situation::most),
            new Situation("none POSSIBLE", 6, 8, Situation::nonePossible)};
    }

    int states() {
        return 1 << parts;
    }

    /** 400 bytes, ten ANSWERED, two KEPT that differ from them and from one another. */
    static void most(HummingSet x) {
        mostWith(x, MOST + "e0,20;".repeat((400 - MOST.length()) / 6) + "x".repeat((400 - MOST.length()) % 6));
    }

    /** As most, but for THE TEXT, which is not LAID. */
    static void mostWith(HummingSet x, String text) {
        layMost(x);
        int state = 66;
        x.keep();
        x.answer(1, 0, 30, x.ask(state, 1, 0, 30));
        x.keep();
        for (int i = 1; i < 10; i++) {
            x.answer(4, i % 6, 3 * i, x.ask(state, 4, i % 6, 3 * i));
        }
        x.wipe();
        Check.write(x, text);
    }

    static void nonePossible(HummingSet x) {
        layMost(x);
        x.answer(0, 0, 30, 9);
    }

    private static void layMost(HummingSet x) {
        Check.write(x, MOST);
        Check.due("lay() of the most", x.lay(), 8);
    }
}
