/**
 * 'BAD: a number is none that is told': for each number of each call the last ones that are taken and
 * the first ones that are not, on both sides, and the ints farthest off; and what is refused changes
 * nothing, as things stand in each Situation.
 */
public final class RefusedTest {
    private static final int BAD = HummingSet.BAD;
    private static final int NO = HummingSet.NO;
    private static final int FULL = HummingSet.FULL;
    private static final int NONE = HummingSet.NONE;
    private static final int LEAST = Integer.MIN_VALUE;
    private static final String LAW = "BAD: a number is none that is told (STAGES, PARTS: such as there are; "
            + "ASKS that there are; STATES: of PARTS there are).";

    private interface Call {
        long of(HummingSet x, int[] numbers);
    }

    private RefusedTest() {
    }

    public static void main(String[] args) {
        for (Situation now : Situation.all()) {
            sets(now);
            heard(now);
            asks(now);
            odds(now);
            beside(now);
        }
        situations();
        asking();
        bytes();
        full();
        none();
        no();
        Check.end();
    }

    /** What the Situations are worth as tests: much is ANSWERED, and not all the same. */
    private static void situations() {
        Check.about("Situation ");
        HummingSet x = new HummingSet();
        Situation.most(x);
        Check.due("count(2)", x.count(2), 400);
        Check.due("count(3)", x.count(3), 10);
        Check.due("count(4)", x.count(4), 2);
        long left = x.possible(0);
        x.back();
        long kept = x.possible(0);
        x.back();
        Check.holds("fewer POSSIBLE each time: " + left + ", " + kept, left > 0 && left < kept && kept < 37);
        Check.due("possible(0) of all", x.possible(0), 37);
        HummingSet y = new HummingSet();
        Situation.nonePossible(y);
        Check.due("possible(0) of none", y.possible(0), 0);
    }

    /** What is only asked changes nothing, either. */
    private static void asking() {
        for (Situation now : Situation.all()) {
            Check.about(now.name + ": ");
            HummingSet asked = new HummingSet();
            now.ahead.accept(asked);
            askAll(asked, now);
            HummingSet other = new HummingSet();
            now.ahead.accept(other);
            Twins.same("asking", asked, other);
        }
    }

    private static void askAll(HummingSet x, Situation now) {
        int state = now.states() - 1;
        x.fault();
        x.part(0, 0);
        x.hum(state, 2, 7);
        x.in(state, now.stages - 1, 0, 7);
        x.heard(state, 7, 0);
        for (int kind = 0; kind <= 4; kind++) {
            x.ask(state, kind, 0, 7);
            x.risk(kind, 0);
        }
        x.volts(0, 7);
        x.safe();
        x.possible(0);
        x.odds(0, 0);
        x.likeliest();
        x.next(7, 0);
        x.change(7, 0);
        x.oneByOne(0);
        x.louder(state);
        x.howls();
        x.goes(0, 7);
        x.nextToGo(7);
        x.set(7);
        x.count(0);
    }

    // ---- each number of each call

    /** Each range is {lowest, highest}; ask ranges are looked at by asks(). */
    private static void edges(Situation now, String name, int bad, Call call, int[]... ranges) {
        for (int i = 0; i < ranges.length; i++) {
            int lowest = ranges[i][0];
            int highest = ranges[i][1];
            for (int good : new int[] {lowest, highest}) {
                HummingSet x = new HummingSet();
                now.ahead.accept(x);
                int[] numbers = with(ranges, i, good);
                Check.holds(now.name + ": " + told(name, numbers) + " is not BAD", call.of(x, numbers) != bad);
            }
            for (int wrong : new int[] {lowest - 1, highest + 1, lowest - 256, highest + 256, highest + 65536,
                Integer.MIN_VALUE, Integer.MIN_VALUE + 1, Integer.MIN_VALUE + highest, Integer.MAX_VALUE}) {
                int[] numbers = with(ranges, i, wrong);
                refused(now, told(name, numbers), x -> call.of(x, numbers), bad);
            }
        }
        int[] all = new int[ranges.length];
        for (int i = 0; i < all.length; i++) {
            all[i] = ranges[i][1] + 1;
        }
        refused(now, told(name, all), x -> call.of(x, all), bad);
    }

    /** The others are taken, now low, now high. */
    private static int[] with(int[][] ranges, int place, int number) {
        int[] numbers = new int[ranges.length];
        for (int i = 0; i < numbers.length; i++) {
            numbers[i] = i == place ? number : ranges[i][i % 2];
        }
        return numbers;
    }

    private static String told(String name, int[] numbers) {
        StringBuilder told = new StringBuilder(name).append("(");
        for (int i = 0; i < numbers.length; i++) {
            told.append(i == 0 ? "" : ", ").append(numbers[i]);
        }
        return told.append(")").toString();
    }

    private static void refused(Situation now, String told, java.util.function.ToLongFunction<HummingSet> call, long want) {
        Twins.refused(now.name + ": " + told, now.ahead, call, want);
    }

    private static int[] to(int highest) {
        return new int[] {0, highest};
    }

    private static void sets(Situation now) {
        Sentence.ofPromise(6, "its cost (5). BAD.");
        edges(now, "part", BAD, (x, a) -> x.part(a[0], a[1]), to(now.parts - 1), to(5));
    }

    private static void heard(Situation now) {
        int[] states = to(now.states() - 1);
        int[] stages = to(now.stages - 1);
        Sentence.ofPromise(7, "BAD answers the least int.");
        edges(now, "hum", LEAST, (x, a) -> x.hum(a[0], a[1], a[2]), states, to(2), to(30));
        Sentence.ofPromise(8, "BAD answers the least int.");
        edges(now, "in", LEAST, (x, a) -> x.in(a[0], a[1], a[2], a[3]), states, stages, to(2), to(30));
        Sentence.ofPromise(9, "HEARD (what = 0), LOUD (1). BAD.");
        edges(now, "heard", BAD, (x, a) -> x.heard(a[0], a[1], a[2]), states, to(30), to(1));
        Sentence.ofPromise(12, "VOLTS (m 0 to 999). BAD.");
        edges(now, "volts", BAD, (x, a) -> x.volts(a[0], a[1]), to(now.parts - 1), to(999));
    }

    private static void asks(Situation now) {
        int[] states = to(now.states() - 1);
        int[] highest = {0, now.stages - 1, now.stages - 1, now.parts - 1, now.stages - 1};
        for (int kind = 0; kind < highest.length; kind++) {
            int k = kind;
            Sentence.ofPromise(10, "What an ASK is answered in a STATE. BAD.");
            edges(now, "ask of KIND " + k, BAD, (x, a) -> x.ask(a[0], k, a[1], a[2]), states, to(highest[k]), to(30));
            Sentence.ofPromise(11, "RISK of an ASK. BAD.");
            edges(now, "risk of KIND " + k, BAD, (x, a) -> x.risk(k, a[0]), to(highest[k]));
            Sentence.ofPromise(14, "ANSWERED: how many. BAD");
            edges(now, "answer of KIND " + k, BAD, (x, a) -> x.answer(k, a[0], a[1], a[2]), to(highest[k]), to(30), to(9));
        }
        Sentence.is("Terms", LAW);
        edges(now, "ask of 0", BAD, (x, a) -> x.ask(0, a[0], 0, 0), to(4));
        edges(now, "risk of 0", BAD, (x, a) -> x.risk(a[0], 0), to(4));
        edges(now, "answer of 0", BAD, (x, a) -> x.answer(a[0], 0, 0, 0), to(4));
    }

    private static void odds(Situation now) {
        Sentence.ofPromise(16, "how many (what = 0), their WEIGHTS (1). BAD.");
        edges(now, "possible", BAD, (x, a) -> x.possible(a[0]), to(1));
        Sentence.ofPromise(17, "above (part = 0), below (1). NONE; BAD.");
        edges(now, "odds", BAD, (x, a) -> x.odds(a[0], a[1]), to(now.parts - 1), to(1));
        Sentence.ofPromise(19, "KIND (what = 0), what it is of (1), WEIGHTS (2). NONE; BAD.");
        edges(now, "next", BAD, (x, a) -> x.next(a[0], a[1]), to(30), to(2));
        Sentence.ofPromise(20, "the set (what = 0), its cost (1). NONE (none is POSSIBLE, too); BAD.");
        edges(now, "change", BAD, (x, a) -> x.change(a[0], a[1]), to(100), to(1));
        Sentence.ofPromise(21, "the first PART (1; NONE). BAD.");
        edges(now, "oneByOne", BAD, (x, a) -> x.oneByOne(a[0]), to(1));
    }

    private static void beside(Situation now) {
        Sentence.ofPromise(22, "LOUDER, as bits. BAD.");
        edges(now, "louder", BAD, (x, a) -> x.louder(a[0]), to(now.states() - 1));
        Sentence.ofPromise(24, "GOES. BAD.");
        edges(now, "goes", BAD, (x, a) -> x.goes(a[0], a[1]), to(now.parts - 1), new int[] {1, 50});
        Sentence.ofPromise(25, "NEXT TO GO. BAD.");
        edges(now, "nextToGo", BAD, (x, a) -> x.nextToGo(a[0]), new int[] {1, 50});
        Sentence.ofPromise(26, "A SET: its STATE. BAD.");
        edges(now, "set", BAD, (x, a) -> x.set(a[0]), to(9999));
        Sentence.ofPromise(29, "0 STAGES, 1 PARTS, 2 bytes of THE TEXT, 3 ANSWERED, 4 KEPT. BAD.");
        edges(now, "count", BAD, (x, a) -> x.count(a[0]), to(4));
    }

    private static void bytes() {
        Sentence.ofPromise(2, "n bytes (1 to 8) of v");
        for (Situation now : Situation.all()) {
            edges(now, "write", BAD, (x, a) -> x.write(a[0], -1L), new int[] {1, 8});
        }
    }

    // ---- FULL, NONE and NO

    private static void full() {
        Situation most = Situation.all()[1];
        Sentence.is("Terms", "FULL. Of several the first; nothing changes then.");
        for (int n : new int[] {0, 9}) {
            refused(most, "write(" + n + ", 0): BAD ahead of FULL", x -> x.write(n, 0), BAD);
        }
        refused(most, "answer(0, 0, 0, 10): BAD ahead of FULL", x -> x.answer(0, 0, 0, 10), BAD);
        Sentence.ofPromise(2, "FULL.");
        refused(most, "write(1, 0)", x -> x.write(1, 0), FULL);
        refused(most, "write(8, -1)", x -> x.write(8, -1), FULL);
        Sentence.ofPromise(14, "FULL: 10.");
        for (int a = 0; a <= 9; a++) {
            int got = a;
            refused(most, "answer(0, 0, 0, " + a + ")", x -> x.answer(0, 0, 0, got), FULL);
            refused(most, "answer(4, 5, 30, " + a + ")", x -> x.answer(4, 5, 30, got), FULL);
        }
        Sentence.ofPromise(27, "KEPT: how many. FULL.");
        refused(most, "keep()", HummingSet::keep, FULL);
    }

    private static void none() {
        Situation none = Situation.all()[2];
        Sentence.is("Terms", "NONE: there is none.");
        refused(none, "fault()", HummingSet::fault, NONE);
        Sentence.ofPromise(17, "NONE; BAD.");
        for (int p = 0; p < none.parts; p++) {
            int of = p;
            refused(none, "odds(" + p + ", 0)", x -> x.odds(of, 0), NONE);
            refused(none, "odds(" + p + ", 1)", x -> x.odds(of, 1), NONE);
        }
        Sentence.ofPromise(18, "LIKELIEST. NONE.");
        refused(none, "likeliest()", HummingSet::likeliest, NONE);
        Sentence.ofPromise(19, "NONE; BAD.");
        for (int what = 0; what <= 2; what++) {
            int of = what;
            refused(none, "next(0, " + what + ")", x -> x.next(0, of), NONE);
            refused(none, "next(30, " + what + ")", x -> x.next(30, of), NONE);
        }
        Sentence.ofPromise(20, "NONE (none is POSSIBLE, too)");
        for (int q : new int[] {0, 1, 50, 99, 100}) {
            refused(none, "change(" + q + ", 0)", x -> x.change(q, 0), NONE);
            refused(none, "change(" + q + ", 1)", x -> x.change(q, 1), NONE);
        }
        Sentence.ofPromise(21, "the sum (what = 0; 0 if none is POSSIBLE), the first PART (1; NONE)");
        refused(none, "oneByOne(0)", x -> x.oneByOne(0), 0);
        refused(none, "oneByOne(1)", x -> x.oneByOne(1), NONE);
        Sentence.ofPromise(16, "POSSIBLE STATES: how many (what = 0), their WEIGHTS (1)");
        refused(none, "possible(0)", x -> x.possible(0), 0);
        refused(none, "possible(1)", x -> x.possible(1), 0);
    }

    private static void no() {
        Sentence.is("Terms", "NO: not as things stand.");
        refused(Situation.all()[1], "lay() with a FAULT", HummingSet::lay, NO);
        Sentence.ofPromise(28, "As KEPT last: how many are left. NO.");
        refused(Situation.all()[0], "back()", HummingSet::back, NO);
        refused(Situation.all()[2], "back()", HummingSet::back, NO);
        Sentence.ofPromise(5, "NO.");
        refused(Situation.all()[0], "lay()", HummingSet::lay, NO);
    }
}
