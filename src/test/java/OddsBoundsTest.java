/** The edges of odds and of what to do, sentence by sentence: Terms 3 and promises 14 to 21. */
public final class OddsBoundsTest {
    private static final int NONE = HummingSet.NONE;
    private static final int BAD = HummingSet.BAD;
    private static final int FULL = HummingSet.FULL;
    private static final String TERMS = "Terms";
    /** Three PARTS of one STAGE, each with a TONE of its own: what is HEARD is the STATE. */
    private static final String CLEAR = "s10,99;p0,0,0,5,0;p0,0,0,2,0;p0,2,0,1,0;h0,0,30;h1,1,30;h2,2,30;";
    private static final String SAME = "s10,99;p0,0,0,5,0;p0,0,0,5,0;h0,0,30;h1,1,30;";

    private OddsBoundsTest() {
    }

    public static void main(String[] args) {
        answers();
        answersAtMost();
        answerBadAheadOfFull();
        forget();
        weights();
        twoAtMost();
        aboveZero();
        allAnswered();
        odds();
        oddsNone();
        leastWeight();
        likeliest();
        next();
        nextOfSeveral();
        minutesOfKinds();
        nextMinutes();
        nextNone();
        quiet();
        changeHundredths();
        changeOrMore();
        changeOfSeveral();
        changeNone();
        oneByOne();
        oneByOneEnds();
        oneByOneLeast();
        oneByOneFirst();
        oneByOneNone();
        heaviestOfAll();
        badAheadOfNone();
        Check.end();
    }

    // ---- what is ANSWERED

    private static void answers() {
        Sentence.is(TERMS, "ANSWERED: an ASK m minutes on got an ANSWER (0 to 9)");
        for (int a = 0; a <= 9; a++) {
            HummingSet x = Check.laid(CLEAR);
            Check.due("answer(0, 0, 0, " + a + ")", x.answer(0, 0, 0, a), 1);
            Check.due("possible(0) then", x.possible(0), a < 7 ? 1 : 0);
        }
        for (int a : new int[] {-1, 10, 256, Integer.MIN_VALUE, Integer.MAX_VALUE}) {
            Twins.refused("answer(0, 0, 0, " + a + ")", y -> Check.write(y, CLEAR), y -> y.answer(0, 0, 0, a), BAD);
        }
        HummingSet measured = Check.laid("s10,99;p0,0,0,5,0;h0,0,50;h0,0,50;h0,0,50;h0,0,50;");
        Check.due("answer(4, 0, 0, 9)", measured.answer(4, 0, 0, 9), 1);
        Check.due("likeliest() by MEASURE of 9", measured.likeliest(), 1);
        measured.answer(4, 0, 0, 0);
        Check.due("possible(0) by MEASURE of 9 and of 0", measured.possible(0), 0);
    }

    private static void answersAtMost() {
        Sentence.is(TERMS, "got an ANSWER (0 to 9); 10 at most.");
        Sentence.ofPromise(14, "ANSWERED: how many. BAD; FULL: 10.");
        HummingSet x = Check.laid(CLEAR);
        for (int i = 1; i <= 10; i++) {
            Check.due("answer " + i, x.answer(0, 0, i, i == 10 ? 2 : 1), i);
            Check.due("count(3)", x.count(3), i);
            Check.due("possible(0): the tenth counts, too", x.possible(0), i == 10 ? 0 : 1);
        }
        Check.due("an eleventh", x.answer(0, 0, 0, 1), FULL);
        Check.due("a twelfth", x.answer(4, 0, 30, 9), FULL);
        Check.due("count(3) then", x.count(3), 10);
        Check.due("forget()", x.forget(), 10);
        Check.due("answer behind forget()", x.answer(0, 0, 0, 1), 1);
        Twins.refused("an eleventh, all as before", OddsBoundsTest::tenAnswered, y -> y.answer(0, 0, 0, 0), FULL);
    }

    private static void tenAnswered(HummingSet x) {
        Check.write(x, CLEAR);
        x.lay();
        for (int i = 0; i < 10; i++) {
            x.answer(0, 0, i, 1);
        }
    }

    private static void answerBadAheadOfFull() {
        Sentence.is(TERMS, "Of several the first; nothing changes then.");
        int[][] rows = {{5, 0, 0, 0}, {-1, 0, 0, 0}, {0, 1, 0, 0}, {1, 1, 0, 0}, {3, 3, 0, 0}, {0, 0, 31, 0},
            {0, 0, -1, 0}, {0, 0, 0, 10}, {0, 0, 0, -1}};
        for (int[] row : rows) {
            String told = "answer(" + row[0] + ", " + row[1] + ", " + row[2] + ", " + row[3] + ")";
            Twins.refused(told, OddsBoundsTest::tenAnswered, y -> y.answer(row[0], row[1], row[2], row[3]), BAD);
        }
    }

    private static void forget() {
        Sentence.ofPromise(15, "Nothing is ANSWERED: how many were.");
        for (int many = 0; many <= 10; many++) {
            HummingSet x = Check.laid(CLEAR);
            for (int i = 0; i < many; i++) {
                x.answer(0, 0, 0, 9);
            }
            Check.due("forget() of " + many, x.forget(), many);
            Check.due("count(3)", x.count(3), 0);
            Check.due("possible(0)", x.possible(0), 7);
            Check.due("forget() again", x.forget(), 0);
        }
    }

    // ---- what is POSSIBLE

    private static void weights() {
        Sentence.is(TERMS, "the product over all PARTS of C, if it is in trouble, of 10 less C, if not");
        for (int c = 0; c <= 9; c++) {
            HummingSet x = Check.laid("s10,99;p0,0,0," + c + ",0;h0,0,30;");
            Check.due("possible(1) of C " + c, x.possible(1), 10);
            x.answer(0, 0, 0, 1);
            Check.due("in trouble, by C " + c, x.possible(1), c);
            x.forget();
            x.answer(0, 0, 0, 0);
            Check.due("in none, by C " + c, x.possible(1), 10 - c);
        }
    }

    private static void twoAtMost() {
        Sentence.is(TERMS, "POSSIBLE are STATES of two PARTS at most");
        for (int parts = 1; parts <= 8; parts++) {
            HummingSet x = Check.laid("s10,99;" + "p0,0,0,5,0;".repeat(parts));
            int states = 1 + parts + parts * (parts - 1) / 2;
            Check.due("possible(0) of " + parts, x.possible(0), states);
            Check.due("possible(1) of " + parts, x.possible(1), states * (long) Math.pow(5, parts));
        }
        int[][] rows = {{0, 1}, {1, 1}, {3, 1}, {6, 1}, {7, 0}};
        for (int[] row : rows) {
            HummingSet x = Check.laid(CLEAR);
            x.answer(0, 0, 0, row[0]);
            Check.due("possible(0), " + row[0] + " HEARD", x.possible(0), row[1]);
        }
    }

    private static void aboveZero() {
        Sentence.is(TERMS, "whose WEIGHT is above 0");
        HummingSet none = Check.laid("s10,99;" + "p0,0,0,0,0;".repeat(8));
        Check.due("possible(0) of C 0", none.possible(0), 1);
        Check.due("possible(1) of C 0", none.possible(1), 100000000);
        Check.due("likeliest() of C 0", none.likeliest(), 0);
        HummingSet one = Check.laid("s10,99;p0,0,0,0,0;p0,0,0,1,0;p0,0,0,9,0;");
        Check.due("possible(0) of C 0, 1, 9", one.possible(0), 4);
        Check.due("possible(1) of C 0, 1, 9", one.possible(1), 1000);
    }

    private static void allAnswered() {
        Sentence.is(TERMS, "by which all that is ANSWERED would be so");
        HummingSet x = Check.laid(CLEAR);
        x.answer(0, 0, 0, 1);
        x.answer(0, 0, 0, 1);
        Check.due("the same twice", x.possible(0), 1);
        x.answer(0, 0, 0, 2);
        Check.due("what can't be both", x.possible(0), 0);
        x.answer(0, 0, 0, 1);
        Check.due("nor comes back", x.possible(0), 0);
        HummingSet cold = Check.laid("s10,99;p0,0,0,5,30;h0,0,30;");
        cold.answer(0, 0, 29, 0);
        Check.due("29 minutes on nothing is learnt", cold.possible(0), 2);
        cold.answer(0, 0, 30, 1);
        Check.due("30 minutes on it is", cold.likeliest(), 1);
    }

    private static void oddsDue(HummingSet x, int p, long above, long below) {
        Check.due("odds(" + p + ", 0)", x.odds(p, 0), above);
        Check.due("odds(" + p + ", 1)", x.odds(p, 1), below);
    }

    private static void odds() {
        Sentence.is(TERMS, "above, below, in lowest terms");
        int[][] lowest = {{0, 1}, {1, 10}, {1, 5}, {3, 10}, {2, 5}, {1, 2}, {3, 5}, {7, 10}, {4, 5}, {9, 10}};
        for (int c = 0; c <= 9; c++) {
            oddsDue(Check.laid("s10,99;p0,0,0," + c + ",0;"), 0, lowest[c][0], lowest[c][1]);
        }
        HummingSet sure = Check.laid(CLEAR);
        sure.answer(0, 0, 0, 5);
        oddsDue(sure, 0, 1, 1);
        oddsDue(sure, 1, 0, 1);
        oddsDue(sure, 2, 1, 1);
        HummingSet eight = Check.laid("s10,99;" + "p0,0,0,5,0;".repeat(8));
        // 1 and 7 of 37, all of the same WEIGHT
        oddsDue(eight, 0, 8, 37);
        oddsDue(eight, 7, 8, 37);
    }

    private static void oddsNone() {
        Sentence.is(TERMS, "in lowest terms; none (none is POSSIBLE)");
        HummingSet x = Check.laid(CLEAR);
        x.answer(0, 0, 0, 8);
        for (int p = 0; p < 3; p++) {
            oddsDue(x, p, NONE, NONE);
        }
        x.forget();
        oddsDue(x, 0, 49, 99);
    }

    /** C of 9, in no trouble, and C of 1, in trouble: a WEIGHT of 1 is above 0. */
    private static void leastWeight() {
        Sentence.is(TERMS, "whose WEIGHT is above 0");
        HummingSet x = Check.laid("s10,99;p0,0,0,9,0;p0,0,0,1,0;h0,0,30;h1,1,30;");
        x.answer(0, 0, 0, 2);
        Check.due("possible(0)", x.possible(0), 1);
        Check.due("possible(1)", x.possible(1), 1);
        Check.due("likeliest()", x.likeliest(), 2);
        oddsDue(x, 0, 0, 1);
        oddsDue(x, 1, 1, 1);
        nextDue("of WEIGHT 1", x, 0, 0, 0, 1);
        changeDue(x, 100, 2, 10);
        rowDue(x, 10, 1);
        HummingSet all = Check.laid("s10,99;" + "p0,0,0,9,0;".repeat(8) + "h0,0,30;h1,0,30;h2,0,30;h3,0,30;"
                + "h4,0,30;h5,0,30;h6,0,30;h7,0,30;");
        all.answer(0, 0, 0, 0);
        Check.due("possible(1) of eight", all.possible(1), 1);
        Check.due("likeliest() of eight", all.likeliest(), 0);
    }

    private static void likeliest() {
        Sentence.is(TERMS, "LIKELIEST: the POSSIBLE STATE of the greatest WEIGHT, the lowest; none.");
        Check.due("all the same: the lowest", Check.laid("s10,99;" + "p0,0,0,5,0;".repeat(8)).likeliest(), 0);
        Check.due("the greatest is the last", Check.laid("s10,99;p0,0,0,6,0;p0,0,0,6,0;").likeliest(), 3);
        Check.due("two of three at most, the lowest", Check.laid("s10,99;" + "p0,0,0,6,0;".repeat(3)).likeliest(), 3);
        Check.due("the highest of eight", Check.laid("s10,99;" + "p0,0,0,1,0;".repeat(6) + "p0,0,0,9,0;p0,0,0,9,0;").likeliest(), 192);
        HummingSet x = Check.laid(CLEAR);
        x.answer(0, 0, 0, 7);
        Check.due("none", x.likeliest(), NONE);
    }

    // ---- what to ask

    private static void nextDue(String told, HummingSet x, int m, long kind, long of, long weight) {
        Check.due(told + ": KIND", x.next(m, 0), kind);
        Check.due(told + ": of", x.next(m, 1), of);
        Check.due(told + ": WEIGHTS", x.next(m, 2), weight);
    }

    private static void next() {
        Sentence.is(TERMS, "the ASK by which at worst (by what is answered) the WEIGHTS of POSSIBLE STATES left are least");
        HummingSet one = Check.laid("s10,99;p0,0,0,0,0;");
        nextDue("one STATE is POSSIBLE, all ASKS leave it", one, 0, 0, 0, 10);
        HummingSet x = Check.laid(CLEAR);
        nextDue("all told apart by LISTEN", x, 0, 0, 0, 360);
        x.answer(0, 0, 0, 1);
        nextDue("nothing more to learn", x, 0, 0, 0, 360);
        // only a MEASURE of 9 tells it: 180 IN, none of it HEARD
        HummingSet high = Check.laid("s1,99;p0,0,0,5,0;m0,1,50;m0,1,50;m0,1,50;m0,1,29;h0,2,1;");
        nextDue("MEASURE of 8 or 9", high, 0, 4, 0, 5);
        HummingSet most = Check.laid("s1,99;p0,0,0,5,0;m0,1,50;m0,1,50;m0,1,50;m0,1,30;h0,2,19;h0,2,1;");
        nextDue("MEASURE of 9 or 9", most, 0, 0, 0, 10);
    }

    private static void nextOfSeveral() {
        Sentence.is(TERMS, "of several that of least RISK, then of fewest MINUTES, then by KIND, then by what it is of");
        // 20 is below the ear, 120 is not: FINGER and MEASURE tell, at either STAGE
        String quiet = "s10,99;s10,99;p0,0,0,5,0;p0,0,0,0,0;p1,0,0,0,0;h0,0,20;e0,110;";
        nextDue("FINGER, at the lowest STAGE", Check.laid(quiet), 0, 2, 0, 500);
        nextDue("RISK at STAGE 0", Check.laid(quiet + "v1,300,1;"), 0, 2, 1, 500);
        nextDue("299 volts are none", Check.laid(quiet + "v1,299,1;"), 0, 2, 0, 500);
        nextDue("RISK at both: FINGER, at the lowest", Check.laid(quiet + "v1,300,1;v2,300,1;"), 0, 2, 0, 500);
        // the mains hide it but for OUT of 0 and MEASURE of 1
        String hidden = "p1,1,0,5,0;m0,0,30;h0,0,30;";
        nextDue("OUT ahead of MEASURE", Check.laid("s10,20;s10,20;" + hidden), 0, 1, 0, 5);
        nextDue("OUT at RISK: MEASURE", Check.laid("s10,20;s10,19;" + hidden), 0, 4, 1, 5);
        nextDue("both at RISK: OUT, of fewer MINUTES", Check.laid("s10,20;s10,19;" + hidden + "v0,300,1;"), 0, 1, 0, 5);
        // each is heard like both; ACROSS a tin tells of the other, MEASURE takes longer
        String either = "h0,0,30;h1,0,30;";
        nextDue("ACROSS ahead of MEASURE", Check.laid("s10,99;p0,0,0,5,0;p0,2,0,5,0;" + either), 0, 3, 0, 50);
        nextDue("ACROSS the tin", Check.laid("s10,99;p0,2,0,5,0;p0,0,0,5,0;" + either), 0, 3, 1, 50);
        nextDue("of two tins the lowest", Check.laid("s10,99;p0,0,0,5,0;p0,0,0,5,0;" + either), 0, 3, 0, 50);
        nextDue("of no tin MEASURE", Check.laid("s10,99;p0,2,0,5,0;p0,2,0,5,0;" + either), 0, 4, 0, 50);
        nextDue("WEIGHTS ahead of RISK", Check.laid("s10,99;p0,2,0,5,0;p0,2,0,5,0;" + either + "v0,900,1;"), 0, 4, 0, 50);
    }

    /** Two ASKS each time that leave as little and risk as little. */
    private static void minutesOfKinds() {
        Sentence.is(TERMS, "MINUTES of KINDS 0 to 4: 1, 3, 2, 4, 5.");
        nextDue("LISTEN ahead of all", Check.laid("s10,99;s10,99;p1,2,0,5,0;h0,1,30;"), 0, 0, 0, 5);
        // 30 or -50 is HEARD of none; OUT of 0 leaves 0 or -80, FINGER makes it 130 or 50
        nextDue("FINGER ahead of OUT", Check.laid("s10,99;s10,99;p1,1,0,5,0;m0,0,30;h0,0,-50;h0,0,-30;e0,60;"), 0, 2, 0, 5);
        // 0 at STAGE 0 and 1 at STAGE 1, each heard like both: OUT of 0 tells of 1, ACROSS each of the other
        nextDue("OUT ahead of ACROSS", Check.laid("s10,99;s10,99;p0,0,0,5,0;p1,0,0,5,0;h0,0,30;h1,0,30;"), 0, 1, 0, 50);
        nextDue("ACROSS ahead of MEASURE", Check.laid("s10,99;p0,0,0,5,0;p0,0,0,5,0;h0,0,30;h1,0,30;"), 0, 3, 0, 50);
    }

    private static void nextMinutes() {
        Sentence.is(TERMS, "NEXT m minutes on");
        HummingSet x = Check.laid("s10,99;p0,0,0,5,0;p0,0,0,5,15;p0,0,0,5,30;h0,0,30;h1,1,30;h2,2,30;");
        // cold the STATES of PART 0 alone are told apart: 4 and 3 of 7, each 125
        Check.due("next(0, 2)", x.next(0, 2), 4 * 125);
        Check.due("next(14, 2)", x.next(14, 2), 4 * 125);
        Check.due("next(15, 2)", x.next(15, 2), 2 * 125);
        Check.due("next(29, 2)", x.next(29, 2), 2 * 125);
        Check.due("next(30, 2)", x.next(30, 2), 125);
    }

    private static void nextNone() {
        Sentence.is(TERMS, "KIND, what it is of, those WEIGHTS; none.");
        HummingSet x = Check.laid(CLEAR);
        x.answer(0, 0, 0, 7);
        nextDue("none POSSIBLE", x, 0, NONE, NONE, NONE);
        nextDue("none POSSIBLE, warm", x, 30, NONE, NONE, NONE);
        x.forget();
        nextDue("all again", x, 30, 0, 0, 360);
    }

    // ---- what to change

    private static void changeDue(HummingSet x, int q, int set, int cost) {
        Check.due("change(" + q + ", 0)", x.change(q, 0), set);
        Check.due("change(" + q + ", 1)", x.change(q, 1), cost);
    }

    private static void quiet() {
        Sentence.is(TERMS, "QUIET is a STATE, if nothing is HEARD of it 30 minutes on.");
        changeDue(Check.laid("s10,99;p0,0,0,5,30;h0,0,20;"), 51, 1, 10);
        changeDue(Check.laid("s10,99;p0,0,0,5,30;h0,0,19;"), 51, 0, 0);
        changeDue(Check.laid("s10,99;p0,0,0,5,0;h0,2,-20;"), 51, 1, 10);
        changeDue(Check.laid("s10,99;p0,0,0,5,0;h0,2,-19;"), 51, 0, 0);
        changeDue(Check.laid("s10,99;p0,0,0,5,0;e1,0;"), 1, NONE, NONE);
        changeDue(Check.laid("s10,99;p0,0,0,5,0;e1,1;"), 100, 0, 0);
    }

    private static void changeHundredths() {
        Sentence.is(TERMS, "CHANGE for q hundredths (0 to 100)");
        HummingSet loud = Check.laid("s10,99;p0,0,0,5,0;m0,0,50;");
        changeDue(loud, 0, 0, 0);
        changeDue(loud, 1, NONE, NONE);
        changeDue(loud, 100, NONE, NONE);
        HummingSet still = Check.laid("s10,99;p0,0,0,5,0;");
        for (int q = 0; q <= 100; q++) {
            changeDue(still, q, 0, 0);
        }
        for (int q : new int[] {-1, 101, Integer.MIN_VALUE, Integer.MAX_VALUE}) {
            changeDue(still, q, BAD, BAD);
        }
    }

    private static void changeOrMore() {
        Sentence.is(TERMS, "by which WEIGHTS of POSSIBLE STATES that are QUIET then are q hundredths of all or more");
        for (int c = 0; c <= 9; c++) {
            HummingSet x = Check.laid("s10,99;p0,0,0," + c + ",0;h0,0,30;");
            int q = 100 - 10 * c;
            changeDue(x, q, 0, 0);
            if (c > 0) {
                changeDue(x, q + 1, 1, 10);
                changeDue(x, 100, 1, 10);
            }
        }
        // 360 of 990 are QUIET: 36.4 hundredths, not to be cut or rounded
        HummingSet x = Check.laid(CLEAR);
        changeDue(x, 36, 0, 0);
        changeDue(x, 37, 1, 10);
        // 15 and 15 are heard together alone: 990 of 999 are QUIET, 99.1 hundredths
        HummingSet nearly = Check.laid("s10,99;p0,0,0,1,0;p0,0,0,1,0;p0,0,0,1,0;h0,0,15;h1,0,15;");
        changeDue(nearly, 99, 0, 0);
        changeDue(nearly, 100, 1, 10);
    }

    private static void changeOfSeveral() {
        Sentence.is(TERMS, "the set of PARTS of least cost, by which");
        Sentence.is(TERMS, "of several the lowest: it, its cost; none.");
        changeDue(Check.laid(SAME), 26, 1, 10);
        changeDue(Check.laid(SAME + "c0,11;"), 26, 2, 10);
        changeDue(Check.laid(SAME + "c1,9;"), 26, 2, 9);
        changeDue(Check.laid(SAME + "c0,99;c1,99;"), 100, 3, 198);
        // what costs as much together as one alone: 1 and 2 of 5 each, 0 of 10; 0 is the lowest
        String each = "s10,99;p0,0,0,5,0;p0,0,0,2,0;p0,2,0,1,0;h0,0,30;h1,1,30;h2,2,30;c0,10;c1,5;c2,5;";
        changeDue(Check.laid(each), 50, 1, 10);
        String eight = "s10,99;" + "p0,0,0,9,0;".repeat(8) + "h7,0,30;";
        changeDue(Check.laid(eight), 100, 128, 10);
        StringBuilder all = new StringBuilder("s10,99;" + "p0,0,0,9,0;".repeat(8));
        for (int p = 0; p < 8; p++) {
            all.append("h").append(p).append(",0,50;c").append(p).append(",99;");
        }
        changeDue(Check.laid(all.toString()), 100, 255, 792);
    }

    private static void changeNone() {
        Sentence.ofPromise(20, "NONE (none is POSSIBLE, too)");
        HummingSet mains = Check.laid("s10,99;p0,0,0,5,0;m0,0,30;h0,0,-20;");
        changeDue(mains, 50, 0, 0);
        changeDue(mains, 51, NONE, NONE);
        HummingSet x = Check.laid(CLEAR);
        x.answer(0, 0, 0, 7);
        changeDue(x, 0, NONE, NONE);
        changeDue(x, 100, NONE, NONE);
        x.forget();
        changeDue(x, 0, 0, 0);
    }

    // ---- one after the other

    private static void rowDue(HummingSet x, long sum, long first) {
        Check.due("oneByOne(0)", x.oneByOne(0), sum);
        Check.due("oneByOne(1)", x.oneByOne(1), first);
    }

    private static void oneByOne() {
        Sentence.is(TERMS, "a row of PARTS, none twice");
        for (int c = 1; c <= 9; c++) {
            rowDue(Check.laid("s10,99;p0,0,0," + c + ",0;h0,0,30;c0,7;"), 7 * c, 0);
        }
        // all that is not QUIET each time: 75, then 50
        rowDue(Check.laid(SAME), 1250, 0);
    }

    private static void oneByOneEnds() {
        Sentence.is(TERMS, "that ends when with all of it CHANGED all POSSIBLE STATES are QUIET, or no PART is left");
        HummingSet loud = Check.laid("s10,99;p0,0,0,5,0;m0,0,50;");
        rowDue(loud, 100, 0);
        HummingSet three = Check.laid("s10,99;p0,0,0,5,0;p0,0,0,5,0;p0,0,0,5,0;m0,0,50;c0,3;c1,2;c2,1;");
        // no PART helps: 875 each time, each PART once, so in any order
        rowDue(three, 875 * 6, 0);
        HummingSet first = Check.laid("s10,99;p0,0,0,5,0;p0,0,0,5,0;h0,0,30;c0,9;c1,1;");
        rowDue(first, 450, 0);
        // 0 CHANGED lets 1 be heard: (a STATE that is QUIET and with more CHANGED is not, counts again)
        HummingSet again = Check.laid("s10,99;p0,0,0,5,0;p0,0,0,5,0;h0,0,30;h1,0,-30;c0,1;c1,2;");
        rowDue(again, 50 + 100, 0);
        HummingSet not = Check.laid("s10,99;p0,0,0,5,0;m0,0,30;h0,0,-20;");
        not.answer(0, 0, 0, 0);
        rowDue(not, 0, NONE);
    }

    private static void oneByOneLeast() {
        Sentence.is(TERMS, "(a STATE that is QUIET and with more CHANGED is not, counts again): the least such sum");
        // WEIGHTS 40, 40, 10, 10, 60 not QUIET; with 0 CHANGED 20, with 1 CHANGED 50
        String two = "s10,99;p0,0,0,5,0;p0,0,0,2,0;h0,0,30;h1,1,30;";
        rowDue(Check.laid(two + "c0,6;c1,1;"), 60 + 6 * 50, 1);
        rowDue(Check.laid(two + "c0,3;c1,1;"), 3 * 60 + 20, 0);
        // as dear either way: 4 times 60 and 20, 60 and 4 times 50
        rowDue(Check.laid(two + "c0,4;c1,1;"), 260, 0);
        // 0 and 1 put each other out; with 1 CHANGED what was QUIET is heard, and counts again
        String each = "s10,99;p0,0,0,5,0;p0,0,0,2,0;h0,0,30;h1,0,-30;";
        // 1 and 2 are heard: 40 and 10; with 0 CHANGED 2 and 3: 20; with 1 CHANGED 1 and 3: 50
        rowDue(Check.laid(each + "c0,6;c1,1;"), 6 * 50 + 20, 0);
        rowDue(Check.laid(each + "c0,1;c1,6;"), 50 + 6 * 20, 0);
    }

    private static void oneByOneFirst() {
        Sentence.is(TERMS, "the PART that is first in the rows of it (of several the lowest; "
                + "none: all POSSIBLE STATES are QUIET, or none is POSSIBLE)");
        rowDue(Check.laid(SAME), 1250, 0);
        rowDue(Check.laid(SAME + "c1,9;"), 9 * 75 + 10 * 50, 1);
        rowDue(Check.laid(SAME + "c0,9;"), 9 * 75 + 10 * 50, 0);
        rowDue(Check.laid("s10,99;" + "p0,0,0,9,0;".repeat(8) + "h7,0,30;"), 10 * weightWith7(), 7);
        rowDue(Check.laid("s10,99;p0,0,0,5,0;"), 0, NONE);
        rowDue(Check.laid("s10,99;p0,0,0,0,0;h0,0,50;"), 0, NONE);
    }

    /** Of eight PARTS with C of 9: PART 7 alone, and with each of the seven others. */
    private static long weightWith7() {
        return 9 + 7 * 81;
    }

    private static void oneByOneNone() {
        Sentence.ofPromise(21, "the sum (what = 0; 0 if none is POSSIBLE), the first PART (1; NONE). BAD.");
        HummingSet x = Check.laid(SAME);
        x.answer(0, 0, 0, 7);
        rowDue(x, 0, NONE);
        Check.due("oneByOne(2)", x.oneByOne(2), BAD);
        Check.due("oneByOne(-1)", x.oneByOne(-1), BAD);
        x.forget();
        rowDue(x, 1250, 0);
        x.answer(0, 0, 0, 0);
        rowDue(x, 0, NONE);
    }

    /** Sums past an int: 100000000 of eight PARTS that are in no trouble, loud in any case. */
    private static void heaviestOfAll() {
        Sentence.is(TERMS, "costs the sum over its PARTS of what that one costs times the WEIGHTS of POSSIBLE STATES that are not QUIET");
        StringBuilder text = new StringBuilder("s10,99;" + "p0,0,0,0,0;".repeat(8) + "m0,0,50;");
        for (int p = 0; p < 8; p++) {
            text.append("c").append(p).append(",99;");
        }
        HummingSet x = Check.laid(text.toString());
        rowDue(x, 8L * 99 * 100000000, 0);
        changeDue(x, 0, 0, 0);
        changeDue(x, 1, NONE, NONE);
        HummingSet still = Check.laid("s10,99;" + "p0,0,0,0,0;".repeat(8));
        changeDue(still, 100, 0, 0);
        nextDue("of one STATE", still, 0, 0, 0, 100000000);
        oddsDue(still, 7, 0, 1);
    }

    private static void badAheadOfNone() {
        Sentence.is(TERMS, "BAD: a number is none that is told");
        Sentence.is(TERMS, "Of several the first; nothing changes then.");
        HummingSet x = Check.laid(CLEAR);
        x.answer(0, 0, 0, 7);
        Check.due("odds(3, 0), none POSSIBLE", x.odds(3, 0), BAD);
        Check.due("odds(0, 2), none POSSIBLE", x.odds(0, 2), BAD);
        Check.due("next(31, 0), none POSSIBLE", x.next(31, 0), BAD);
        Check.due("next(0, 3), none POSSIBLE", x.next(0, 3), BAD);
        Check.due("change(101, 0), none POSSIBLE", x.change(101, 0), BAD);
        Check.due("change(0, 2), none POSSIBLE", x.change(0, 2), BAD);
        Check.due("oneByOne(2), none POSSIBLE", x.oneByOne(2), BAD);
    }
}
