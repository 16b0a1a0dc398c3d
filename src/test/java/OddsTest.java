/** Promises 14 to 21: answer, forget, possible, odds, likeliest, next, change, oneByOne. */
public final class OddsTest {
    private static final int NONE = HummingSet.NONE;
    private static final int BAD = HummingSet.BAD;
    /** Three PARTS of one STAGE, each with a TONE of its own: what is HEARD is the STATE. */
    private static final String CLEAR = "s10,99;p0,0,0,5,0;p0,0,0,2,0;p0,2,0,1,0;h0,0,30;h1,1,30;h2,2,30;";

    private OddsTest() {
    }

    public static void main(String[] args) {
        answer();
        forget();
        possible();
        odds();
        likeliest();
        next();
        nextOfSeveral();
        nextBad();
        change();
        changeBad();
        oneByOne();
        oneByOneThatGetsLouder();
        Check.end();
    }

    private static void answer() {
        HummingSet x = Check.laid(CLEAR);
        Check.due("answer m 31", x.answer(0, 0, 31, 0), BAD);
        Check.due("answer m -1", x.answer(0, 0, -1, 0), BAD);
        Check.due("answer 10", x.answer(0, 0, 0, 10), BAD);
        Check.due("answer -1", x.answer(0, 0, 0, -1), BAD);
        Check.due("count(3) after bad answers", x.count(3), 0);
        for (int i = 1; i <= 10; i++) {
            Check.due("answer " + i, x.answer(0, 0, 0, i == 10 ? 9 : 1), i);
        }
        Check.due("an eleventh answer", x.answer(0, 0, 0, 1), HummingSet.FULL);
        Check.due("bad before full", x.answer(0, 0, 0, 10), BAD);
        Check.due("count(3)", x.count(3), 10);
        Check.due("the tenth counts", x.possible(0), 0);
    }

    private static void forget() {
        HummingSet x = Check.laid(CLEAR);
        Check.due("forget nothing", x.forget(), 0);
        x.answer(0, 0, 0, 1);
        x.answer(0, 0, 30, 2);
        Check.due("nothing is POSSIBLE", x.possible(0), 0);
        Check.due("forget", x.forget(), 2);
        Check.due("all is POSSIBLE", x.possible(0), 7);
        Check.due("count(3)", x.count(3), 0);
    }

    private static void possible() {
        HummingSet x = Check.laid(CLEAR);
        // all but the three at once: 1000 less 5 times 2 times 1
        Check.due("possible(0)", x.possible(0), 7);
        Check.due("possible(1)", x.possible(1), 990);
        x.answer(0, 0, 0, 3);
        Check.due("possible(0) of TONES 0 and 1", x.possible(0), 1);
        Check.due("possible(1) of TONES 0 and 1", x.possible(1), 5 * 2 * 9);
        x.forget();
        x.answer(0, 0, 0, 7);
        Check.due("three are never POSSIBLE", x.possible(0), 0);
        Check.due("possible(1) of none", x.possible(1), 0);
        Check.due("possible(2)", x.possible(2), BAD);
        Check.due("possible(-1)", x.possible(-1), BAD);
        HummingSet never = Check.laid("s1,1;p0,0,0,0,0;p0,0,0,9,0;");
        Check.due("C of 0 is never in trouble", never.possible(0), 2);
        Check.due("possible(1)", never.possible(1), 100);
        HummingSet cold = Check.laid("s10,1;p0,0,0,5,9;h0,0,30;");
        cold.answer(0, 0, 8, 0);
        Check.due("cold, nothing is learnt", cold.possible(0), 2);
        cold.answer(0, 0, 9, 0);
        Check.due("warm, it is", cold.possible(0), 1);
    }

    private static void odds() {
        HummingSet x = Check.laid(CLEAR);
        // PART 0: 5 times (8 times 9, 2 times 9, 8 times 1) of 990
        Check.due("odds(0, 0)", x.odds(0, 0), 49);
        Check.due("odds(0, 1)", x.odds(0, 1), 99);
        Check.due("odds(2, 0)", x.odds(2, 0), 1);
        Check.due("odds(2, 1)", x.odds(2, 1), 11);
        x.answer(0, 0, 0, 4);
        Check.due("odds(0, 0) of none", x.odds(0, 0), 0);
        Check.due("odds(0, 1) of none", x.odds(0, 1), 1);
        Check.due("odds(2, 0) of all", x.odds(2, 0), 1);
        Check.due("odds(2, 1) of all", x.odds(2, 1), 1);
        Check.due("odds(3, 0)", x.odds(3, 0), BAD);
        Check.due("odds(-1, 0)", x.odds(-1, 0), BAD);
        Check.due("odds(0, 2)", x.odds(0, 2), BAD);
        Check.due("odds(0, -1)", x.odds(0, -1), BAD);
        x.answer(0, 0, 0, 5);
        Check.due("odds, none POSSIBLE", x.odds(0, 0), NONE);
        Check.due("odds below, none POSSIBLE", x.odds(0, 1), NONE);
        Check.due("odds, none POSSIBLE, of no PART", x.odds(3, 0), BAD);
    }

    private static void likeliest() {
        HummingSet x = Check.laid(CLEAR);
        Check.due("as likely 0 as 1: the lowest", x.likeliest(), 0);
        HummingSet y = Check.laid("s1,1;p0,0,0,6,0;p0,0,0,1,0;p0,0,0,9,0;");
        Check.due("likeliest", y.likeliest(), 5);
        y.answer(0, 0, 0, 1);
        Check.due("none", y.likeliest(), NONE);
    }

    private static void next() {
        HummingSet x = Check.laid(CLEAR);
        // LISTEN tells all apart; the heaviest are 0 and 1, 360 each; ACROSS, OUT and the rest are no better
        Check.due("next(0, 0)", x.next(0, 0), 0);
        Check.due("next(0, 1)", x.next(0, 1), 0);
        Check.due("next(0, 2)", x.next(0, 2), 360);
        HummingSet two = Check.laid("s10,99;s10,99;p0,0,0,5,0;p1,0,0,5,0;h0,0,30;h1,0,30;");
        // LISTEN leaves 75 of 100, OUT 50; MEASURE of 1 tells 0, 30 and 60 apart: 0 | 1, 2 | 3
        Check.due("next KIND", two.next(0, 0), 1);
        Check.due("next of", two.next(0, 1), 0);
        Check.due("next WEIGHTS", two.next(0, 2), 50);
        HummingSet cold = Check.laid("s10,99;p0,0,0,5,9;h0,0,30;");
        Check.due("cold, nothing is learnt", cold.next(8, 2), 10);
        Check.due("then LISTEN is the fastest", cold.next(8, 0), 0);
        Check.due("warm, it is", cold.next(9, 2), 5);
    }

    private static void nextOfSeveral() {
        // 20 is below the ear, 120 is not: FINGER and MEASURE tell, at either STAGE
        String quiet = "s10,99;s10,99;p0,0,0,5,0;h0,0,20;e0,110;";
        HummingSet finger = Check.laid(quiet);
        Check.due("FINGER takes fewer minutes than MEASURE", finger.next(0, 0), 2);
        Check.due("the lowest STAGE", finger.next(0, 1), 0);
        HummingSet safer = Check.laid("s10,99;s10,99;p0,0,0,5,0;p0,0,0,0,0;h0,0,20;e0,110;v1,300,1;");
        Check.due("STAGE 0 is at risk: KIND", safer.next(0, 0), 2);
        Check.due("STAGE 0 is at risk: STAGE 1", safer.next(0, 1), 1);
        // 30 or -50 is HEARD of none; OUT of 0 leaves 0 or -80, FINGER makes it 130 or 50: both tell
        HummingSet faster = Check.laid("s10,99;s10,99;p1,1,0,5,0;m0,0,30;h0,0,-50;h0,0,-30;e0,60;");
        Check.due("FINGER takes fewer minutes than OUT", faster.next(0, 0), 2);
        HummingSet measure = Check.laid("s10,99;s10,99;p1,0,0,5,0;h0,0,20;e0,999;");
        Check.due("only MEASURE tells", measure.next(0, 0), 4);
        Check.due("only at STAGE 1", measure.next(0, 1), 1);
        HummingSet risky = Check.laid("s10,99;p0,0,0,5,0;h0,0,20;e0,999;v0,900,1;");
        Check.due("WEIGHTS ahead of RISK", risky.next(0, 0), 4);
        // the mains hide the PART but for OUT of 0, which is at risk, and MEASURE, which is slower
        HummingSet out = Check.laid("s10,10;s10,10;p1,1,0,5,0;m0,0,30;h0,0,30;");
        Check.due("RISK ahead of MINUTES: KIND", out.next(0, 0), 4);
        HummingSet bears = Check.laid("s10,99;s10,99;p1,1,0,5,0;m0,0,30;h0,0,30;");
        Check.due("without RISK OUT is faster", bears.next(0, 0), 1);
    }

    private static void nextBad() {
        HummingSet x = Check.laid(CLEAR);
        Check.due("next(31, 0)", x.next(31, 0), BAD);
        Check.due("next(-1, 0)", x.next(-1, 0), BAD);
        Check.due("next(0, 3)", x.next(0, 3), BAD);
        Check.due("next(0, -1)", x.next(0, -1), BAD);
        x.answer(0, 0, 0, 9);
        for (int what = 0; what < 3; what++) {
            Check.due("next, none POSSIBLE", x.next(0, what), NONE);
        }
    }

    private static void change() {
        HummingSet x = Check.laid(CLEAR + "c0,9;c1,4;c2,5;");
        changeDue(x, 0, 0, 0);
        changeDue(x, 36, 0, 0);
        // 360 of 990 are 36.36 hundredths
        changeDue(x, 37, 2, 4);
        // 1 and 2 CHANGED: 500 of 990; 0 alone, which costs as much: 720 of 990
        changeDue(x, 50, 1, 9);
        changeDue(x, 73, 3, 13);
        changeDue(x, 100, 7, 18);
        HummingSet same = Check.laid("s10,99;p0,0,0,5,0;p0,0,0,5,0;h0,0,30;h1,1,30;");
        changeDue(same, 50, 1, 10);
        HummingSet mains = Check.laid("s10,99;p0,0,0,5,0;m0,0,30;h0,0,-20;");
        changeDue(mains, 50, 0, 0);
        changeDue(mains, 51, NONE, NONE);
        HummingSet late = Check.laid("s10,99;p0,0,0,5,30;h0,0,30;");
        changeDue(late, 51, 1, 10);
    }

    private static void changeDue(HummingSet x, int q, int set, int cost) {
        Check.due("change(" + q + ", 0)", x.change(q, 0), set);
        Check.due("change(" + q + ", 1)", x.change(q, 1), cost);
    }

    private static void changeBad() {
        HummingSet x = Check.laid(CLEAR);
        Check.due("change(101, 0)", x.change(101, 0), BAD);
        Check.due("change(-1, 0)", x.change(-1, 0), BAD);
        Check.due("change(0, 2)", x.change(0, 2), BAD);
        Check.due("change(0, -1)", x.change(0, -1), BAD);
        x.answer(0, 0, 0, 9);
        changeDue(x, 0, NONE, NONE);
        changeDue(x, 100, NONE, NONE);
    }

    private static void oneByOne() {
        HummingSet x = Check.laid("s10,99;p0,0,0,5,0;p0,0,0,2,0;h0,0,30;h1,1,30;c0,6;c1,1;");
        // WEIGHTS 40, 40, 10, 10: not QUIET 60; with 0 CHANGED 20, with 1 CHANGED 50
        // 0, 1: 6 times 60 and 20; 1, 0: 60 and 6 times 50
        Check.due("oneByOne(0)", x.oneByOne(0), 360);
        Check.due("oneByOne(1)", x.oneByOne(1), 1);
        x.answer(0, 0, 0, 1);
        Check.due("one is left", x.oneByOne(0), 240);
        Check.due("it is PART 0", x.oneByOne(1), 0);
        x.forget();
        x.answer(0, 0, 0, 0);
        Check.due("all QUIET: the sum", x.oneByOne(0), 0);
        Check.due("all QUIET: no PART", x.oneByOne(1), NONE);
        x.answer(0, 0, 0, 1);
        Check.due("none POSSIBLE: the sum", x.oneByOne(0), 0);
        Check.due("none POSSIBLE: no PART", x.oneByOne(1), NONE);
        Check.due("oneByOne(2)", x.oneByOne(2), BAD);
        Check.due("oneByOne(-1)", x.oneByOne(-1), BAD);
        HummingSet same = Check.laid("s10,99;p0,0,0,5,0;p0,0,0,5,0;h0,0,30;h1,1,30;");
        // 10 times 75 and 10 times 50, either way
        Check.due("as good either way: the sum", same.oneByOne(0), 1250);
        Check.due("as good either way: the lowest", same.oneByOne(1), 0);
    }

    private static void oneByOneThatGetsLouder() {
        // mains of 30 that PART 0 in trouble puts out: CHANGED it is loud again, and stays so
        HummingSet x = Check.laid("s10,99;p0,0,0,5,0;p0,0,0,5,0;m0,0,30;h0,0,-20;c1,1;");
        // 50 of 100 are not QUIET: 1 first: 50, then 0: 10 times 50; 0 first: 500, then 100
        Check.due("till no PART is left: the sum", x.oneByOne(0), 550);
        Check.due("till no PART is left: the first", x.oneByOne(1), 1);
        HummingSet only = Check.laid("s10,99;p0,0,0,5,0;m0,0,30;h0,0,-20;");
        only.answer(0, 0, 0, 0);
        Check.due("QUIET as it is: no row", only.oneByOne(0), 0);
        Check.due("QUIET as it is: no PART", only.oneByOne(1), NONE);
        // 0 and 1 put each other out: 1 CHANGED alone lets 0 be heard
        HummingSet each = Check.laid("s10,99;p0,0,0,5,0;p0,0,0,5,0;h0,0,30;h1,0,-30;");
        // 0 | 1, 2 loud | 3 QUIET: 50 not QUIET; with 0 CHANGED 2 and 3: 50
        Check.due("counts again", each.oneByOne(0), 1000);
    }
}
