/** The edges of what stands beside, sentence by sentence: Terms 4 and promises 22 to 29. */
public final class BesideBoundsTest {
    private static final int BAD = HummingSet.BAD;
    private static final int NO = HummingSet.NO;
    private static final int FULL = HummingSet.FULL;
    private static final String TERMS = "Terms";
    private static final String PART = "p0,0,0,5,0;";
    private static final String SAME = "s10,99;p0,0,0,5,0;p0,0,0,5,0;h0,0,30;h1,1,30;";

    private BesideBoundsTest() {
    }

    public static void main(String[] args) {
        louder();
        louderWarm();
        howlsOrMore();
        howlsOfMany();
        howlsPastAnInt();
        howlsAsBits();
        goesYears();
        goesByAge();
        goesAtMost();
        nextToGo();
        setOfDraws();
        setBelow();
        keptAtMost();
        keptNothing();
        keptFull();
        back();
        count();
        Check.end();
    }

    private static void louder() {
        Sentence.is(TERMS, "LOUDER: PARTS of a STATE (bits) by CHANGING which alone it is LOUDER");
        // mains of 20 that a PART in trouble brings to 19, to -20, to -21
        int[][] rows = {{-1, 1}, {0, 0}, {-40, 0}, {-39, 1}, {-41, 0}, {1, 0}};
        for (int[] row : rows) {
            HummingSet x = Check.laid("s10,99;" + PART + "m0,0,20;h0,0," + row[0] + ";");
            Check.due("louder(1) of " + row[0], x.louder(1), row[1]);
            Check.due("louder(0) of " + row[0], x.louder(0), 0);
        }
        StringBuilder eight = new StringBuilder("s10,99;" + PART.repeat(8) + "m0,1,50;m0,1,50;");
        for (int p = 0; p < 8; p++) {
            eight.append("h").append(p).append(",1,-1;");
        }
        HummingSet x = Check.laid(eight.toString());
        Check.due("louder(255)", x.louder(255), 255);
        Check.due("louder(129)", x.louder(129), 129);
        Check.due("louder(128)", x.louder(128), 128);
        Check.due("louder(256)", x.louder(256), BAD);
        Check.due("louder(-1)", x.louder(-1), BAD);
        // each alone: two that together would do change nothing by themselves
        HummingSet pair = Check.laid("s1,99;" + PART + PART + "m0,0,10;h0,0,-1;h1,0,-1;m0,0,9;");
        Check.due("louder(3): 17, 18 and 19 are handed on as 1", pair.louder(3), 0);
    }

    private static void louderWarm() {
        Sentence.is(TERMS, "it is LOUDER (30 minutes on)");
        for (int w : new int[] {0, 1, 29, 30}) {
            HummingSet x = Check.laid("s10,99;p0,0,0,5," + w + ";m0,0,20;h0,0,-5;");
            Check.due("louder(1), W " + w, x.louder(1), 1);
        }
    }

    private static void howlsDue(String text, int want) {
        Check.due("howls() of " + text, Check.laid(text).howls(), want);
    }

    private static void howlsOrMore() {
        Sentence.is(TERMS, "is 100 times ten to the power of how many these are, or more");
        for (int tone = 0; tone < 3; tone++) {
            String way = PART + "f0," + tone + ",";
            howlsDue("s10,99;" + way + "99;", 0);
            howlsDue("s10,99;" + way + "100;", 1 << tone);
            howlsDue("s10,99;" + way + "101;", 1 << tone);
            howlsDue("s10,99;" + way + "0;", 0);
            howlsDue("s10,99;" + way + "-100;", 0);
            howlsDue("s5,99;" + way + "199;", 0);
            howlsDue("s5,99;" + way + "200;", 1 << tone);
            howlsDue("s4,99;" + way + "200;", 0);
            howlsDue("s50,99;" + way + "20;", 1 << tone);
            howlsDue("s50,99;" + way + "19;", 0);
            howlsDue("s50,99;" + way + "-200;", 0);
        }
        // 1.1 times 1.1 is 1.21, times 0.83 is 1.0043: nothing is cut on the way
        howlsDue("s11,99;s11,99;" + PART + "f0,0,83;", 1);
        howlsDue("s11,99;s11,99;" + PART + "f0,0,82;", 0);
    }

    private static void howlsOfMany() {
        Sentence.is(TERMS, "the G of its STAGE and of all behind that up to the end, multiplied, times L");
        for (int stages = 1; stages <= 6; stages++) {
            for (int s = 0; s < stages; s++) {
                // all hand on ten tenths but its own STAGE and the last one ahead of it
                String text = (s == 0 ? "" : "s10,99;".repeat(s - 1) + "s50,99;") + "s20,99;" + "s10,99;".repeat(stages - s - 1) + PART;
                howlsDue(text + "f" + s + ",1,50;", 2);
                howlsDue(text + "f" + s + ",1,49;", 0);
            }
        }
        Sentence.is(TERMS, "HOWLS are TONES (bits) for which some way back brings its own or more");
        howlsDue("s10,99;" + PART, 0);
        howlsDue("s10,99;" + PART + "f0,0,99;f0,1,100;f0,2,99;", 2);
        howlsDue("s10,99;" + PART + "f0,0,100;f0,1,100;f0,2,100;", 7);
        howlsDue("s10,99;" + PART + "f0,0,99;f0,0,99;f0,0,99;", 0);
        howlsDue("s10,99;" + PART + "f0,0,-200;f0,0,100;f0,0,-200;", 1);
    }

    private static void howlsPastAnInt() {
        Sentence.is(TERMS, "multiplied, times L");
        String six = "s50,99;".repeat(6) + PART;
        for (int way : new int[] {1, 2, 3, 50, 99, 137, 199, 200}) {
            howlsDue(six + "f0,0," + way + ";", 1);
            howlsDue(six + "f0,0," + -way + ";", 0);
        }
        howlsDue("s1,99;".repeat(6) + PART + "f0,0,200;f5,1,200;", 0);
    }

    private static void howlsAsBits() {
        Sentence.ofPromise(23, "HOWLS, as bits.");
        Check.due("howls() of a new object", new HummingSet().howls(), 0);
        for (int tones = 0; tones < 8; tones++) {
            StringBuilder text = new StringBuilder("s10,99;" + PART);
            for (int t = 0; t < 3; t++) {
                text.append("f0,").append(t).append((tones >> t & 1) == 0 ? ",-100;" : ",100;");
            }
            howlsDue(text.toString(), tones);
        }
    }

    /** Year by year, as the document says it. */
    private static int gone(int q, int age, int years) {
        long left = 1000000;
        for (int y = 0; y < years; y++) {
            long thousandths = Math.min(999, (long) q * (age + y) / 10);
            left -= left * thousandths / 1000;
        }
        return (int) (1000000 - left);
    }

    private static void goesYears() {
        Sentence.is(TERMS, "how many go in y years (1 to 50)");
        HummingSet x = Check.laid("s10,99;p0,0,30,5,0;");
        for (int y = 1; y <= 50; y++) {
            Check.due("goes(0, " + y + ")", x.goes(0, y), gone(5, 30, y));
        }
        for (int y : new int[] {0, -1, 51, 100, Integer.MIN_VALUE, Integer.MAX_VALUE}) {
            Check.due("goes(0, " + y + ")", x.goes(0, y), BAD);
            Check.due("nextToGo(" + y + ")", x.nextToGo(y), BAD);
        }
    }

    private static void goesByAge() {
        Sentence.is(TERMS, "(Q times age by 10, cut, 999 at most) of a thousand, cut; a year older each time");
        // 5 by 10 is cut at 1 year of age, not at 2
        int[][] rows = {{5, 0, 1, 0}, {5, 1, 1, 0}, {5, 2, 1, 1000}, {5, 1, 2, 1000}, {5, 0, 3, 1000}, {1, 9, 1, 0},
            {1, 10, 1, 1000}, {1, 9, 2, 1000}, {50, 99, 1, 495000}, {0, 99, 50, 0}};
        for (int[] row : rows) {
            HummingSet x = Check.laid("s10,99;p0,3," + row[1] + ",5,0;k3," + row[0] + ";");
            Check.due("goes(0, " + row[2] + "), Q " + row[0] + ", " + row[1] + " years old", x.goes(0, row[2]), row[3]);
        }
        for (int age : new int[] {0, 1, 50, 98, 99}) {
            for (int q : new int[] {0, 1, 2, 5, 49, 50}) {
                HummingSet x = Check.laid("s10,99;p0,3," + age + ",5,0;k3," + q + ";");
                for (int y : new int[] {1, 2, 49, 50}) {
                    Check.due("goes(0, " + y + "), Q " + q + ", " + age + " years old", x.goes(0, y), gone(q, age, y));
                }
            }
        }
    }

    /** 50 times 148 by 10 is 740: 999 can't be told, so the highest that can is looked at. */
    private static void goesAtMost() {
        Sentence.ofPromise(24, "GOES. BAD.");
        HummingSet x = Check.laid("s10,99;" + "p0,4,99,9,0;".repeat(8) + "k4,50;");
        Check.due("goes(0, 50)", x.goes(0, 50), gone(50, 99, 50));
        Check.due("goes(7, 50)", x.goes(7, 50), gone(50, 99, 50));
        Check.holds("never more than there are", x.goes(7, 50) <= 1000000);
        Check.due("goes(8, 50)", x.goes(8, 50), BAD);
        Check.due("goes(-1, 50)", x.goes(-1, 50), BAD);
    }

    private static void nextToGo() {
        Sentence.is(TERMS, "NEXT TO GO in y years: the PART of most, the lowest.");
        Check.due("of one", Check.laid("s10,99;" + PART).nextToGo(1), 0);
        Check.due("of eight the same", Check.laid("s10,99;" + "p0,0,40,5,0;".repeat(8)).nextToGo(50), 0);
        Check.due("of eight of which none goes", Check.laid("s10,99;" + "p0,0,0,5,0;".repeat(8)).nextToGo(1), 0);
        Check.due("of eight the last", Check.laid("s10,99;" + "p0,0,40,5,0;".repeat(7) + "p0,0,42,5,0;").nextToGo(1), 7);
        Check.due("of two the same the lowest", Check.laid("s10,99;p0,0,10,5,0;p0,0,40,5,0;p0,0,40,5,0;").nextToGo(1), 1);
        // 40 and 41 go alike in the first year, not in the second
        HummingSet x = Check.laid("s10,99;p0,0,40,5,0;p0,0,41,5,0;");
        Check.due("nextToGo(1)", x.nextToGo(1), 0);
        Check.due("nextToGo(2)", x.nextToGo(2), 1);
        Check.due("nextToGo(50)", x.nextToGo(50), 1);
        Check.due("nextToGo(51)", x.nextToGo(51), BAD);
        Check.due("nextToGo(0)", x.nextToGo(0), BAD);
    }

    private static int drawn(int z, int[] trouble) {
        int state = 0;
        for (int i = 0; i < trouble.length; i++) {
            java.math.BigInteger x = java.math.BigInteger.valueOf(7919L * z + 6151L * i + 1);
            int rest = x.multiply(x).mod(java.math.BigInteger.valueOf(65521)).intValue() % 10;
            state |= rest < trouble[i] ? 1 << i : 0;
        }
        return state;
    }

    private static void setOfDraws() {
        Sentence.is(TERMS, "A SET by z (0 to 9999)");
        int[] trouble = {1, 2, 3, 4, 5, 6, 8, 9};
        StringBuilder text = new StringBuilder("s10,99;");
        for (int c : trouble) {
            text.append("p0,0,0,").append(c).append(",0;");
        }
        for (int from = 0; from <= 9999; from += 400) {
            HummingSet x = Check.laid(text.toString());
            for (int z = from; z < from + 400 && z <= 9999; z++) {
                Check.due("set(" + z + ")", x.set(z), drawn(z, trouble));
            }
        }
        HummingSet x = Check.laid(text.toString());
        for (int z : new int[] {-1, 10000, 65536, Integer.MIN_VALUE, Integer.MAX_VALUE}) {
            Check.due("set(" + z + ")", x.set(z), BAD);
        }
    }

    private static void setBelow() {
        Sentence.is(TERMS, "((x times x) modulo 65521) modulo 10 is below C");
        // z and i of 0: x is 1
        int[] told = {0, 0, 1, 1, 1, 1, 1, 1, 1, 1};
        for (int c = 0; c <= 9; c++) {
            Check.due("set(0) of C " + c, Check.laid("s10,99;p0,0,0," + c + ",0;").set(0), told[c]);
            Check.due("set(9999) of C " + c, Check.laid("s10,99;p0,0,0," + c + ",0;").set(9999), drawn(9999, new int[] {c}));
        }
        HummingSet never = Check.laid("s10,99;" + "p0,0,0,0,0;".repeat(8));
        for (int z = 0; z < 300; z++) {
            Check.due("set(" + z + ") of C 0", never.set(z), 0);
        }
    }

    private static void keptAtMost() {
        Sentence.is(TERMS, "KEPT is what is ANSWERED: 2 at most.");
        HummingSet x = Check.laid(SAME);
        Check.due("count(4)", x.count(4), 0);
        Check.due("keep()", x.keep(), 1);
        Check.due("second keep()", x.keep(), 2);
        Check.due("third keep()", x.keep(), FULL);
        Check.due("count(4) then", x.count(4), 2);
        Check.due("back()", x.back(), 1);
        Check.due("keep() again", x.keep(), 2);
        Check.due("and again", x.keep(), FULL);
    }

    private static void keptNothing() {
        Sentence.ofPromise(27, "KEPT: how many. FULL.");
        HummingSet x = Check.laid(SAME);
        Check.due("keep() of nothing ANSWERED", x.keep(), 1);
        x.answer(0, 0, 0, 1);
        Check.due("count(3)", x.count(3), 1);
        Check.due("back()", x.back(), 0);
        Check.due("count(3) then", x.count(3), 0);
        Check.due("possible(0) then", x.possible(0), 4);
        HummingSet ten = Check.laid(SAME);
        for (int i = 0; i < 10; i++) {
            ten.answer(0, 0, i, 1);
        }
        Check.due("keep() of ten", ten.keep(), 1);
        Check.due("what is ANSWERED stays", ten.count(3), 10);
        ten.forget();
        Check.due("what is KEPT stays", ten.count(4), 1);
        Check.due("back() to ten", ten.back(), 0);
        Check.due("count(3) of ten", ten.count(3), 10);
        Check.due("an eleventh", ten.answer(0, 0, 0, 1), FULL);
        Check.due("likeliest()", ten.likeliest(), 1);
    }

    private static void twoKept(HummingSet x) {
        Check.write(x, SAME);
        x.lay();
        x.answer(0, 0, 0, 1);
        x.keep();
        x.answer(0, 0, 0, 2);
        x.keep();
        x.forget();
        x.answer(0, 0, 0, 3);
    }

    private static void keptFull() {
        Sentence.ofPromise(27, "FULL.");
        Twins.refused("a third keep()", BesideBoundsTest::twoKept, HummingSet::keep, FULL);
        HummingSet x = new HummingSet();
        twoKept(x);
        x.keep();
        x.back();
        Check.due("count(3) as KEPT last, not as refused", x.count(3), 2);
        Check.due("possible(0) as KEPT last", x.possible(0), 0);
    }

    private static void back() {
        Sentence.ofPromise(28, "As KEPT last: how many are left. NO.");
        Twins.refused("back() of nothing", y -> y.answer(0, 0, 0, 1), HummingSet::back, NO);
        HummingSet x = new HummingSet();
        twoKept(x);
        Check.due("likeliest()", x.likeliest(), 3);
        Check.due("back()", x.back(), 1);
        Check.due("count(3)", x.count(3), 2);
        Check.due("likeliest() of none", x.likeliest(), HummingSet.NONE);
        Check.due("count(4)", x.count(4), 1);
        Check.due("second back()", x.back(), 0);
        Check.due("count(3)", x.count(3), 1);
        Check.due("likeliest() of the first", x.likeliest(), 1);
        Check.due("count(4)", x.count(4), 0);
        Check.due("third back()", x.back(), NO);
        Check.due("count(3) as it was", x.count(3), 1);
        Check.due("likeliest() as it was", x.likeliest(), 1);
        // what is answered behind a back() is not what was KEPT
        x.keep();
        x.answer(0, 0, 0, 0);
        x.back();
        Check.due("count(3) as KEPT", x.count(3), 1);
        Check.due("possible(0) as KEPT", x.possible(0), 1);
    }

    private static void count() {
        Sentence.ofPromise(29, "How many: 0 STAGES, 1 PARTS, 2 bytes of THE TEXT, 3 ANSWERED, 4 KEPT. BAD.");
        int[] least = {1, 1, 0, 0, 0};
        int[] most = {6, 8, 400, 10, 2};
        HummingSet few = new HummingSet();
        HummingSet many = new HummingSet();
        Situation.most(many);
        for (int what = 0; what < 5; what++) {
            Check.due("count(" + what + "), the least", few.count(what), least[what]);
            Check.due("count(" + what + "), the most", many.count(what), most[what]);
        }
        for (int what : new int[] {-1, 5, 256, Integer.MIN_VALUE, Integer.MAX_VALUE}) {
            Check.due("count(" + what + ")", many.count(what), BAD);
        }
        HummingSet text = Check.laid("s10,99;" + PART);
        text.write(1, 's');
        Check.due("bytes of THE TEXT, LAID or not", text.count(2), 19);
        Check.due("STAGES of what is LAID", text.count(0), 1);
    }
}
