/** The edges of a TEXT, sentence by sentence: 'What it is', LAID, and promises 1 to 6. */
public final class TextBoundsTest {
    private static final int NONE = HummingSet.NONE;
    private static final int BAD = HummingSet.BAD;
    private static final int NO = HummingSet.NO;
    private static final int FULL = HummingSet.FULL;
    private static final String ABOUT = "What it is";
    private static final String ONE = "s10,99;p0,0,0,5,0;";
    /** Behind this each ITEM whose numbers are all 1 is as it should be. */
    private static final String TWO = "s1,1;s1,1;p0,0,0,1,0;p1,0,0,1,0;";
    private static final String LETTERS = "sphmcfekv";
    private static final int[] NUMBERS = {2, 5, 3, 3, 2, 3, 2, 2, 3};

    private TextBoundsTest() {
    }

    public static void main(String[] args) {
        bytesAtMost();
        letters();
        figures();
        minus();
        parting();
        endOfTheLast();
        stage();
        part();
        let();
        mains();
        cost();
        way();
        ear();
        yearly();
        volts();
        placeOfTheFault();
        laid();
        newObject();
        manyCalls();
        writeOfHowMany();
        writeHighestFirst();
        writeFull();
        wipe();
        faultCall();
        layCall();
        layAnew();
        layNo();
        partCall();
        Check.end();
    }

    // ---- what a TEXT is

    /** 400 bytes, each of which counts: the last ITEM sets the ear just above what is heard. */
    private static String longest() {
        return ONE + "h0,0,30;" + "e0,20;".repeat(61) + "e00,031;";
    }

    private static void bytesAtMost() {
        Sentence.is(ABOUT, "A TEXT is bytes (400 at most)");
        HummingSet x = new HummingSet();
        Check.write(x, longest());
        Check.due("count(2)", x.count(2), 400);
        Check.due("fault() of 400 bytes", x.fault(), NONE);
        Check.due("lay() of 400 bytes", x.lay(), 1);
        Check.due("heard(1, 0, 0), the last ITEM read", x.heard(1, 0, 0), 0);
        Twins.refused("write(1, 's') behind 400 bytes", y -> Check.write(y, longest()), y -> y.write(1, 's'), FULL);
        Check.due("fault() of no byte", new HummingSet().fault(), NONE);
    }

    private static void letters() {
        Sentence.is(ABOUT, "ITEMS one behind the other, each a letter, numbers");
        for (int letter = 0; letter < 256; letter++) {
            int at = LETTERS.indexOf(letter);
            for (int many = 0; many <= 6; many++) {
                String item = (char) letter + "1,1,1,1,1,1".substring(0, Math.max(0, 2 * many - 1)) + ";";
                fault(TWO + item, at >= 0 && NUMBERS[at] == many ? NONE : TWO.length());
            }
        }
        fault(TWO + "1,1;", TWO.length());
        fault(TWO + "ss1,1;", TWO.length());
        fault(" " + TWO, 0);
        fault(TWO + "\n", TWO.length());
        fault(TWO + (char) 0, TWO.length());
    }

    /** An ITEM of ones, with something else in one place. */
    private static String item(int letter, int place, String number) {
        StringBuilder item = new StringBuilder().append(LETTERS.charAt(letter));
        for (int i = 0; i < NUMBERS[letter]; i++) {
            item.append(i == 0 ? "" : ",").append(i == place ? number : "1");
        }
        return item.append(";").toString();
    }

    private static void everywhere(String number, boolean is) {
        for (int letter = 0; letter < NUMBERS.length; letter++) {
            for (int place = 0; place < NUMBERS[letter]; place++) {
                fault(TWO + item(letter, place, number), is ? NONE : TWO.length());
            }
        }
    }

    private static void figures() {
        Sentence.is(ABOUT, "numbers (one to three figures");
        everywhere("", false);
        everywhere("1", true);
        everywhere("01", true);
        everywhere("001", true);
        everywhere("0001", false);
        everywhere("00001", false);
        everywhere("4294967297", false);
        everywhere("18446744073709551617", false);
        everywhere("/", false);
        everywhere(":", false);
        everywhere("1/", false);
        everywhere("1:", false);
        everywhere("a", false);
        everywhere("1.0", false);
        everywhere(String.valueOf((char) ('1' + 128)), false);
        fault("e0,999;", NONE);
        fault("e0,0999;", 0);
        fault("e0,1000;", 0);
    }

    private static void minus() {
        Sentence.is(ABOUT, "perhaps with - ahead, not of 0)");
        everywhere("-0", false);
        everywhere("-00", false);
        everywhere("-000", false);
        everywhere("-", false);
        everywhere("--1", false);
        everywhere("1-", false);
        everywhere("+1", false);
        everywhere("-+1", false);
        everywhere("- 1", false);
        for (String front : new String[] {"h1,1,", "m1,1,", "f1,1,"}) {
            fault(TWO + front + "-1;", NONE);
            fault(TWO + front + "-01;", NONE);
            fault(TWO + front + "-001;", NONE);
            fault(TWO + front + "-0001;", TWO.length());
            fault(TWO + front + "0;", NONE);
            fault(TWO + front + "000;", NONE);
        }
        Check.due("-007 is read as -7", Check.laid(ONE + "h0,0,-007;").hum(1, 0, 0), -7);
        Check.due("007 is read as 7", Check.laid(ONE + "h0,0,007;").hum(1, 0, 0), 7);
    }

    private static void parting() {
        Sentence.is(ABOUT, "parted by , and ; (behind the last one, too)");
        for (int b = 0; b < 256; b++) {
            fault(ONE + "e1" + (char) b + "1;", b == ',' ? NONE : ONE.length());
            fault(ONE + "e1,1" + (char) b, b == ';' ? NONE : ONE.length());
        }
        everywhere("1,", false);
        everywhere(",1", false);
        for (int letter = 0; letter < NUMBERS.length; letter++) {
            for (int place = 0; place < NUMBERS[letter] - 1; place++) {
                fault(TWO + item(letter, place, "1;"), TWO.length());
            }
        }
        everywhere(" 1", false);
        everywhere("1 ", false);
        fault(ONE + ";", ONE.length());
        fault(ONE + "e1,1;;", ONE.length() + 5);
        fault(ONE + "e1,1,;", ONE.length());
    }

    private static void endOfTheLast() {
        Sentence.is(ABOUT, "; (behind the last one, too)");
        String text = "s10,99;p0,0,0,5,0;h0,0,-50;m0,1,50;c0,99;f0,2,-200;e0,999;k4,50;v0,900,99;";
        int start = 0;
        for (int cut = 0; cut <= text.length(); cut++) {
            if (cut > 0 && text.charAt(cut - 1) == ';') {
                start = cut;
            }
            fault(text.substring(0, cut), start == cut ? NONE : start);
        }
    }

    private static void fault(String text, int want) {
        Check.due("fault of " + text, Check.faultOf(text), want);
    }

    /** The lowest and the highest are taken, those next to them and far from them are not. */
    private static void edges(String ahead, String front, String rest, int lowest, int highest) {
        fault(ahead + front + lowest + rest + ";", NONE);
        fault(ahead + front + highest + rest + ";", NONE);
        for (int wrong : new int[] {lowest - 1, highest + 1, -999, highest == 999 ? 1000 : 999}) {
            fault(ahead + front + wrong + rest + ";", ahead.length());
        }
    }

    private static void most(String ahead, String item, int many) {
        String full = ahead + item.repeat(many);
        fault(full, NONE);
        fault(full + item, full.length());
        fault(full + item + item, full.length());
    }

    private static void stage() {
        Sentence.is(ABOUT, "sG,L a STAGE: its BOTTLE hands on G tenths (1 to 50), may bear L (1 to 99)");
        edges("", "s", ",1", 1, 50);
        edges("", "s1,", "", 1, 99);
        Check.due("G of 1 is read", Check.laid("s1,1;p0,0,0,5,0;h0,0,50;").hum(1, 0, 0), 5);
        Check.due("G of 50 is read", Check.laid("s50,1;p0,0,0,5,0;h0,0,50;").hum(1, 0, 0), 250);
        Check.due("L of 1 is read", Check.laid("s1,1;s1,1;p0,0,0,5,0;").risk(1, 0), 1);
        Check.due("L of 99 is read", Check.laid("s50,99;s49,99;p0,0,0,5,0;").risk(1, 0), 0);
        Sentence.is(ABOUT, "6 at most, 0 (behind), 1, ..");
        most("", "s1,1;", 6);
        Check.due("count(0) of six", Check.laid("s1,1;".repeat(6) + "p5,0,0,0,0;").count(0), 6);
        HummingSet order = Check.laid("s10,9;s20,9;s10,9;p0,0,0,5,0;m0,0,7;");
        Check.due("STAGE 0 is behind: in(0, 0, 0, 0)", order.in(0, 0, 0, 0), 7);
        Check.due("then STAGE 1", order.in(0, 1, 0, 0), 7);
        Check.due("then STAGE 2", order.in(0, 2, 0, 0), 14);
    }

    private static void part() {
        Sentence.is(ABOUT, "pS,K,A,C,W a PART of STAGE S (told ahead)");
        fault("p0,0,0,0,0;s1,1;", 0);
        for (int stages = 1; stages <= 6; stages++) {
            String ahead = "s1,1;".repeat(stages);
            fault(ahead + "p" + (stages - 1) + ",0,0,0,0;", NONE);
            fault(ahead + "p" + stages + ",0,0,0,0;s1,1;", ahead.length());
            fault(ahead + "p-1,0,0,0,0;", ahead.length());
        }
        fault("s1,1;p0,0,0,0,0;s1,1;p1,0,0,0,0;", NONE);
        Sentence.is(ABOUT, "of KIND K (0 tin, 1 bottle's inside, 2 coil, 3 wax, 4 earth)");
        edges("s1,1;", "p0,", ",0,0,0", 0, 4);
        Sentence.is(ABOUT, "A years old (0 to 99)");
        edges("s1,1;", "p0,0,", ",0,0", 0, 99);
        Sentence.is(ABOUT, "in trouble by C of ten (0 to 9)");
        edges("s1,1;", "p0,0,0,", ",0", 0, 9);
        Sentence.is(ABOUT, "which shows from W minutes on (0 to 30)");
        edges("s1,1;", "p0,0,0,0,", "", 0, 30);
        Sentence.is(ABOUT, "8 at most, 0, 1, ..");
        most("s1,1;", "p0,0,0,0,0;", 8);
        HummingSet x = Check.laid("s1,1;p0,0,0,0,0;p0,1,1,1,1;p0,2,2,2,2;p0,3,3,3,3;"
                + "p0,4,4,4,4;p0,4,5,5,5;p0,4,6,6,6;p0,4,99,9,30;");
        for (int p = 0; p < 7; p++) {
            Check.due("part(" + p + ", 2): PARTS are counted from 0 on", x.part(p, 2), p);
        }
        Check.due("part(7, 2): the last of eight", x.part(7, 2), 99);
    }

    private static void let() {
        Sentence.is(ABOUT, "hP,T,V in trouble PART P (told ahead) lets V (-50 to 50) of TONE T (0 to 2) in at its STAGE");
        fault("s1,1;h0,0,1;p0,0,0,0,0;", 5);
        for (int parts = 1; parts <= 8; parts++) {
            String ahead = "s1,1;" + "p0,0,0,0,0;".repeat(parts);
            fault(ahead + "h" + (parts - 1) + ",0,1;", NONE);
            fault(ahead + "h" + parts + ",0,1;p0,0,0,0,0;", ahead.length());
            fault(ahead + "h-1,0,1;", ahead.length());
        }
        edges(ONE, "h0,", ",1", 0, 2);
        edges(ONE, "h0,0,", "", -50, 50);
        HummingSet x = Check.laid("s1,1;s10,1;p1,0,0,5,0;h0,0,-50;h0,2,50;h0,1,0;");
        Check.due("in(1, 1, 0, 0) of -50", x.in(1, 1, 0, 0), -50);
        Check.due("in(1, 1, 1, 0) of 0", x.in(1, 1, 1, 0), 0);
        Check.due("in(1, 1, 2, 0) of 50", x.in(1, 1, 2, 0), 50);
        Check.due("in(1, 0, 2, 0): not its STAGE", x.in(1, 0, 2, 0), 0);
        Check.due("in(0, 1, 2, 0): in no trouble", x.in(0, 1, 2, 0), 0);
        Sentence.is(ABOUT, "more with each ITEM; 16 at most mS,T,V");
        most(ONE, "h0,0,1;", 16);
        most("s1,1;p0,0,0,0,0;p0,0,0,0,0;h1,2,1;", "h0,0,0;", 15);
        Check.due("sixteen of 50", Check.laid(ONE + "h0,2,50;".repeat(16)).hum(1, 2, 0), 800);
        Check.due("sixteen of -50", Check.laid(ONE + "h0,2,-50;".repeat(16)).hum(1, 2, 0), -800);
        Check.due("50 and -50", Check.laid(ONE + "h0,0,50;h0,0,-50;").hum(1, 0, 0), 0);
    }

    private static void mains() {
        Sentence.is(ABOUT, "mS,T,V V (-50 to 50) of TONE T come in at STAGE S (told ahead) in any case");
        fault("m0,0,1;s1,1;", 0);
        for (int stages = 1; stages <= 6; stages++) {
            String ahead = "s1,1;".repeat(stages);
            fault(ahead + "m" + (stages - 1) + ",0,1;", NONE);
            fault(ahead + "m" + stages + ",0,1;s1,1;", ahead.length());
            fault(ahead + "m-1,0,1;", ahead.length());
        }
        edges(ONE, "m0,", ",1", 0, 2);
        edges(ONE, "m0,0,", "", -50, 50);
        HummingSet x = Check.laid("s1,1;s10,1;p1,0,0,5,30;m1,0,-50;m1,2,50;");
        Check.due("in(0, 1, 0, 0) of -50", x.in(0, 1, 0, 0), -50);
        Check.due("in(1, 1, 2, 0) of 50, cold, too", x.in(1, 1, 2, 0), 50);
        Check.due("in(0, 0, 2, 0): not its STAGE", x.in(0, 0, 2, 0), 0);
        Sentence.is(ABOUT, "in any case, more with each ITEM; 6 at most");
        most(ONE, "m0,0,1;", 6);
        most("s1,1;s1,1;m1,2,1;", "m0,0,0;", 5);
        Check.due("six of 50", Check.laid(ONE + "m0,1,50;".repeat(6)).hum(0, 1, 0), 300);
        Check.due("six of -50", Check.laid(ONE + "m0,1,-50;".repeat(6)).hum(0, 1, 0), -300);
    }

    /** Not told again in the document for c, f and v: what is named there is told ahead, too. */
    private static void cost() {
        Sentence.is(ABOUT, "cP,C to change PART P costs C (1 to 99; 10 without; the last one)");
        fault("s1,1;c0,1;p0,0,0,0,0;", 5);
        for (int parts = 1; parts <= 8; parts++) {
            String ahead = "s1,1;" + "p0,0,0,0,0;".repeat(parts);
            fault(ahead + "c" + (parts - 1) + ",1;", NONE);
            fault(ahead + "c" + parts + ",1;", ahead.length());
            fault(ahead + "c-1,1;", ahead.length());
        }
        edges(ONE, "c0,", "", 1, 99);
        Check.due("without", Check.laid(ONE).part(0, 5), 10);
        Check.due("of 1", Check.laid(ONE + "c0,1;").part(0, 5), 1);
        Check.due("of 99", Check.laid(ONE + "c0,99;").part(0, 5), 99);
        Check.due("the last one", Check.laid(ONE + "c0,1;c0,99;c0,7;").part(0, 5), 7);
        fault(ONE + "c0,1;".repeat(76), NONE);
    }

    private static void way() {
        Sentence.is(ABOUT, "fS,T,L from the end L hundredths (-200 to 200) of TONE T come back in at STAGE S; 6 at most");
        fault("f0,0,1;s1,1;", 0);
        for (int stages = 1; stages <= 6; stages++) {
            String ahead = "s1,1;".repeat(stages);
            fault(ahead + "f" + (stages - 1) + ",0,1;", NONE);
            fault(ahead + "f" + stages + ",0,1;", ahead.length());
            fault(ahead + "f-1,0,1;", ahead.length());
        }
        edges(ONE, "f0,", ",1", 0, 2);
        edges(ONE, "f0,0,", "", -200, 200);
        most(ONE, "f0,0,1;", 6);
        most("s1,1;s1,1;f1,2,1;", "f0,0,0;", 5);
        Check.due("the sixth counts", Check.laid(ONE + "f0,0,1;".repeat(5) + "f0,2,200;").howls(), 4);
        Check.due("200 at half", Check.laid("s5,9;p0,0,0,5,0;f0,1,200;").howls(), 2);
        Check.due("-200 at five times", Check.laid("s50,9;p0,0,0,5,0;f0,1,-200;").howls(), 0);
    }

    private static void ear() {
        Sentence.is(ABOUT, "eT,V the ear hears TONE T from V (0 to 999) on (20 without; the last one)");
        edges("", "e", ",1", 0, 2);
        edges("", "e0,", "", 0, 999);
        HummingSet without = Check.laid(ONE + "m0,0,19;m0,1,20;m0,2,21;");
        Check.due("heard of 19, 20 and 21 without", without.heard(0, 0, 0), 6);
        Check.due("from 0 on", Check.laid(ONE + "e0,0;e1,0;e2,0;").heard(0, 0, 0), 7);
        Check.due("from 1 on", Check.laid(ONE + "e0,1;e1,1;e2,1;").heard(0, 0, 0), 0);
        Check.due("999 from 999 on", Check.laid("s30,9;p0,0,0,5,0;e1,999;" + "h0,1,50;".repeat(6) + "h0,1,33;").heard(1, 0, 0), 2);
        Check.due("998 from 999 on", Check.laid("s20,9;p0,0,0,5,0;e1,999;" + "h0,1,50;".repeat(9) + "h0,1,49;").heard(1, 0, 0), 0);
        Check.due("the last one", Check.laid(ONE + "m0,0,30;e0,0;e0,31;").heard(0, 0, 0), 0);
        Check.due("the last one, lower", Check.laid(ONE + "m0,0,30;e0,31;e0,30;").heard(0, 0, 0), 1);
        fault("e0,1;".repeat(80), NONE);
    }

    private static void yearly() {
        Sentence.is(ABOUT, "kK,Q of a thousand PARTS of KIND K Q go a year for each ten years of age (0 to 50; 5 without; the last one)");
        edges("", "k", ",1", 0, 4);
        edges("", "k0,", "", 0, 50);
        for (int kind = 0; kind <= 4; kind++) {
            String part = "s10,9;p0," + kind + ",20,5,0;";
            Check.due("without, of KIND " + kind, Check.laid(part).goes(0, 1), 10000);
            Check.due("of 0, of KIND " + kind, Check.laid(part + "k" + kind + ",0;").goes(0, 50), 0);
            Check.due("of 50, of KIND " + kind, Check.laid(part + "k" + kind + ",50;").goes(0, 1), 100000);
            Check.due("of another KIND", Check.laid(part + "k" + (kind + 1) % 5 + ",50;").goes(0, 1), 10000);
            Check.due("the last one", Check.laid(part + "k" + kind + ",50;k" + kind + ",3;").goes(0, 1), 6000);
        }
        Check.due("told ahead of all", Check.laid("k2,50;s10,9;p0,2,20,5,0;").goes(0, 1), 100000);
        fault("k0,1;".repeat(80), NONE);
    }

    private static void volts() {
        Sentence.is(ABOUT, "vP,V,R PART P holds V volts (0 to 900), loses R hundredths a minute (1 to 99; 0, 1 without; the last one)");
        fault("s1,1;v0,1,1;p0,0,0,0,0;", 5);
        for (int parts = 1; parts <= 8; parts++) {
            String ahead = "s1,1;" + "p0,0,0,0,0;".repeat(parts);
            fault(ahead + "v" + (parts - 1) + ",1,1;", NONE);
            fault(ahead + "v" + parts + ",1,1;", ahead.length());
            fault(ahead + "v-1,1,1;", ahead.length());
        }
        edges(ONE, "v0,", ",1", 0, 900);
        edges(ONE, "v0,1,", "", 1, 99);
        Check.due("without", Check.laid(ONE).volts(0, 0), 0);
        Check.due("of 0", Check.laid(ONE + "v0,0,99;").volts(0, 0), 0);
        Check.due("of 900", Check.laid(ONE + "v0,900,1;").volts(0, 0), 900);
        Check.due("1 hundredth", Check.laid(ONE + "v0,900,1;").volts(0, 1), 890);
        Check.due("99 hundredths", Check.laid(ONE + "v0,900,99;").volts(0, 1), 8);
        Check.due("the last one: V", Check.laid(ONE + "v0,900,99;v0,100,1;").volts(0, 0), 100);
        Check.due("the last one: R", Check.laid(ONE + "v0,900,99;v0,100,1;").volts(0, 1), 98);
        fault(ONE + "v0,1,1;".repeat(54), NONE);
    }

    private static void placeOfTheFault() {
        Sentence.is(ABOUT, "FAULT: the place of the first byte of the first ITEM that is not so.");
        fault("x", 0);
        fault(ONE + "x", ONE.length());
        fault(ONE + "h0,0,51;h0,3,0;x", ONE.length());
        fault("s1,1;s51,1;s0,1;", 5);
        // an ITEM with a FAULT ends the reading: what is told behind it makes nothing good
        fault("s1,1;p1,0,0,0,0;s1,1;", 5);
        fault("e0,1000;" + "s1,1;".repeat(7), 0);
        String ahead = ONE + "e0,20;".repeat(62) + "e000,020;";
        fault(ahead, NONE);
        fault(ahead + "s", 399);
        fault("s" + ";".repeat(399), 0);
    }

    // ---- what is LAID

    private static void laid() {
        Sentence.is("Terms", "LAID is a TEXT without FAULT, of a STAGE and a PART at least (NO else");
        layDue("", NO);
        layDue("s10,99;", NO);
        layDue("s10,99;".repeat(6), NO);
        layDue("e0,1;", NO);
        layDue("k0,1;", NO);
        layDue("p0,0,0,5,0;", NO);
        layDue(ONE, 1);
        layDue(ONE + "s10,99;", 1);
        layDue(ONE + "x", NO);
        layDue(ONE + "e0,1", NO);
        layDue("x" + ONE, NO);
        layDue("s10,99;" + "p0,0,0,5,0;".repeat(8), 8);
        layDue("s10,99;" + "p0,0,0,5,0;".repeat(9), NO);
    }

    private static void layDue(String text, int want) {
        HummingSet x = new HummingSet();
        Check.write(x, text);
        Check.due("lay() of " + text, x.lay(), want);
        Check.due("PARTS then", x.count(1), want == NO ? 1 : want);
    }

    private static void newObject() {
        Sentence.is("Terms", "at first s10,99;p0,0,0,5,0;h0,0,30;)");
        HummingSet told = Check.laid("s10,99;p0,0,0,5,0;h0,0,30;");
        told.wipe();
        Twins.same("a new object", new HummingSet(), told);
        Sentence.ofPromise(1, "`HummingSet()`: As told.");
        HummingSet x = new HummingSet();
        int[] counts = {1, 1, 0, 0, 0};
        for (int what = 0; what < counts.length; what++) {
            Check.due("count(" + what + ")", x.count(what), counts[what]);
        }
        Check.due("fault()", x.fault(), NONE);
        Check.due("lay() of no TEXT", x.lay(), NO);
        Check.due("back()", x.back(), NO);
        Check.due("forget()", x.forget(), 0);
        Check.due("wipe()", x.wipe(), 0);
        HummingSet one = new HummingSet();
        HummingSet other = new HummingSet();
        one.answer(0, 0, 0, 1);
        one.keep();
        Check.write(one, "s20,9;p0,0,0,5,0;p0,0,0,5,0;");
        one.lay();
        Twins.same("objects share nothing", other, new HummingSet());
    }

    private static void manyCalls() {
        Sentence.is(ABOUT, "An object is used for at most 512 calls after it has been made");
        HummingSet x = new HummingSet();
        int calls = 0;
        while (calls < 400) {
            calls++;
            Check.due("call " + calls + ", write(1, 's')", x.write(1, 's'), calls);
        }
        while (calls < 511) {
            calls++;
            Check.due("call " + calls + ", write(1, 's')", x.write(1, 's'), FULL);
        }
        Check.due("call 512, wipe()", x.wipe(), 400);
        HummingSet laid = new HummingSet();
        Check.write(laid, ONE);
        for (calls = 3; calls < 511; calls += 2) {
            Check.due("lay()", laid.lay(), 1);
            Check.due("keep()", laid.keep(), 1);
        }
        Check.due("call 512, possible(1)", laid.possible(1), 10);
    }

    // ---- promises 2 to 6

    private static void writeOfHowMany() {
        Sentence.ofPromise(2, "n bytes (1 to 8) of v, the highest first, come behind THE TEXT: how long it is. BAD");
        for (int n : new int[] {0, 9, -1, -8, 10, 16, 257, 264, Integer.MIN_VALUE, Integer.MIN_VALUE + 1, Integer.MAX_VALUE}) {
            Twins.refused("write(" + n + ", ..) behind nothing", y -> { }, y -> y.write(n, Check.number("s10,99;")), BAD);
            Twins.refused("write(" + n + ", ..)", y -> Check.write(y, ONE), y -> y.write(n, Check.number("s10,99;")), BAD);
        }
        for (int n = 1; n <= 8; n++) {
            HummingSet x = new HummingSet();
            Check.due("write(" + n + ", ..)", x.write(n, 0), n);
            Check.due("write(" + n + ", ..) again", x.write(n, -1), 2 * n);
            Check.due("count(2)", x.count(2), 2 * n);
        }
    }

    private static void writeHighestFirst() {
        Sentence.ofPromise(2, "n bytes (1 to 8) of v, the highest first");
        String text = "s10,99;s20,99;p1,3,42,7,11;h0,1,-9;";
        for (int n = 1; n <= 8; n++) {
            HummingSet x = new HummingSet();
            for (int i = 0; i < text.length(); i += n) {
                String piece = text.substring(i, Math.min(text.length(), i + n));
                // what stands above the n bytes is no part of them
                long above = piece.length() == 8 ? 0 : 0x7172737475767778L << 8 * piece.length();
                x.write(piece.length(), above | Check.number(piece));
            }
            Check.due("lay() of pieces of " + n, x.lay(), 1);
            Check.due("part(0, 2)", x.part(0, 2), 42);
            Check.due("hum(1, 1, 11)", x.hum(1, 1, 11), -18);
        }
        for (int n = 1; n <= 8; n++) {
            HummingSet x = new HummingSet();
            x.write(n, -1L);
            Check.due("fault() of bytes 255", x.fault(), 0);
            x.wipe();
            x.write(8, Check.number("e00,010;"));
            x.write(n, Long.MIN_VALUE);
            Check.due("fault() of bytes 0, or 128 first", x.fault(), 8);
        }
    }

    private static void writeFull() {
        Sentence.ofPromise(2, "BAD; FULL.");
        String text = longest();
        for (int n = 1; n <= 8; n++) {
            for (int left = 0; left <= 8; left++) {
                String ahead = text.substring(0, 400 - left);
                int many = n;
                if (n > left) {
                    Twins.refused("write(" + n + ", ..) behind " + ahead.length(), y -> Check.write(y, ahead),
                            y -> y.write(many, -1), FULL);
                } else {
                    HummingSet x = new HummingSet();
                    Check.write(x, ahead);
                    Check.due("write(" + n + ", ..) behind " + ahead.length(), x.write(n, -1), ahead.length() + n);
                }
            }
        }
        Sentence.is("Terms", "Of several the first; nothing changes then.");
        for (int n : new int[] {0, 9, -1, Integer.MIN_VALUE, Integer.MAX_VALUE}) {
            Twins.refused("write(" + n + ", ..) behind 400", y -> Check.write(y, longest()), y -> y.write(n, 0), BAD);
        }
    }

    private static void wipe() {
        Sentence.ofPromise(3, "THE TEXT is empty: how long it was.");
        HummingSet x = new HummingSet();
        Check.due("wipe() of nothing", x.wipe(), 0);
        x.write(1, 's');
        Check.due("wipe() of one byte", x.wipe(), 1);
        Check.write(x, longest());
        Check.due("wipe() of 400", x.wipe(), 400);
        Check.due("wipe() again", x.wipe(), 0);
        Check.due("count(2)", x.count(2), 0);
        Check.due("fault()", x.fault(), NONE);
        Check.due("lay()", x.lay(), NO);
        Check.due("write(8, ..)", x.write(8, 0), 8);
        Check.due("fault() of what is written anew", x.fault(), 0);
        HummingSet wiped = new HummingSet();
        Situation.most(wiped);
        int stages = wiped.count(0);
        wiped.wipe();
        Check.due("what is LAID stays", wiped.count(0), stages);
        Check.due("what is ANSWERED stays", wiped.count(3), 10);
        Check.due("what is KEPT stays", wiped.count(4), 2);
    }

    private static void faultCall() {
        Sentence.ofPromise(4, "FAULT. NONE.");
        Check.due("fault() of nothing", new HummingSet().fault(), NONE);
        Check.due("fault() of a TEXT without one", Check.faultOf(ONE), NONE);
        Check.due("fault() at 0", Check.faultOf("x"), 0);
        for (String text : new String[] {"", ONE, "s20,9;", "s20,9;p0,1,1,1,1;x", longest()}) {
            Twins.refused("fault() of " + text, y -> Situation.mostWith(y, text), HummingSet::fault, Check.faultOf(text));
        }
    }

    private static void layCall() {
        Sentence.ofPromise(5, "LAID: how many PARTS; nothing is ANSWERED, KEPT.");
        for (int parts = 1; parts <= 8; parts++) {
            HummingSet x = new HummingSet();
            Situation.mostWith(x, "s10,99;" + "p0,0,0,5,0;".repeat(parts));
            Check.due("lay()", x.lay(), parts);
            Check.due("count(3)", x.count(3), 0);
            Check.due("count(4)", x.count(4), 0);
            Check.due("back()", x.back(), NO);
            Check.due("forget()", x.forget(), 0);
            Check.due("possible(0)", x.possible(0), 1 + parts + parts * (parts - 1) / 2);
            Check.due("keep()", x.keep(), 1);
            Check.due("answer(0, 0, 0, 0)", x.answer(0, 0, 0, 0), 1);
            Check.due("THE TEXT stays", x.count(2), 7 + 11 * parts);
            Check.due("lay() again", x.lay(), parts);
            Check.due("count(3) again", x.count(3), 0);
            Check.due("count(4) again", x.count(4), 0);
        }
        HummingSet before = Check.laid(longest());
        before.lay();
        Twins.same("a second lay()", before, Check.laid(longest()));
    }

    /** Nothing is left of what was told before, in a TEXT with a FAULT, too. */
    private static void layAnew() {
        Sentence.ofPromise(5, "LAID: how many PARTS; nothing is ANSWERED, KEPT.");
        String loud = "s50,1;".repeat(6) + "p5,4,99,9,0;".repeat(8) + "h0,0,50;h0,1,50;h0,2,50;h1,0,50;h2,1,50;"
                + "m0,0,50;m0,1,50;m0,2,50;m1,0,50;m2,1,50;m2,2,50;" + "f5,0,200;".repeat(6)
                + "c0,99;c1,99;c2,99;e2,0;k0,50;k4,50;v0,900,1;v1,900,1;v2,900,1;";
        for (String few : new String[] {ONE, "s10,99;s10,99;s10,99;p2,4,40,5,0;p1,0,9,5,0;p0,0,9,5,0;m0,0,30;",
            ONE + "h0,0,1;".repeat(16) + "m0,0,1;".repeat(6) + "f0,0,1;".repeat(6)}) {
            HummingSet x = new HummingSet();
            for (int i = 0; i < 2; i++) {
                x.wipe();
                Check.write(x, loud);
                Check.due("lay() of much", x.lay(), 8);
                Check.due("its first PART", x.oneByOne(1), 0);
                Check.due("its HOWLS", x.howls(), 1);
                x.answer(0, 0, 0, 9);
                x.keep();
            }
            Check.write(x, "x");
            Check.due("fault() behind much", x.fault(), loud.length());
            x.wipe();
            Check.write(x, few);
            Check.holds("lay() of few", x.lay() > 0);
            Twins.same("few behind much: " + few, x, Check.laid(few));
        }
    }

    private static void layNo() {
        Sentence.ofPromise(5, "NO.");
        for (String text : new String[] {"", "x", "s20,9;", "e0,1;k0,1;", "s20,9;p0,1,1,1,1;h0,0,51;", "s20,9;p0,1,1,1,1;h0,0,50"}) {
            Twins.refused("lay() of " + text, y -> Situation.mostWith(y, text), HummingSet::lay, NO);
            Twins.refused("lay() of " + text, y -> Check.write(y, text), HummingSet::lay, NO);
        }
    }

    private static void partCall() {
        Sentence.ofPromise(6, "STAGE (what = 0), KIND (1), age (2), C (3), W (4), its cost (5). BAD.");
        HummingSet low = Check.laid("s1,1;p0,0,0,0,0;c0,1;");
        HummingSet high = Check.laid("s1,1;".repeat(6) + "p5,4,99,9,30;".repeat(8) + "c7,99;");
        int[] lowest = {0, 0, 0, 0, 0, 1};
        int[] highest = {5, 4, 99, 9, 30, 99};
        for (int what = 0; what < 6; what++) {
            Check.due("part(0, " + what + ") of the lowest", low.part(0, what), lowest[what]);
            Check.due("part(7, " + what + ") of the highest", high.part(7, what), highest[what]);
        }
        Check.due("part(6, 5)", high.part(6, 5), 10);
    }
}
