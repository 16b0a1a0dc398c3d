/** The edges of what is heard, sentence by sentence: Terms 2 and promises 7 to 13. */
public final class HeardBoundsTest {
    private static final int BAD = HummingSet.BAD;
    private static final int LEAST = Integer.MIN_VALUE;
    private static final String TERMS = "Terms";
    private static final String ONE = "s10,99;p0,0,0,5,0;";

    private HeardBoundsTest() {
    }

    public static void main(String[] args) {
        states();
        minutes();
        showing();
        handedOnToTheFirst();
        cutTowardsZero();
        bottleOut();
        end();
        ear();
        loud();
        waysBack();
        listen();
        finger();
        across();
        measure();
        riskOfOut();
        riskOfTouch();
        voltsLeast();
        voltsMinutes();
        safe();
        safeNone();
        loudestOfAll();
        Check.end();
    }

    /** What comes in, as ITEMS of 50 at most each. */
    private static String lets(int tone, int sum) {
        StringBuilder items = new StringBuilder();
        int left = sum;
        while (left != 0) {
            int one = Math.max(-50, Math.min(50, left));
            items.append("h0,").append(tone).append(",").append(one).append(";");
            left -= one;
        }
        return items.toString();
    }

    private static void states() {
        Sentence.is(TERMS, "A STATE is a set of PARTS (bits) that are in trouble.");
        for (int parts = 1; parts <= 8; parts++) {
            StringBuilder text = new StringBuilder("s10,99;");
            for (int p = 0; p < parts; p++) {
                text.append("p0,0,0,5,0;");
            }
            for (int p = 0; p < parts; p++) {
                text.append("h").append(p).append(",0,").append(p + 1).append(";");
            }
            HummingSet x = Check.laid(text.toString());
            int states = 1 << parts;
            for (int state = 0; state < states; state++) {
                int sum = 0;
                for (int p = 0; p < parts; p++) {
                    sum += (state >> p & 1) * (p + 1);
                }
                Check.due("hum(" + state + ", 0, 0)", x.hum(state, 0, 0), sum);
            }
            Check.due("hum(" + states + ", 0, 0)", x.hum(states, 0, 0), LEAST);
            Check.due("hum(-1, 0, 0)", x.hum(-1, 0, 0), LEAST);
            Check.due("louder of all", x.louder(states - 1), 0);
            Check.due("louder(" + states + ")", x.louder(states), BAD);
        }
    }

    private static void minutes() {
        Sentence.is(TERMS, "m minutes on (0 to 30)");
        HummingSet x = Check.laid(ONE + "h0,0,30;");
        for (int m = 0; m <= 30; m++) {
            Check.due("hum(1, 0, " + m + ")", x.hum(1, 0, m), 30);
            Check.due("in(1, 0, 0, " + m + ")", x.in(1, 0, 0, m), 30);
            Check.due("heard(1, " + m + ", 0)", x.heard(1, m, 0), 1);
            Check.due("ask(1, 0, 0, " + m + ")", x.ask(1, 0, 0, m), 1);
            Check.due("next(" + m + ", 2)", x.next(m, 2), 5);
        }
        for (int m : new int[] {-1, 31, 60, Integer.MIN_VALUE, Integer.MAX_VALUE}) {
            Check.due("hum(1, 0, " + m + ")", x.hum(1, 0, m), LEAST);
            Check.due("in(1, 0, 0, " + m + ")", x.in(1, 0, 0, m), LEAST);
            Check.due("heard(1, " + m + ", 0)", x.heard(1, m, 0), BAD);
            Check.due("ask(1, 0, 0, " + m + ")", x.ask(1, 0, 0, m), BAD);
            Check.due("answer(0, 0, " + m + ", 1)", x.answer(0, 0, m, 1), BAD);
            Check.due("next(" + m + ", 2)", x.next(m, 2), BAD);
        }
    }

    private static void showing() {
        Sentence.is(TERMS, "what the PARTS there that are in trouble and show (W is m or less) let in");
        for (int w = 0; w <= 30; w++) {
            HummingSet x = Check.laid("s10,99;p0,0,0,5," + w + ";h0,0,40;");
            for (int m = 0; m <= 30; m++) {
                int want = w <= m ? 40 : 0;
                Check.due("W " + w + ", hum(1, 0, " + m + ")", x.hum(1, 0, m), want);
                Check.due("W " + w + ", in(1, 0, 0, " + m + ")", x.in(1, 0, 0, m), want);
                Check.due("W " + w + ", ask(1, 0, 0, " + m + ")", x.ask(1, 0, 0, m), want == 0 ? 0 : 1);
                Check.due("W " + w + ", ask(1, 4, 0, " + m + ")", x.ask(1, 4, 0, m), want / 20);
                Check.due("W " + w + ", hum(0, 0, " + m + ")", x.hum(0, 0, m), 0);
            }
        }
    }

    private static void handedOnToTheFirst() {
        Sentence.is(TERMS, "what the one behind handed on (0 at STAGE 0), what comes in there in any case");
        HummingSet x = Check.laid("s10,99;s10,99;p1,0,0,5,0;h0,0,50;");
        Check.due("in(1, 0, 0, 0)", x.in(1, 0, 0, 0), 0);
        Check.due("in(1, 1, 0, 0)", x.in(1, 1, 0, 0), 50);
        Check.due("in(0, 1, 0, 0): in no trouble", x.in(0, 1, 0, 0), 0);
        HummingSet six = Check.laid("s20,9;".repeat(6) + "p0,0,0,5,0;m0,0,1;m5,0,50;");
        for (int s = 0; s < 6; s++) {
            Check.due("in(0, " + s + ", 0, 0)", six.in(0, s, 0, 0), (1 << s) + (s == 5 ? 50 : 0));
        }
    }

    private static void cutTowardsZero() {
        Sentence.is(TERMS, "it hands on that times G by 10, cut towards 0");
        for (int g : new int[] {1, 3, 9, 10, 11, 19, 49, 50}) {
            for (int v = -50; v <= 50; v++) {
                HummingSet x = Check.laid("s" + g + ",9;p0,0,0,5,0;h0,0," + v + ";");
                int whole = Math.abs(v) * g / 10;
                Check.due("G " + g + " of " + v, x.hum(1, 0, 0), v < 0 ? -whole : whole);
            }
        }
        // cut at each STAGE, not once at the end: 19 by 10, by 10
        Check.due("at each STAGE", Check.laid("s1,9;s50,9;p0,0,0,5,0;h0,0,-19;").hum(1, 0, 0), -5);
        Check.due("nothing is left of 9", Check.laid("s1,9;s50,9;p0,0,0,5,0;h0,0,9;").hum(1, 0, 0), 0);
    }

    private static void bottleOut() {
        Sentence.is(TERMS, "(with its BOTTLE out 0)");
        HummingSet x = Check.laid("s10,9;s10,9;s10,9;p0,0,0,5,0;m0,0,20;m1,1,20;m2,2,20;");
        int[] heard = {6, 4, 0};
        for (int s = 0; s < 3; s++) {
            Check.due("ask(0, 1, " + s + ", 0)", x.ask(0, 1, s, 0), heard[s]);
        }
        HummingSet fine = Check.laid("s50,9;s50,9;p0,0,0,5,0;m0,0,20;e0,1;e1,1;e2,1;");
        Check.due("ask(0, 1, 0, 0): nothing, not a little", fine.ask(0, 1, 0, 0), 0);
        Check.due("ask(0, 1, 1, 0): nothing, not a little", fine.ask(0, 1, 1, 0), 0);
        HummingSet one = Check.laid(ONE + "h0,0,50;e1,0;");
        Check.due("of the only STAGE", one.ask(1, 1, 0, 0), 2);
        Check.due("it is in again then", one.hum(1, 0, 0), 50);
    }

    private static void end() {
        Sentence.is(TERMS, "The END is what the last one hands on.");
        for (int stages = 1; stages <= 6; stages++) {
            HummingSet x = Check.laid("s20,9;".repeat(stages) + "p0,0,0,5,0;h0,1,3;");
            Check.due("of " + stages, x.hum(1, 1, 0), 3 << stages);
            Check.due("of " + stages + ", STATE 0", x.hum(0, 1, 0), 0);
        }
    }

    private static void ear() {
        Sentence.is(TERMS, "HEARD are TONES (bits) of which the END, made positive, is as the ear hears or more.");
        for (int tone = 0; tone < 3; tone++) {
            for (int ear : new int[] {0, 1, 2, 19, 20, 21, 400}) {
                for (int v : new int[] {ear - 1, ear, ear + 1, 1 - ear, -ear, -1 - ear}) {
                    HummingSet x = Check.laid(ONE + "e0,999;e1,999;e2,999;e" + tone + "," + ear + ";" + lets(tone, v));
                    int want = Math.abs(v) >= ear ? 1 << tone : 0;
                    Check.due("TONE " + tone + ", " + v + " of " + ear, x.heard(1, 0, 0), want);
                    Check.due("LISTEN", x.ask(1, 0, 0, 0), want);
                }
            }
        }
        Check.due("all three", Check.laid(ONE + "h0,0,20;h0,1,-20;h0,2,21;").heard(1, 0, 0), 7);
        Check.due("none of three", Check.laid(ONE + "h0,0,19;h0,1,-19;h0,2,0;").heard(1, 0, 0), 0);
    }

    private static void loud() {
        Sentence.is(TERMS, "LOUD: the ENDS of all TONES, each made positive, together.");
        Check.due("of nothing", Check.laid(ONE).heard(1, 0, 1), 0);
        Check.due("of 7, -8, 9", Check.laid(ONE + "h0,0,7;h0,1,-8;h0,2,9;").heard(1, 0, 1), 24);
        Check.due("of -50, 50", Check.laid(ONE + "h0,0,-50;h0,2,50;").heard(1, 0, 1), 100);
        Check.due("what is not HEARD counts, too", Check.laid(ONE + "h0,0,1;e0,999;").heard(1, 0, 1), 1);
    }

    private static void waysBack() {
        Sentence.is(TERMS, "(Ways back count for HOWLS alone.)");
        HummingSet with = Check.laid(ONE + "h0,0,50;" + "f0,0,200;".repeat(6));
        Check.due("hum(1, 0, 0)", with.hum(1, 0, 0), 50);
        Check.due("in(1, 0, 0, 0)", with.in(1, 0, 0, 0), 50);
        Check.due("ask(1, 4, 0, 0)", with.ask(1, 4, 0, 0), 2);
        Check.due("howls()", with.howls(), 1);
    }

    private static void listen() {
        Sentence.is(TERMS, "0 LISTEN (of 0): HEARD.");
        HummingSet x = Check.laid("s10,9;s10,9;p0,0,0,5,0;p0,0,0,5,0;h0,0,30;h1,1,30;");
        for (int state = 0; state < 4; state++) {
            Check.due("ask(" + state + ", 0, 0, 0)", x.ask(state, 0, 0, 0), state);
        }
        Check.due("ask(0, 0, 1, 0): of a STAGE that there is", x.ask(0, 0, 1, 0), BAD);
        Check.due("ask(0, 0, -1, 0)", x.ask(0, 0, -1, 0), BAD);
        Check.due("risk(0, 1)", x.risk(0, 1), BAD);
        Check.due("answer(0, 1, 0, 0)", x.answer(0, 1, 0, 0), BAD);
    }

    private static void finger() {
        Sentence.is(TERMS, "2 FINGER (of a STAGE): HEARD with 100 more of TONE 0 IN there.");
        int[][] rows = {{0, 100, 1}, {0, 101, 0}, {-1, 100, 0}, {1, 101, 1}, {-100, 1, 0}, {-100, 0, 1},
            {-200, 100, 1}, {-200, 101, 0}, {-199, 100, 0}};
        for (int[] row : rows) {
            HummingSet x = Check.laid(ONE + lets(0, row[0]) + "e0," + row[1] + ";");
            Check.due("of " + row[0] + ", the ear from " + row[1] + " on", x.ask(1, 2, 0, 0), row[2]);
        }
        HummingSet tones = Check.laid(ONE + "e0,100;e1,1;e2,1;");
        Check.due("of TONE 0 alone", tones.ask(0, 2, 0, 0), 1);
        HummingSet stages = Check.laid("s5,9;s1,9;s10,9;p0,0,0,5,0;e0,11;");
        Check.due("IN at STAGE 0: 100, 50, 5", stages.ask(0, 2, 0, 0), 0);
        Check.due("IN at STAGE 1: 100, 10", stages.ask(0, 2, 1, 0), 0);
        Check.due("IN at STAGE 2: 100", stages.ask(0, 2, 2, 0), 1);
        Check.due("the finger is off again", stages.in(0, 2, 0, 0), 0);
    }

    private static void across() {
        Sentence.is(TERMS, "3 ACROSS (of a PART): HEARD, as if it were in no trouble, if it is a tin; else as LISTEN.");
        for (int kind = 0; kind <= 4; kind++) {
            HummingSet x = Check.laid("s10,9;p0,1,0,5,0;p0," + kind + ",0,5,0;h0,0,30;h1,1,30;");
            Check.due("KIND " + kind + " in trouble", x.ask(3, 3, 1, 0), kind == 0 ? 1 : 3);
            Check.due("KIND " + kind + " in no trouble", x.ask(1, 3, 1, 0), 1);
        }
        HummingSet many = Check.laid("s10,9;" + "p0,0,0,5,0;".repeat(8) + "h0,0,30;h7,1,30;");
        Check.due("of the first of eight", many.ask(255, 3, 0, 0), 2);
        Check.due("of the last of eight", many.ask(255, 3, 7, 0), 1);
        Check.due("of one more", many.ask(255, 3, 8, 0), BAD);
        HummingSet louder = Check.laid(ONE + "m0,0,30;h0,0,-30;");
        Check.due("what it put out is heard", louder.ask(1, 3, 0, 0), 1);
    }

    private static void measure() {
        Sentence.is(TERMS, "INS of all TONES there, each made positive, together, by 20, cut, 9 at most.");
        for (int in : new int[] {0, 1, 19, 20, 21, 39, 40, 159, 160, 179, 180, 181, 199, 200, 201, 219, 800}) {
            int want = Math.min(9, in / 20);
            Check.due("of " + in, Check.laid(ONE + lets(0, in)).ask(1, 4, 0, 0), want);
            Check.due("of " + -in, Check.laid(ONE + lets(2, -in)).ask(1, 4, 0, 0), want);
        }
        Check.due("of 7, -7, 5", Check.laid(ONE + "h0,0,7;h0,1,-7;h0,2,5;").ask(1, 4, 0, 0), 0);
        Check.due("of 7, -7, -6", Check.laid(ONE + "h0,0,7;h0,1,-7;h0,2,-6;").ask(1, 4, 0, 0), 1);
        Check.due("IN, not what is handed on", Check.laid("s50,9;p0,0,0,5,0;h0,0,39;").ask(1, 4, 0, 0), 1);
    }

    private static void riskOfOut() {
        Sentence.is(TERMS, "its G and the G of that one by how many others there are, cut, together above its L");
        // 10 and 20: as much as it bears, and one more
        Check.due("30 of 30", Check.laid("s20,99;s10,30;p0,0,0,5,0;").risk(1, 0), 0);
        Check.due("30 of 29", Check.laid("s20,99;s10,29;p0,0,0,5,0;").risk(1, 0), 1);
        Check.due("its own L is not looked at", Check.laid("s20,1;s10,30;p0,0,0,5,0;").risk(1, 0), 0);
        Check.due("of the only one", Check.laid("s50,1;p0,0,0,5,0;").risk(1, 0), 0);
        for (int stages = 2; stages <= 6; stages++) {
            // 29 by the others, cut
            int share = 29 / (stages - 1);
            String bears = "s10," + (10 + share) + ";";
            String fewer = "s10," + (9 + share) + ";";
            HummingSet x = Check.laid("s29,99;" + bears.repeat(stages - 1) + "p0,0,0,5,0;");
            Check.due("of " + stages + ", cut", x.risk(1, 0), 0);
            HummingSet last = Check.laid("s29,99;" + bears.repeat(stages - 2) + fewer + "p0,0,0,5,0;");
            Check.due("of " + stages + ", the last one", last.risk(1, 0), 1);
            HummingSet first = Check.laid(fewer + bears.repeat(stages - 2) + "s29,99;p0,0,0,5,0;");
            Check.due("of " + stages + ", the first one", first.risk(1, stages - 1), 1);
        }
        Check.due("most there is: 100 of 99", Check.laid("s50,99;s50,99;p0,0,0,5,0;").risk(1, 1), 1);
    }

    private static void riskOfTouch() {
        Sentence.is(TERMS, "FINGER, MEASURE: 1, if some PART of that STAGE holds 300 volts or more; else 0.");
        for (int volts : new int[] {0, 299, 300, 301, 900}) {
            HummingSet x = Check.laid("s10,99;s10,99;p0,0,0,5,0;p1,0,0,5,0;p1,0,0,5,0;v1,299,1;v2," + volts + ",99;");
            int want = volts >= 300 ? 1 : 0;
            Check.due("FINGER of " + volts, x.risk(2, 1), want);
            Check.due("MEASURE of " + volts, x.risk(4, 1), want);
            Check.due("FINGER on another STAGE", x.risk(2, 0), 0);
            Check.due("MEASURE on another STAGE", x.risk(4, 0), 0);
            Check.due("LISTEN", x.risk(0, 0), 0);
            Check.due("OUT", x.risk(1, 1), 0);
            Check.due("ACROSS", x.risk(3, 2), 0);
        }
    }

    private static void voltsLeast() {
        Sentence.is(TERMS, "V, each minute less by V times R by 100, cut, and 1, 0 at least.");
        HummingSet none = Check.laid(ONE + "v0,0,99;");
        Check.due("volts(0, 0) of 0", none.volts(0, 0), 0);
        Check.due("volts(0, 1) of 0", none.volts(0, 1), 0);
        HummingSet one = Check.laid(ONE + "v0,1,99;");
        int[] told = {1, 0, 0};
        for (int m = 0; m < told.length; m++) {
            Check.due("volts(0, " + m + ") of 1", one.volts(0, m), told[m]);
        }
        // 99 by 100 is cut to nothing: 1 a minute; from 100 on it is 2
        HummingSet hundred = Check.laid(ONE + "v0,101,1;");
        int[] slow = {101, 99, 98};
        for (int m = 0; m < slow.length; m++) {
            Check.due("volts(0, " + m + ") of 101", hundred.volts(0, m), slow[m]);
        }
        HummingSet fast = Check.laid(ONE + "v0,900,99;");
        int[] quick = {900, 8, 0, 0};
        for (int m = 0; m < quick.length; m++) {
            Check.due("volts(0, " + m + ") of 900 by 99", fast.volts(0, m), quick[m]);
        }
    }

    private static int voltsAfter(int volts, int loss, int m) {
        int held = volts;
        for (int i = 0; i < m; i++) {
            held = Math.max(0, held - (held * loss / 100 + 1));
        }
        return held;
    }

    private static void voltsMinutes() {
        Sentence.ofPromise(12, "VOLTS (m 0 to 999). BAD.");
        int[] minutes = {0, 1, 2, 10, 50, 100, 200, 250, 299, 300, 998, 999};
        for (int loss : new int[] {1, 2, 50, 98, 99}) {
            HummingSet x = Check.laid(ONE + "v0,900," + loss + ";");
            for (int m : minutes) {
                Check.due("volts(0, " + m + ") by " + loss, x.volts(0, m), voltsAfter(900, loss, m));
            }
            Check.due("volts(0, 1000)", x.volts(0, 1000), BAD);
            Check.due("volts(0, -1)", x.volts(0, -1), BAD);
        }
    }

    private static void safe() {
        Sentence.is(TERMS, "SAFE: the first minute (0 to 999) at which no PART holds 50 volts or more; none.");
        int[][] rows = {{0, 1, 0}, {49, 99, 0}, {50, 1, 1}, {51, 1, 2}, {50, 99, 1}, {52, 1, 3}};
        for (int[] row : rows) {
            Check.due(row[0] + " volts", Check.laid(ONE + "v0," + row[0] + "," + row[1] + ";").safe(), row[2]);
        }
        for (int volts = 0; volts <= 900; volts += 9) {
            for (int loss : new int[] {1, 7, 99}) {
                int minute = 0;
                while (voltsAfter(volts, loss, minute) >= 50) {
                    minute++;
                }
                Check.due(volts + " volts by " + loss, Check.laid(ONE + "v0," + volts + "," + loss + ";").safe(), minute);
            }
        }
        String eight = "s10,99;" + "p0,0,0,5,0;".repeat(8);
        Check.due("of eight the last", Check.laid(eight + "v7,60,1;v0,900,99;").safe(), 11);
        Check.due("of eight the first", Check.laid(eight + "v0,60,1;v7,900,99;").safe(), 11);
        Check.due("of eight that hold none", Check.laid(eight).safe(), 0);
    }

    /** 900 volts, by 1 hundredth: the slowest that can be told is safe long ahead of 999. */
    private static void safeNone() {
        Sentence.ofPromise(13, "SAFE. NONE.");
        int slowest = Check.laid(ONE + "v0,900,1;").safe();
        Check.holds("there is always one: " + slowest, slowest > 0 && slowest <= 999);
        Check.due("49 volts are safe at once", Check.laid(ONE + "v0,49,1;").safe(), 0);
    }

    /** Nothing wraps around: all that can come in at STAGE 0, five times as much at each of six. */
    private static void loudestOfAll() {
        Sentence.ofPromise(7, "HUM: the END of a TONE.");
        for (int sign = -1; sign <= 1; sign += 2) {
            String text = "s50,9;".repeat(6) + "p0,0,0,5,0;" + ("h0,0," + 50 * sign + ";").repeat(16)
                    + ("m0,0," + 50 * sign + ";").repeat(6);
            HummingSet x = Check.laid(text);
            Check.due("hum(1, 0, 30)", x.hum(1, 0, 30), sign * 1100 * 15625);
            Check.due("in(1, 5, 0, 30)", x.in(1, 5, 0, 30), sign * 1100 * 3125);
            Check.due("heard(1, 30, 1)", x.heard(1, 30, 1), 1100 * 15625);
            Check.due("ask(1, 2, 0, 30)", x.ask(1, 2, 0, 30), 1);
            Check.due("ask(1, 4, 5, 30)", x.ask(1, 4, 5, 30), 9);
        }
    }
}
