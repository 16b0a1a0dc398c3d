/** Promises 7 to 13: hum, in, heard, ask, risk, volts, safe. */
public final class HeardTest {
    private static final int LEAST = Integer.MIN_VALUE;
    /** STAGE 0 hands on 1.5 times, STAGE 1 half; PART 0 a tin behind, PART 1 a coil that shows from 5 on. */
    private static final String TWO = "s15,30;s5,20;p0,0,0,5,0;p1,2,0,5,5;h0,0,33;h0,0,2;h0,1,-7;h1,0,-9;m0,2,5;m1,2,-4;m1,2,-6;";

    private HeardTest() {
    }

    public static void main(String[] args) {
        hum();
        in();
        heard();
        ask();
        measure();
        askBad();
        riskOut();
        riskTouch();
        volts();
        safe();
        Check.end();
    }

    private static void hum() {
        HummingSet x = Check.laid(TWO);
        // 35 times 1.5 is 52, half of it 26
        Check.due("hum(1, 0, 0)", x.hum(1, 0, 0), 26);
        // -7 times 1.5 is -10, cut towards 0; half of it -5
        Check.due("hum(1, 1, 0)", x.hum(1, 1, 0), -5);
        // 5 times 1.5 is 7, with -10 is -3, half of it -1
        Check.due("hum(0, 2, 0)", x.hum(0, 2, 0), -1);
        Check.due("hum(2, 0, 4): cold", x.hum(2, 0, 4), 0);
        Check.due("hum(2, 0, 5): warm", x.hum(2, 0, 5), -4);
        Check.due("hum(3, 0, 30)", x.hum(3, 0, 30), 21);
        Check.due("hum of STATE 4", x.hum(4, 0, 0), LEAST);
        Check.due("hum of STATE -1", x.hum(-1, 0, 0), LEAST);
        Check.due("hum of TONE 3", x.hum(0, 3, 0), LEAST);
        Check.due("hum of TONE -1", x.hum(0, -1, 0), LEAST);
        Check.due("hum 31 minutes on", x.hum(0, 0, 31), LEAST);
        Check.due("hum -1 minutes on", x.hum(0, 0, -1), LEAST);
        HummingSet back = Check.laid("s10,9;p0,0,0,5,0;h0,0,50;f0,0,200;");
        Check.due("ways back are not heard", back.hum(1, 0, 0), 50);
    }

    private static void in() {
        HummingSet x = Check.laid(TWO);
        Check.due("in(1, 0, 0, 0)", x.in(1, 0, 0, 0), 35);
        Check.due("in(1, 1, 0, 0)", x.in(1, 1, 0, 0), 52);
        Check.due("in(3, 1, 0, 5)", x.in(3, 1, 0, 5), 43);
        Check.due("in(3, 1, 0, 4)", x.in(3, 1, 0, 4), 52);
        Check.due("in(1, 1, 1, 0)", x.in(1, 1, 1, 0), -10);
        Check.due("in(0, 1, 2, 0)", x.in(0, 1, 2, 0), -3);
        Check.due("in of STATE 4", x.in(4, 0, 0, 0), LEAST);
        Check.due("in of STAGE 2", x.in(0, 2, 0, 0), LEAST);
        Check.due("in of STAGE -1", x.in(0, -1, 0, 0), LEAST);
        Check.due("in of TONE 3", x.in(0, 0, 3, 0), LEAST);
        Check.due("in 31 minutes on", x.in(0, 0, 0, 31), LEAST);
    }

    private static void heard() {
        HummingSet x = Check.laid(TWO + "e1,5;e2,2;");
        Check.due("heard(1, 0, 0)", x.heard(1, 0, 0), 3);
        Check.due("heard(0, 0, 0)", x.heard(0, 0, 0), 0);
        Check.due("heard(1, 0, 1)", x.heard(1, 0, 1), 26 + 5 + 1);
        Check.due("heard(2, 4, 1)", x.heard(2, 4, 1), 1);
        Check.due("heard(2, 5, 1)", x.heard(2, 5, 1), 5);
        HummingSet deaf = Check.laid(TWO + "e0,27;e1,6;e2,0;");
        Check.due("just below the ear; an ear of 0 hears nothing, too", deaf.heard(1, 0, 0), 4);
        Check.due("heard what 2", x.heard(0, 0, 2), HummingSet.BAD);
        Check.due("heard what -1", x.heard(0, 0, -1), HummingSet.BAD);
        Check.due("heard of STATE 4", x.heard(4, 0, 0), HummingSet.BAD);
        Check.due("heard 31 minutes on", x.heard(0, 31, 0), HummingSet.BAD);
    }

    private static void ask() {
        HummingSet x = Check.laid(TWO + "e1,5;");
        Check.due("LISTEN", x.ask(1, 0, 0, 0), 3);
        Check.due("OUT of 0", x.ask(1, 1, 0, 0), 0);
        Check.due("OUT of 1", x.ask(1, 1, 1, 0), 0);
        // 100 times 1.5 is 150, half of it 75
        Check.due("FINGER on 0", x.ask(0, 2, 0, 0), 1);
        // 100 at the last, half of it 50
        Check.due("FINGER on 1", x.ask(0, 2, 1, 0), 1);
        Check.due("ACROSS the tin", x.ask(1, 3, 0, 0), 0);
        Check.due("ACROSS the tin, not in trouble", x.ask(2, 3, 0, 30), 0);
        Check.due("FINGER is 100", Check.laid("s10,9;p0,0,0,5,0;e0,100;").ask(0, 2, 0, 0), 1);
        Check.due("FINGER is not 101", Check.laid("s10,9;p0,0,0,5,0;e0,101;").ask(0, 2, 0, 0), 0);
        Check.due("FINGER is of TONE 0", Check.laid("s10,9;p0,0,0,5,0;e1,1;e2,1;").ask(0, 2, 0, 0), 1);
        HummingSet coil = Check.laid("s10,9;p0,2,0,5,0;h0,0,50;");
        Check.due("ACROSS a coil is LISTEN", coil.ask(1, 3, 0, 0), 1);
        HummingSet down = Check.laid("s10,9;s10,9;p0,0,0,5,0;h0,0,-50;h0,0,-45;");
        Check.due("a FINGER may make it still", down.ask(1, 2, 1, 0), 0);
        HummingSet behind = Check.laid("s10,9;s10,9;p0,0,0,5,0;p1,0,0,5,0;h0,0,30;h1,1,30;");
        Check.due("OUT of 0 leaves what comes in at 1", behind.ask(3, 1, 0, 0), 2);
        Check.due("OUT of 1 leaves nothing", behind.ask(3, 1, 1, 0), 0);
        HummingSet always = Check.laid("s10,9;p0,0,0,5,0;e2,0;");
        Check.due("OUT with an ear of 0", always.ask(0, 1, 0, 0), 4);
    }

    private static void measure() {
        HummingSet x = Check.laid(TWO);
        Check.due("MEASURE 0: 35, 7, 5", x.ask(1, 4, 0, 0), 2);
        Check.due("MEASURE 1: 52, 10, 3", x.ask(1, 4, 1, 0), 3);
        Check.due("MEASURE 1 warm: 43, 10, 3", x.ask(3, 4, 1, 5), 2);
        HummingSet high = Check.laid("s50,9;s50,9;p0,0,0,5,0;h0,0,-50;m0,1,3;m0,1,-3;");
        Check.due("MEASURE 0 of 50", high.ask(1, 4, 0, 0), 2);
        Check.due("MEASURE 1 of 250: 9 at most", high.ask(1, 4, 1, 0), 9);
        HummingSet edge = Check.laid("s10,9;p0,0,0,5,0;m0,0,-10;m0,1,9;m0,2,1;");
        Check.due("MEASURE of 20", edge.ask(0, 4, 0, 0), 1);
    }

    private static void askBad() {
        HummingSet x = Check.laid("s10,9;s10,9;p0,0,0,5,0;p0,0,0,5,0;p0,0,0,5,0;");
        int[][] none = {{0, 1}, {0, -1}, {1, 2}, {2, 2}, {4, 2}, {3, 3}, {5, 0}, {-1, 0}, {1, -1}, {3, -1}};
        for (int[] ask : none) {
            Check.due("ask of KIND " + ask[0] + " of " + ask[1], x.ask(0, ask[0], ask[1], 0), HummingSet.BAD);
            Check.due("risk of KIND " + ask[0] + " of " + ask[1], x.risk(ask[0], ask[1]), HummingSet.BAD);
            Check.due("answer of KIND " + ask[0] + " of " + ask[1], x.answer(ask[0], ask[1], 0, 0), HummingSet.BAD);
        }
        Check.due("ask ACROSS the last PART", x.ask(0, 3, 2, 0), 0);
        Check.due("ask of STATE 8", x.ask(8, 0, 0, 0), HummingSet.BAD);
        Check.due("ask 31 minutes on", x.ask(0, 0, 0, 31), HummingSet.BAD);
    }

    private static void riskOut() {
        HummingSet x = Check.laid("s20,26;s11,18;s7,17;p0,0,0,5,0;");
        // 11 by 2 is 5: 25 of 26, 12 of 17; 7 by 2 is 3; 20 by 2 is 10: 21 above 18
        Check.due("OUT of 0", x.risk(1, 0), 1);
        Check.due("OUT of 1", x.risk(1, 1), 0);
        Check.due("OUT of 2", x.risk(1, 2), 0);
        HummingSet same = Check.laid("s20,26;s11,21;s7,17;p0,0,0,5,0;");
        Check.due("as much as they bear", same.risk(1, 0), 0);
        HummingSet less = Check.laid("s20,26;s11,21;s7,16;p0,0,0,5,0;");
        Check.due("the last one bears too much", less.risk(1, 0), 1);
        HummingSet alone = Check.laid("s50,1;p0,0,0,5,0;");
        Check.due("OUT of the only one", alone.risk(1, 0), 0);
    }

    private static void riskTouch() {
        HummingSet x = Check.laid("s10,9;s10,9;p0,0,0,5,0;p1,0,0,5,0;v0,299,1;v1,300,99;");
        int[][] told = {{0, 0, 0}, {2, 0, 0}, {2, 1, 1}, {4, 0, 0}, {4, 1, 1}, {3, 0, 0}, {3, 1, 0}};
        for (int[] row : told) {
            Check.due("risk(" + row[0] + ", " + row[1] + ")", x.risk(row[0], row[1]), row[2]);
        }
        HummingSet last = Check.laid("s10,9;p0,0,0,5,0;v0,900,1;v0,10,1;");
        Check.due("the last ITEM counts", last.risk(2, 0), 0);
    }

    private static void volts() {
        HummingSet x = Check.laid("s10,9;p0,0,0,5,0;p0,0,0,5,0;v0,105,50;v0,105,33;");
        // 105 - 34 - 1 = 70, 70 - 23 - 1 = 46, 46 - 15 - 1 = 30
        int[] told = {105, 70, 46, 30};
        for (int m = 0; m < told.length; m++) {
            Check.due("volts(0, " + m + ")", x.volts(0, m), told[m]);
        }
        Check.due("volts(0, 999)", x.volts(0, 999), 0);
        Check.due("volts(1, 0)", x.volts(1, 0), 0);
        Check.due("volts(1, 1)", x.volts(1, 1), 0);
        Check.due("volts(2, 0)", x.volts(2, 0), HummingSet.BAD);
        Check.due("volts(-1, 0)", x.volts(-1, 0), HummingSet.BAD);
        Check.due("volts(0, 1000)", x.volts(0, 1000), HummingSet.BAD);
        Check.due("volts(0, -1)", x.volts(0, -1), HummingSet.BAD);
    }

    private static void safe() {
        Check.due("safe of 49", Check.laid("s10,9;p0,0,0,5,0;v0,49,1;").safe(), 0);
        Check.due("safe of 50", Check.laid("s10,9;p0,0,0,5,0;v0,50,1;").safe(), 1);
        Check.due("safe of the slower one",
                Check.laid("s10,9;p0,0,0,5,0;p0,0,0,5,0;v0,60,1;v1,900,99;").safe(), 11);
        HummingSet slow = Check.laid("s10,9;p0,0,0,5,0;v0,900,1;");
        Check.holds("50 volts or more the minute ahead", slow.volts(0, slow.safe() - 1) >= 50);
        Check.holds("fewer than 50 then", slow.volts(0, slow.safe()) < 50);
    }
}
