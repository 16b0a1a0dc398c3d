/** Promises 1 to 6: a new object, write, wipe, fault, lay, part. */
public final class SetsTest {
    private static final String ONE = "s10,99;p0,0,0,5,0;";

    private SetsTest() {
    }

    public static void main(String[] args) {
        newObject();
        write();
        wipe();
        faultOfForm();
        faultOfNumbers();
        faultOfTelling();
        faultOfTooMany();
        lay();
        part();
        Check.end();
    }

    private static void newObject() {
        HummingSet x = new HummingSet();
        Check.due("new count(0)", x.count(0), 1);
        Check.due("new count(1)", x.count(1), 1);
        Check.due("new count(2)", x.count(2), 0);
        Check.due("new count(3)", x.count(3), 0);
        Check.due("new count(4)", x.count(4), 0);
        Check.due("new fault()", x.fault(), HummingSet.NONE);
        Check.due("new lay()", x.lay(), HummingSet.NO);
        Check.due("new hum(1, 0, 0)", x.hum(1, 0, 0), 30);
        Check.due("new hum(1, 1, 0)", x.hum(1, 1, 0), 0);
        int[] told = {0, 0, 0, 5, 0, 10};
        for (int what = 0; what < told.length; what++) {
            Check.due("new part(0, " + what + ")", x.part(0, what), told[what]);
        }
    }

    private static void write() {
        HummingSet x = new HummingSet();
        Check.due("write(0, 1)", x.write(0, 1), HummingSet.BAD);
        Check.due("write(9, 1)", x.write(9, 1), HummingSet.BAD);
        Check.due("write(-1, 1)", x.write(-1, 1), HummingSet.BAD);
        Check.due("count(2) after bad writes", x.count(2), 0);
        Check.due("write takes the low bytes alone", x.write(2, 0x7172737435L << 8 | '3'), 2);
        x.wipe();
        for (int i = 1; i <= 49; i++) {
            Check.due("write " + i, x.write(8, Check.number("e0,0020;")), 8 * i);
        }
        Check.due("write of four more", x.write(4, Check.number("e0,1")), 396);
        Check.due("write of five too many", x.write(5, 0), HummingSet.FULL);
        Check.due("bad before full", x.write(9, 0), HummingSet.BAD);
        Check.due("count(2) after full", x.count(2), 396);
        Check.due("write of the last four", x.write(4, 0), 400);
        Check.due("write of one too many", x.write(1, 0), HummingSet.FULL);
        HummingSet high = new HummingSet();
        Check.due("write of a negative", high.write(8, -1L), 8);
        Check.due("fault of bytes 255", high.fault(), 0);
    }

    private static void wipe() {
        HummingSet x = new HummingSet();
        Check.due("wipe of nothing", x.wipe(), 0);
        Check.write(x, ONE);
        Check.due("lay", x.lay(), 1);
        Check.due("lay leaves THE TEXT", x.count(2), ONE.length());
        Check.due("wipe", x.wipe(), ONE.length());
        Check.due("count(2) after wipe", x.count(2), 0);
        Check.due("wipe leaves what is laid", x.count(1), 1);
        Check.due("second wipe", x.wipe(), 0);
    }

    private static void fault(String text, int want) {
        Check.due("fault of " + text, Check.faultOf(text), want);
    }

    private static void faultOfForm() {
        fault("", HummingSet.NONE);
        fault(ONE, HummingSet.NONE);
        fault("s10,99", 0);
        fault("s10,99;p0,0,0,5,0", 7);
        fault("s10;", 0);
        fault("s10,99,1;", 0);
        fault("s10,99,;", 0);
        fault("s,10,99;", 0);
        fault("s10,,99;", 0);
        fault("s;", 0);
        fault(";", 0);
        fault("s10,99;;", 7);
        fault("s10,99; s10,99;", 7);
        fault("s10, 99;", 0);
        fault("S10,99;", 0);
        fault("a10,99;", 0);
        fault("10,99;", 0);
        fault("s010,099;", HummingSet.NONE);
        fault("s0010,99;", 0);
        fault("s001,001;", HummingSet.NONE);
        fault("s+10,99;", 0);
        fault("s--1,99;", 0);
        fault("s-,99;", 0);
        fault(ONE + "h0,0,-0;", ONE.length());
        fault(ONE + "h0,0,-000;", ONE.length());
        fault(ONE + "h0,-0,1;", ONE.length());
        fault(ONE + "h0,0,-01;", HummingSet.NONE);
        fault(ONE + "h0,0,000;", HummingSet.NONE);
        fault(ONE + "h0,0,-;", ONE.length());
        fault(ONE + "q0,0;s99,99;", ONE.length());
    }

    private static void faultOfNumbers() {
        edges("", "s", ",1", 1, 50);
        edges("", "s1,", "", 1, 99);
        edges("s1,1;", "p0,", ",0,0,0", 0, 4);
        edges("s1,1;", "p0,0,", ",0,0", 0, 99);
        edges("s1,1;", "p0,0,0,", ",0", 0, 9);
        edges("s1,1;", "p0,0,0,0,", "", 0, 30);
        edges(ONE, "h0,", ",1", 0, 2);
        edges(ONE, "h0,0,", "", -50, 50);
        edges(ONE, "m0,", ",1", 0, 2);
        edges(ONE, "m0,0,", "", -50, 50);
        edges(ONE, "c0,", "", 1, 99);
        edges(ONE, "f0,", ",1", 0, 2);
        edges(ONE, "f0,0,", "", -200, 200);
        edges("", "e", ",1", 0, 2);
        edges("", "e0,", "", 0, 999);
        edges("", "k", ",1", 0, 4);
        edges("", "k0,", "", 0, 50);
        edges(ONE, "v0,", ",1", 0, 900);
        edges(ONE, "v0,1,", "", 1, 99);
    }

    private static void edges(String ahead, String front, String rest, int lowest, int highest) {
        fault(ahead + front + lowest + rest + ";", HummingSet.NONE);
        fault(ahead + front + highest + rest + ";", HummingSet.NONE);
        fault(ahead + front + (lowest - 1) + rest + ";", ahead.length());
        fault(ahead + front + (highest + 1) + rest + ";", ahead.length());
    }

    private static void faultOfTelling() {
        String two = "s1,1;s1,1;p0,0,0,0,0;p1,0,0,0,0;";
        String[] ofStage = {"p2,0,0,0,0;", "m2,0,1;", "f2,0,1;", "p-1,0,0,0,0;", "m-1,0,1;", "f-1,0,1;"};
        String[] ofPart = {"h2,0,1;", "c2,1;", "v2,1,1;", "h-1,0,1;", "c-1,1;", "v-1,1,1;"};
        for (String item : ofStage) {
            fault(two + item, two.length());
            fault(two + item.replaceFirst("-?\\d", "1"), HummingSet.NONE);
        }
        for (String item : ofPart) {
            fault(two + item, two.length());
            fault(two + item.replaceFirst("-?\\d", "1"), HummingSet.NONE);
        }
        fault("p0,0,0,0,0;s1,1;", 0);
        fault("s1,1;h0,0,1;p0,0,0,0,0;", 5);
        fault("m0,0,1;s1,1;", 0);
        fault("s1,1;c0,1;p0,0,0,0,0;", 5);
        fault("f0,0,1;s1,1;", 0);
        fault("s1,1;v0,1,1;p0,0,0,0,0;", 5);
    }

    private static void faultOfTooMany() {
        most("", "s1,1;", 6);
        most("s1,1;", "p0,0,0,0,0;", 8);
        most(ONE, "h0,0,1;", 16);
        most(ONE, "m0,0,1;", 6);
        most(ONE, "f0,0,1;", 6);
        fault("e0,1;".repeat(80), HummingSet.NONE);
        fault("k0,1;".repeat(80), HummingSet.NONE);
        fault(ONE + "c0,1;".repeat(40), HummingSet.NONE);
        fault(ONE + "v0,1,1;".repeat(40), HummingSet.NONE);
    }

    private static void most(String ahead, String item, int many) {
        String full = ahead + item.repeat(many);
        fault(full, HummingSet.NONE);
        fault(full + item, full.length());
    }

    private static void lay() {
        HummingSet x = new HummingSet();
        x.answer(0, 0, 0, 1);
        x.keep();
        Check.write(x, "s10,1;");
        Check.due("lay without a PART", x.lay(), HummingSet.NO);
        Check.due("a refused lay leaves the answers", x.count(3), 1);
        Check.due("a refused lay leaves the kept", x.count(4), 1);
        Check.due("a refused lay leaves the set", x.hum(1, 0, 0), 30);
        Check.due("and what is possible", x.possible(0), 1);
        Check.write(x, "p0,0,0,5,0;p0,1,7,3,0;x");
        Check.due("lay with a FAULT", x.lay(), HummingSet.NO);
        Check.due("still the first set", x.count(1), 1);
        x.wipe();
        Check.write(x, "s10,1;p0,0,0,5,0;p0,1,7,3,0;");
        Check.due("fault does not lay", x.fault(), HummingSet.NONE);
        Check.due("still the first set", x.count(1), 1);
        Check.due("lay", x.lay(), 2);
        Check.due("nothing is ANSWERED", x.count(3), 0);
        Check.due("nothing is KEPT", x.count(4), 0);
        Check.due("what is possible anew", x.possible(0), 4);
        Check.due("lay without STAGE", new HummingSet().lay(), HummingSet.NO);
        layForgetsWhatWasReadAhead();
    }

    private static void layForgetsWhatWasReadAhead() {
        HummingSet x = new HummingSet();
        Check.write(x, ONE + "h0,0,30;m0,1,5;c0,3;f0,0,200;e0,1;k0,50;v0,900,1;");
        x.fault();
        x.lay();
        x.wipe();
        Check.write(x, "s10,1;p0,0,40,5,0;");
        Check.due("lay", x.lay(), 1);
        Check.due("second lay", x.lay(), 1);
        Check.due("no hum is left", x.hum(1, 0, 0), 0);
        Check.due("no mains are left", x.hum(1, 1, 0), 0);
        Check.due("no cost is left", x.part(0, 5), 10);
        Check.due("no way is left", x.howls(), 0);
        Check.due("no ear is left", x.ask(0, 2, 0, 0), 1);
        Check.due("20 of a thousand go", x.goes(0, 1), 20000);
        Check.due("no volts are left", x.volts(0, 0), 0);
        HummingSet ear = Check.laid(ONE + "h0,0,19;m0,1,20;");
        Check.due("the ear hears from 20 on", ear.heard(1, 0, 0), 2);
    }

    private static void part() {
        HummingSet x = Check.laid("s1,1;s2,2;p1,4,99,9,30;p0,3,12,0,7;c1,99;c0,3;c1,42;");
        int[][] told = {{1, 4, 99, 9, 30, 3}, {0, 3, 12, 0, 7, 42}};
        for (int p = 0; p < 2; p++) {
            for (int what = 0; what < 6; what++) {
                Check.due("part(" + p + ", " + what + ")", x.part(p, what), told[p][what]);
            }
            Check.due("part(.., 6)", x.part(p, 6), HummingSet.BAD);
            Check.due("part(.., -1)", x.part(p, -1), HummingSet.BAD);
        }
        Check.due("part(2, 0)", x.part(2, 0), HummingSet.BAD);
        Check.due("part(-1, 0)", x.part(-1, 0), HummingSet.BAD);
    }
}
