/** Promises 22 to 29: louder, howls, goes, nextToGo, set, keep, back, count. */
public final class BesideTest {
    private static final int BAD = HummingSet.BAD;

    private BesideTest() {
    }

    public static void main(String[] args) {
        louder();
        howls();
        goes();
        nextToGo();
        set();
        keepAndBack();
        keptIsLaidAnew();
        count();
        Check.end();
    }

    private static void louder() {
        HummingSet x = Check.laid("s10,99;p0,0,0,5,0;p0,2,0,5,30;p0,2,0,5,0;h0,0,30;h1,0,-20;h2,1,5;");
        Check.due("louder(0)", x.louder(0), 0);
        Check.due("louder(1)", x.louder(1), 0);
        // 30 - 20 is 10: without 0 it is 20, without 1 30
        Check.due("louder(3)", x.louder(3), 3);
        Check.due("louder(7)", x.louder(7), 3);
        Check.due("louder(4)", x.louder(4), 0);
        Check.due("louder(8)", x.louder(8), BAD);
        Check.due("louder(-1)", x.louder(-1), BAD);
        HummingSet same = Check.laid("s10,99;p0,0,0,5,0;m0,0,15;h0,0,-30;");
        Check.due("as loud is not louder", same.louder(1), 0);
    }

    private static void howlsDue(String text, int want) {
        Check.due("howls of " + text, Check.laid(text).howls(), want);
    }

    private static void howls() {
        String part = "p0,0,0,5,0;";
        howlsDue("s10,99;" + part, 0);
        howlsDue("s10,99;" + part + "f0,0,100;", 1);
        howlsDue("s10,99;" + part + "f0,0,99;", 0);
        howlsDue("s10,99;" + part + "f0,0,-200;", 0);
        howlsDue("s10,99;" + part + "f0,0,60;f0,0,60;", 0);
        howlsDue("s10,99;" + part + "f0,0,200;f0,0,-200;", 1);
        // 2 times 0.5 from STAGE 0, 0.5 alone from STAGE 1
        howlsDue("s20,99;s5,99;" + part + "f0,1,100;f1,2,199;", 2);
        howlsDue("s20,99;s5,99;" + part + "f0,1,99;f1,2,200;", 4);
        howlsDue("s50,9;s50,9;s50,9;s50,9;s50,9;s50,9;" + part + "f0,0,1;f1,1,1;f3,2,1;", 7);
        howlsDue("s50,9;s50,9;s50,9;s50,9;s50,9;s50,9;" + part + "f4,2,3;f4,1,4;f0,0,0;", 2);
        howlsDue("s1,9;s1,9;s1,9;s1,9;s1,9;s1,9;" + part + "f0,0,200;", 0);
    }

    private static void goes() {
        HummingSet x = Check.laid("s10,99;p0,0,99,5,0;p0,1,0,5,0;p0,3,7,5,0;k0,50;k1,50;k3,9;k3,20;");
        // 50 times 99 by 10 is 495
        Check.due("goes(0, 1)", x.goes(0, 1), 495000);
        // then 500 of a thousand of 505000
        Check.due("goes(0, 2)", x.goes(0, 2), 495000 + 252500);
        Check.due("goes(1, 1): of age 0 none", x.goes(1, 1), 0);
        Check.due("goes(1, 2)", x.goes(1, 2), 5000);
        // 14, 16, 18 of a thousand: 14000, 15776, 17464.032 cut
        Check.due("goes(2, 3)", x.goes(2, 3), 14000 + 15776 + 17464);
        Check.due("goes(0, 0)", x.goes(0, 0), BAD);
        Check.due("goes(0, 51)", x.goes(0, 51), BAD);
        Check.due("goes(3, 1)", x.goes(3, 1), BAD);
        Check.due("goes(-1, 1)", x.goes(-1, 1), BAD);
        HummingSet never = Check.laid("s10,99;p0,4,99,5,0;k4,0;");
        Check.due("of a KIND of 0 none goes", never.goes(0, 50), 0);
    }

    private static void nextToGo() {
        HummingSet x = Check.laid("s10,99;p0,0,30,5,0;p0,1,1,5,0;p0,0,31,5,0;p0,2,31,5,0;k1,50;");
        // 5 times 31 by 10 is 15, as with 30; later on PART 1 overtakes
        Check.due("nextToGo(1): the lowest", x.nextToGo(1), 0);
        Check.due("nextToGo(2): a year older, 16", x.nextToGo(2), 2);
        Check.due("nextToGo(50)", x.nextToGo(50), 1);
        Check.due("nextToGo(0)", x.nextToGo(0), BAD);
        Check.due("nextToGo(51)", x.nextToGo(51), BAD);
    }

    private static void set() {
        HummingSet x = Check.laid("s10,99;p0,0,0,1,0;p0,0,0,2,0;p0,0,0,3,0;");
        // z = 0: x is 1, 6152, 12303; squares modulo 65521 are 1, 41487, 10299
        Check.due("set(0)", x.set(0), 0);
        HummingSet y = Check.laid("s10,99;p0,0,0,2,0;p0,0,0,8,0;p0,0,0,9,0;");
        Check.due("set(0) of C above 1, 7, not above 9", y.set(0), 3);
        HummingSet z = Check.laid("s10,99;p0,0,0,0,0;p0,0,0,7,0;");
        Check.due("C of 0 never, as much is not below", z.set(0), 0);
        Check.due("set(-1)", x.set(-1), BAD);
        Check.due("set(10000)", x.set(10000), BAD);
        Check.holds("set(9999) is a STATE", x.set(9999) >= 0 && x.set(9999) < 8);
        // x is 79182082, its square modulo 65521 is 51303
        Check.due("set(9999) of C 4", Check.laid("s10,99;p0,0,0,4,0;").set(9999), 1);
        Check.due("set(9999) of C 3", Check.laid("s10,99;p0,0,0,3,0;").set(9999), 0);
    }

    private static void keepAndBack() {
        HummingSet x = Check.laid("s10,99;p0,0,0,5,0;p0,0,0,5,0;h0,0,30;h1,1,30;");
        Check.due("back of nothing", x.back(), HummingSet.NO);
        x.answer(0, 0, 0, 1);
        Check.due("keep", x.keep(), 1);
        x.answer(0, 0, 0, 2);
        Check.due("second keep", x.keep(), 2);
        x.forget();
        x.answer(0, 0, 0, 3);
        x.answer(3, 0, 7, 2);
        x.answer(4, 0, 7, 3);
        Check.due("third keep", x.keep(), HummingSet.FULL);
        Check.due("count(3) as it was", x.count(3), 3);
        Check.due("possible as it was", x.possible(0), 1);
        Check.due("likeliest as it was", x.likeliest(), 3);
        Check.due("back", x.back(), 1);
        Check.due("count(3) as kept last", x.count(3), 2);
        Check.due("possible as kept last", x.possible(0), 0);
        Check.due("back again", x.back(), 0);
        Check.due("count(3) as kept first", x.count(3), 1);
        Check.due("likeliest as kept first", x.likeliest(), 1);
        Check.due("back of no more", x.back(), HummingSet.NO);
        Check.due("count(3) is left", x.count(3), 1);
        Check.due("keep again", x.keep(), 1);
        x.forget();
        Check.due("forget leaves what is KEPT", x.count(4), 1);
        x.back();
        Check.due("possible again", x.possible(0), 1);
    }

    private static void keptIsLaidAnew() {
        HummingSet x = new HummingSet();
        x.answer(0, 0, 0, 0);
        x.keep();
        Check.write(x, "s10,99;p0,0,0,5,0;");
        x.lay();
        Check.due("back behind a lay", x.back(), HummingSet.NO);
        Check.due("count(3) behind a lay", x.count(3), 0);
        Check.due("possible behind a lay", x.possible(0), 2);
    }

    private static void count() {
        HummingSet x = Check.laid("s10,99;s10,99;p0,0,0,5,0;p0,0,0,5,0;p1,0,0,5,0;");
        x.answer(0, 0, 0, 0);
        x.answer(0, 0, 0, 0);
        x.answer(0, 0, 0, 0);
        x.answer(0, 0, 0, 0);
        x.keep();
        int[] told = {2, 3, 47, 4, 1};
        for (int what = 0; what < told.length; what++) {
            Check.due("count(" + what + ")", x.count(what), told[what]);
        }
        Check.due("count(5)", x.count(5), BAD);
        Check.due("count(-1)", x.count(-1), BAD);
    }
}
