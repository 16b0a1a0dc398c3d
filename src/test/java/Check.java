/** What the tests share: a due answer, and a TEXT written in pieces of eight bytes. */
final class Check {
    private static int calls = 0;
    private static int wrong = 0;
    /** The sentence that is being tested; it stands ahead of what is wrong. */
    private static String about = "";

    private Check() {
    }

    static void about(String sentence) {
        about = sentence;
    }

    static void due(String call, long got, long want) {
        calls++;
        if (got != want) {
            wrong++;
            System.out.println(about + call + " answered " + got + ", due is " + want);
        }
    }

    static void holds(String what, boolean is) {
        due(what + " (1: so)", is ? 1 : 0, 1);
    }

    static void end() {
        System.out.println(calls + " calls, " + wrong + " wrong");
        if (wrong != 0 || calls == 0) {
            System.exit(1);
        }
    }

    static void write(HummingSet set, String text) {
        for (int i = 0; i < text.length(); i += 8) {
            String piece = text.substring(i, Math.min(text.length(), i + 8));
            set.write(piece.length(), number(piece));
        }
    }

    static long number(String piece) {
        long v = 0;
        for (int i = 0; i < piece.length(); i++) {
            v = v << 8 | piece.charAt(i) & 255;
        }
        return v;
    }

    static HummingSet laid(String text) {
        HummingSet set = new HummingSet();
        write(set, text);
        due("lay() of " + text, set.lay() > 0 ? 1 : 0, 1);
        return set;
    }

    static int faultOf(String text) {
        HummingSet set = new HummingSet();
        write(set, text);
        return set.fault();
    }
}
