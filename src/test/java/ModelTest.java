import java.lang.reflect.InvocationTargetException;
import java.lang.reflect.Method;
import java.util.ArrayList;
import java.util.List;
import java.util.Random;

/** All promises: random runs, each call made of HummingSet and of Model. */
public final class ModelTest {
    private static final int RUNS = 400;
    private static final int WRONG_MOST = 20;
    private static int wrong = 0;
    private final Random random;
    private final HummingSet set = new HummingSet();
    private final Model model = new Model();
    private final List<String> log = new ArrayList<>();

    private ModelTest(long seed) {
        random = new Random(seed);
    }

    public static void main(String[] args) throws ReflectiveOperationException {
        int runs = args.length > 0 ? Integer.parseInt(args[0]) : RUNS;
        long from = args.length > 1 ? Long.parseLong(args[1]) : 0;
        for (long seed = from; seed < from + runs && wrong < WRONG_MOST; seed++) {
            new ModelTest(seed).run();
        }
        System.out.println(runs + " runs, " + wrong + " wrong");
        if (wrong != 0) {
            System.exit(1);
        }
    }

    private void run() throws ReflectiveOperationException {
        int rounds = 1 + random.nextInt(3);
        for (int i = 0; i < rounds; i++) {
            tell(i == 0 && random.nextInt(10) == 0 ? "" : randomText());
            for (int k = 0; k < 40; k++) {
                callSome();
            }
        }
    }

    private void tell(String text) throws ReflectiveOperationException {
        call("wipe");
        for (int i = 0; i < text.length(); i += 8) {
            String piece = text.substring(i, Math.min(text.length(), i + 8));
            call("write", piece.length(), Check.number(piece));
        }
        call("fault");
        call("lay");
    }

    private int below(int n) {
        return random.nextInt(n);
    }

    private int between(int a, int b) {
        return a + random.nextInt(b - a + 1);
    }

    private String randomText() {
        StringBuilder text = new StringBuilder();
        int stages = between(1, below(30) == 0 ? 7 : 6);
        int parts = between(1, below(30) == 0 ? 9 : below(4) == 0 ? 8 : 5);
        boolean bland = below(3) == 0;
        for (int i = 0; i < stages; i++) {
            text.append("s").append(bland ? 10 : between(5, below(3) == 0 ? 50 : 20)).append(",").append(between(10, 60)).append(";");
        }
        for (int i = 0; i < parts; i++) {
            text.append("p").append(below(stages)).append(",").append(below(5)).append(",").append(below(100)).append(",")
                    .append(bland ? 5 : below(10)).append(",").append(below(2) * below(31)).append(";");
        }
        int more = between(parts, 24);
        for (int i = 0; i < more && text.length() < 385; i++) {
            text.append(randomItem(stages, parts));
        }
        return below(8) == 0 ? spoiled(text) : text.toString();
    }

    private String randomItem(int stages, int parts) {
        int s = below(stages);
        int p = below(parts);
        int t = below(3);
        switch (below(12)) {
            case 0: return "m" + s + "," + t + "," + between(-50, 50) + ";";
            case 1: return "c" + p + "," + between(1, 99) + ";";
            case 2: return "f" + s + "," + t + "," + between(-200, 200) + ";";
            case 3: return "e" + t + "," + (below(3) == 0 ? below(1000) : below(60)) + ";";
            case 4: return "k" + below(5) + "," + between(0, 50) + ";";
            case 5: return "v" + p + "," + between(0, 900) + "," + between(1, below(2) == 0 ? 5 : 99) + ";";
            default: return "h" + p + "," + t + "," + between(-50, 50) + ";";
        }
    }

    private String spoiled(StringBuilder text) {
        String signs = "0123456789,;-sphmcfekvx \u00ff";
        int place = below(text.length());
        char sign = signs.charAt(below(signs.length()));
        switch (below(3)) {
            case 0: text.setCharAt(place, sign); break;
            case 1: text.insert(place, sign); break;
            default: text.deleteCharAt(place);
        }
        return text.toString();
    }

    /** Mostly a number that is told, at times one beside. */
    private int some(int lowest, int highest) {
        int way = below(60);
        if (way == 0) {
            return lowest - 1;
        }
        if (way == 1) {
            return highest + 1;
        }
        if (way == 2) {
            return random.nextInt();
        }
        return between(lowest, Math.max(lowest, highest));
    }

    private void callSome() throws ReflectiveOperationException {
        int stages = model.count(0);
        int parts = model.count(1);
        int state = some(0, (1 << parts) - 1);
        int kind = some(0, 4);
        int of = kind == 0 ? some(0, 0) : kind == 3 ? some(0, parts - 1) : some(0, stages - 1);
        int m = some(0, 30);
        int p = some(0, parts - 1);
        switch (below(34)) {
            case 0: call("part", p, some(0, 5)); break;
            case 1: call("hum", state, some(0, 2), m); break;
            case 2: call("in", state, some(0, stages - 1), some(0, 2), m); break;
            case 3: call("heard", state, m, some(0, 1)); break;
            case 4: case 5: case 6: call("ask", state, kind, of, m); break;
            case 7: case 8: call("risk", kind, of); break;
            case 9: call("volts", p, below(2) == 0 ? some(0, 20) : some(0, 999)); break;
            case 10: call("safe"); break;
            case 11: case 12: case 13: call("answer", kind, of, m, likelyAnswer(kind, of, m)); break;
            case 14: call("forget"); break;
            case 15: call("possible", some(0, 1)); break;
            case 16: case 17: call("odds", p, some(0, 1)); break;
            case 18: call("likeliest"); break;
            case 19: case 20: call("next", m, some(0, 2)); break;
            case 21: call("change", some(0, 100), some(0, 1)); break;
            case 22: call("oneByOne", some(0, 1)); break;
            case 23: call("louder", state); break;
            case 24: call("howls"); break;
            case 25: call("goes", p, some(1, 50)); break;
            case 26: call("nextToGo", some(1, 50)); break;
            case 27: call("set", some(0, 9999)); break;
            case 28: case 29: call("keep"); break;
            case 30: call("back"); break;
            case 31: call("count", some(0, 4)); break;
            case 32: call("lay"); break;
            default: call("write", some(1, 8), random.nextLong()); call("fault"); break;
        }
    }

    /** Mostly what a drawn STATE would answer, so that something stays POSSIBLE. */
    private int likelyAnswer(int kind, int of, int m) {
        int likeliest = model.likeliest();
        if (below(6) == 0 || likeliest < 0) {
            return some(0, 9);
        }
        return model.ask(likeliest, kind, of, m);
    }

    private void call(String name, Object... args) throws ReflectiveOperationException {
        String said = name + java.util.Arrays.toString(args);
        log.add(said);
        long want = ((Number) method(Model.class, name, args).invoke(model, args)).longValue();
        Object got;
        try {
            got = method(HummingSet.class, name, args).invoke(set, args);
        } catch (InvocationTargetException thrown) {
            got = thrown.getCause();
        }
        if (!(got instanceof Number) || ((Number) got).longValue() != want) {
            wrong++;
            System.out.println(log);
            System.out.println(said + " answered " + got + ", due is " + want);
        }
    }

    private static Method method(Class<?> of, String name, Object[] args) {
        for (Method m : of.getDeclaredMethods()) {
            boolean open = of == Model.class || java.lang.reflect.Modifier.isPublic(m.getModifiers());
            if (open && !java.lang.reflect.Modifier.isStatic(m.getModifiers()) && m.getName().equals(name)
                    && m.getParameterCount() == args.length) {
                return m;
            }
        }
        throw new IllegalStateException("no method " + name);
    }
}
